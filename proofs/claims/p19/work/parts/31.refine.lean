/-! ENGINE, second part: bytecode does what the function says -/
def zrE (G : xm_G) (l : Launch) (y d pc pc' q : Nat) (e : zE) : Prop := ∀ (ls : zL) (M : zM) (v : Value) (M' : zM), e ls M = some (v, M') → v.category = 1 ∧ ∀ (mc ms cs zs : Nat) (st : List Value) (post : Option Value → xm_H → Prop), cs ≤ mc → zs ≤ ms → zcat st ≤ q → xm_X G l y d mc ms cs zs pc' ls (v :: st) (zh M') post → xm_X G l y d mc ms cs zs pc ls st (zh M) post
def zrA (G : xm_G) (l : Launch) (y d pc pc' q n : Nat) (e : zA) : Prop := ∀ (ls : zL) (M : zM) (vs : List Value) (M' : zM), e ls M = some (vs, M') → (vs.length = n ∧ ∀ v ∈ vs, v.category = 1) ∧ ∀ (mc ms cs zs : Nat) (st : List Value) (post : Option Value → xm_H → Prop), cs ≤ mc → zs ≤ ms → zcat st ≤ q → xm_X G l y d mc ms cs zs pc' ls (vs.reverse ++ st) (zh M') post → xm_X G l y d mc ms cs zs pc ls st (zh M) post
def zrB (G : xm_G) (l : Launch) (y d pc pT pF q : Nat) (b : zB) : Prop := ∀ (ls : zL) (M : zM) (r : Bool) (M' : zM), b ls M = some (r, M') → ∀ (mc ms cs zs : Nat) (st : List Value) (post : Option Value → xm_H → Prop), cs ≤ mc → zs ≤ ms → zcat st ≤ q → xm_X G l y d mc ms cs zs (bif r then pT else pF) ls st (zh M') post → xm_X G l y d mc ms cs zs pc ls st (zh M) post
def zrS (G : xm_G) (l : Launch) (y d pc pc' : Nat) (s : zS) : Prop := ∀ (ls : zL) (M : zM) (r : Option (Option Int32)) (ls' : zL) (M' : zM), s ls M = some (r, ls', M') → ∀ (mc ms cs zs : Nat) (post : Option Value → xm_H → Prop), cs ≤ mc → zs ≤ ms → (r = none → xm_X G l y d mc ms cs zs pc' ls' [] (zh M') post) → (∀ v, r = some v → post (v.map Value.int) (zh M')) → xm_X G l y d mc ms cs zs pc ls [] (zh M) post
def zrF (G : xm_G) (l : Launch) (y d n : Nat) (f : zF) : Prop := ∀ (as : List Value) (M : zM) (r : Option Int32) (M' : zM), as.length = n → (∀ v ∈ as, v.category = 1) → f as M = some (r, M') → xm_C G l y d 0 0 as (zh M) (fun r' h' => r' = r.map Value.int ∧ h' = zh M')
theorem ztag_spec {k t : Nat} (h : ztag k t = true) : ∃ N, xp_sh[k]? = some (t, N) := by
  unfold ztag at h
  split at h
  · rename_i q hq
    obtain ⟨a, b⟩ := q
    simp only [decide_eq_true_eq] at h
    subst h
    exact ⟨b, hq⟩
  · cases h
theorem zin_spec {k t : Nat} {i : Int32} (h : zin t k i = true) : ∃ N, xp_sh[k]? = some (t, N) ∧ vp_in i N := by
  unfold zin at h
  split at h
  · rename_i q hq
    obtain ⟨a, b⟩ := q
    simp only [Bool.and_eq_true, Bool.not_eq_true', decide_eq_true_eq, decide_eq_false_iff_not] at h
    obtain ⟨h1, h2, h3⟩ := h
    subst h1
    refine ⟨b, hq, ?_⟩
    intro z
    rcases z with z | z
    · exact h2 z
    · exact absurd h3 (Nat.not_lt.mpr z)
  · cases h
theorem zcat_cons {v : Value} {st : List Value} : zcat (v :: st) = v.category + zcat st := by simp [zcat]
theorem zcat_app {as st : List Value} (h : ∀ v ∈ as, v.category = 1) : zcat (as.reverse ++ st) = as.length + zcat st := by
  have e : ∀ as : List Value, (∀ v ∈ as, v.category = 1) → zcat as = as.length := by
    intro as
    induction as with
    | nil => intro _; rfl
    | cons a as ih =>
      intro h
      rw [zcat_cons, h a List.mem_cons_self, ih (fun v hv => h v (List.mem_cons_of_mem _ hv)), List.length_cons]
      omega
  have e2 : zcat (as.reverse ++ st) = zcat as.reverse + zcat st := by simp [zcat]
  rw [e2, e as.reverse (fun v hv => h v (List.mem_reverse.mp hv)), List.length_reverse]
/-! expressions -/
theorem zr_push {G : xm_G} {l : Launch} {y d pc q : Nat} (pc' : Nat) {c : Int32} {o : xm_Op} (ho : xm_op y pc = some o) (hs : ∀ ls st, xm_stp o ls st = some (pc', ls, .int c :: st)) : zrE G l y d pc pc' q (zk c) := by
  intro ls M v M' h
  cases h
  exact ⟨rfl, fun mc ms cs zs st post _ _ _ k => xm_step ho (hs ls st) k⟩
theorem zr_ldi {G : xm_G} {l : Launch} {y d pc q : Nat} (pc' : Nat) {i : Nat} {o : xm_Op} (ho : xm_op y pc = some o) (hs : ∀ ls st, xm_stp o ls st = (xm_ldi ls i st).map (fun r => (pc', ls, r))) : zrE G l y d pc pc' q (zi i) := by
  intro ls M v M' h
  unfold zi at h
  split at h
  · cases h
    rename_i x hx
    refine ⟨rfl, fun mc ms cs zs st post _ _ _ k => xm_step ho ((hs ls st).trans (by unfold xm_ldi; rw [hx]; rfl)) k⟩
  · cases h
theorem zr_lda {G : xm_G} {l : Launch} {y d pc q : Nat} (pc' : Nat) {i : Nat} {o : xm_Op} (ho : xm_op y pc = some o) (hs : ∀ ls st, xm_stp o ls st = (xm_lda ls i st).map (fun r => (pc', ls, r))) : zrE G l y d pc pc' q (za i) := by
  intro ls M v M' h
  unfold za at h
  split at h
  · cases h
    rename_i x hx
    refine ⟨rfl, fun mc ms cs zs st post _ _ _ k => xm_step ho ((hs ls st).trans (by unfold xm_lda; rw [hx]; rfl)) k⟩
  · cases h
theorem zr_bin {G : xm_G} {l : Launch} {y d pc q : Nat} (p1 p2 pc' : Nat) {f : Int32 → Int32 → Int32} {a b : zE} {o : xm_Op} (ha : zrE G l y d pc p1 q a) (hb : zrE G l y d p1 p2 (q + 1) b) (ho : xm_op y p2 = some o) (hs : ∀ ls st x w, xm_stp o ls (.int w :: .int x :: st) = some (pc', ls, .int (f x w) :: st)) : zrE G l y d pc pc' q (zbin f a b) := by
  intro ls M v M' h
  unfold zbin at h
  split at h
  · rename_i x M1 hA
    split at h
    · rename_i w M2 hB
      cases h
      refine ⟨rfl, fun mc ms cs zs st post h1 h2 h3 k => ?_⟩
      refine (ha ls M _ _ hA).2 mc ms cs zs st post h1 h2 h3 ?_
      refine (hb ls M1 _ _ hB).2 mc ms cs zs _ post h1 h2 (by rw [zcat_cons]; show 1 + zcat st ≤ q + 1; omega) ?_
      exact xm_step ho (hs ls st x w) k
    · cases h
  · cases h
theorem zr_div {G : xm_G} {l : Launch} {y d pc q : Nat} (p1 p2 : Nat) {a b : zE} {len u w9 : Nat} (ha : zrE G l y d pc p1 q a) (hb : zrE G l y d p1 p2 (q + 1) b) (ho : xm_op y p2 = some (p2, .idiv, len, u, w9)) : zrE G l y d pc (p2 + 1) q (zdiv a b) := by
  intro ls M v M' h
  unfold zdiv at h
  split at h
  · rename_i x M1 hA
    split at h
    · rename_i w M2 hB
      split at h
      · cases h
      · rename_i hz
        cases h
        refine ⟨rfl, fun mc ms cs zs st post h1 h2 h3 k => ?_⟩
        refine (ha ls M _ _ hA).2 mc ms cs zs st post h1 h2 h3 ?_
        refine (hb ls M1 _ _ hB).2 mc ms cs zs _ post h1 h2 (by rw [zcat_cons]; show 1 + zcat st ≤ q + 1; omega) ?_
        exact xm_idiv ho hz k
    · cases h
  · cases h
theorem zr_rem {G : xm_G} {l : Launch} {y d pc q : Nat} (p1 p2 : Nat) {a b : zE} {len u w9 : Nat} (ha : zrE G l y d pc p1 q a) (hb : zrE G l y d p1 p2 (q + 1) b) (ho : xm_op y p2 = some (p2, .irem, len, u, w9)) : zrE G l y d pc (p2 + 1) q (zrem a b) := by
  intro ls M v M' h
  unfold zrem at h
  split at h
  · rename_i x M1 hA
    split at h
    · rename_i w M2 hB
      split at h
      · cases h
      · rename_i hz
        cases h
        refine ⟨rfl, fun mc ms cs zs st post h1 h2 h3 k => ?_⟩
        refine (ha ls M _ _ hA).2 mc ms cs zs st post h1 h2 h3 ?_
        refine (hb ls M1 _ _ hB).2 mc ms cs zs _ post h1 h2 (by rw [zcat_cons]; show 1 + zcat st ≤ q + 1; omega) ?_
        exact xm_irem ho hz k
    · cases h
  · cases h
theorem zr_gi {G : xm_G} {l : Launch} {y d pc q : Nat} (p1 : Nat) {c j : Nat} {a : zE} {i len : Nat} (ha : zrE G l y d pc p1 q a) (ho : xm_op y p1 = some (p1, .getfield i, len, c, j)) (hI : xm_isI c j = true) : zrE G l y d pc (p1 + 3) q (zgi c j a) := by
  intro ls M v M' h
  unfold zgi at h
  split at h
  · rename_i k M1 hA
    split at h
    · rename_i ht
      cases h
      obtain ⟨N, hN⟩ := ztag_spec ht
      refine ⟨rfl, fun mc ms cs zs st post h1 h2 h3 kk => ?_⟩
      refine (ha ls M _ _ hA).2 mc ms cs zs st post h1 h2 h3 ?_
      exact xm_getI ho hN hI kk
    · cases h
  · cases h
theorem zr_gr {G : xm_G} {l : Launch} {y d pc q : Nat} (p1 : Nat) {c j : Nat} {a : zE} {i len : Nat} (ha : zrE G l y d pc p1 q a) (ho : xm_op y p1 = some (p1, .getfield i, len, c, j)) (hI : xm_isI c j = false) : zrE G l y d pc (p1 + 3) q (zgr c j a) := by
  intro ls M v M' h
  unfold zgr at h
  split at h
  · rename_i k M1 hA
    split at h
    · rename_i ht
      split at h
      · rename_i r hr
        cases h
        obtain ⟨N, hN⟩ := ztag_spec ht
        refine ⟨rfl, fun mc ms cs zs st post h1 h2 h3 kk => ?_⟩
        refine (ha ls M _ _ hA).2 mc ms cs zs st post h1 h2 h3 ?_
        exact xm_getR ho hN hI hr kk
      · cases h
    · cases h
  · cases h
theorem zr_ld {G : xm_G} {l : Launch} {y d pc q : Nat} (p1 p2 : Nat) {a b : zE} {len u w9 : Nat} (ha : zrE G l y d pc p1 q a) (hb : zrE G l y d p1 p2 (q + 1) b) (ho : xm_op y p2 = some (p2, .iaload, len, u, w9)) : zrE G l y d pc (p2 + 1) q (zld 0 a b) := by
  intro ls M v M' h
  unfold zld at h
  split at h
  · rename_i k M1 hA
    split at h
    · rename_i i M2 hB
      split at h
      · rename_i ht
        cases h
        obtain ⟨N, hN, hi⟩ := zin_spec ht
        refine ⟨rfl, fun mc ms cs zs st post h1 h2 h3 kk => ?_⟩
        refine (ha ls M _ _ hA).2 mc ms cs zs st post h1 h2 h3 ?_
        refine (hb ls M1 _ _ hB).2 mc ms cs zs _ post h1 h2 (by rw [zcat_cons]; show 1 + zcat st ≤ q + 1; omega) ?_
        exact xm_iald ho hN hi kk
      · cases h
    · cases h
  · cases h
theorem zr_ldz {G : xm_G} {l : Launch} {y d pc q : Nat} (p1 p2 : Nat) {a b : zE} {len u w9 : Nat} (ha : zrE G l y d pc p1 q a) (hb : zrE G l y d p1 p2 (q + 1) b) (ho : xm_op y p2 = some (p2, .baload, len, u, w9)) : zrE G l y d pc (p2 + 1) q (zld 1 a b) := by
  intro ls M v M' h
  unfold zld at h
  split at h
  · rename_i k M1 hA
    split at h
    · rename_i i M2 hB
      split at h
      · rename_i ht
        cases h
        obtain ⟨N, hN, hi⟩ := zin_spec ht
        refine ⟨rfl, fun mc ms cs zs st post h1 h2 h3 kk => ?_⟩
        refine (ha ls M _ _ hA).2 mc ms cs zs st post h1 h2 h3 ?_
        refine (hb ls M1 _ _ hB).2 mc ms cs zs _ post h1 h2 (by rw [zcat_cons]; show 1 + zcat st ≤ q + 1; omega) ?_
        exact xm_zald ho hN hi kk
      · cases h
    · cases h
  · cases h
theorem zr_ldr {G : xm_G} {l : Launch} {y d pc q : Nat} (p1 p2 : Nat) {a b : zE} {len u w9 : Nat} (ha : zrE G l y d pc p1 q a) (hb : zrE G l y d p1 p2 (q + 1) b) (ho : xm_op y p2 = some (p2, .aaload, len, u, w9)) : zrE G l y d pc (p2 + 1) q (zldr a b) := by
  intro ls M v M' h
  unfold zldr at h
  split at h
  · rename_i k M1 hA
    split at h
    · rename_i i M2 hB
      split at h
      · rename_i ht
        split at h
        · rename_i r hr
          cases h
          obtain ⟨N, hN, hi⟩ := zin_spec ht
          refine ⟨rfl, fun mc ms cs zs st post h1 h2 h3 kk => ?_⟩
          refine (ha ls M _ _ hA).2 mc ms cs zs st post h1 h2 h3 ?_
          refine (hb ls M1 _ _ hB).2 mc ms cs zs _ post h1 h2 (by rw [zcat_cons]; show 1 + zcat st ≤ q + 1; omega) ?_
          exact xm_aald ho hN hi hr kk
        · cases h
      · cases h
    · cases h
  · cases h
theorem zr_len {G : xm_G} {l : Launch} {y d pc q : Nat} (p1 : Nat) {a : zE} {len u w9 : Nat} (ha : zrE G l y d pc p1 q a) (ho : xm_op y p1 = some (p1, .arraylength, len, u, w9)) : zrE G l y d pc (p1 + 1) q (zlen a) := by
  intro ls M v M' h
  unfold zlen at h
  split at h
  · rename_i k M1 hA
    split at h
    · rename_i qq hq
      split at h
      · rename_i ht
        cases h
        obtain ⟨t, N⟩ := qq
        dsimp only at ht
        subst ht
        refine ⟨rfl, fun mc ms cs zs st post h1 h2 h3 kk => ?_⟩
        refine (ha ls M _ _ hA).2 mc ms cs zs st post h1 h2 h3 ?_
        exact xm_alen ho hq kk
      · cases h
    · cases h
  · cases h
theorem zr_n {G : xm_G} {l : Launch} {y d pc q : Nat} : zrA G l y d pc pc q 0 zn := by
  intro ls M vs M' h
  cases h
  exact ⟨⟨rfl, fun v hv => absurd hv List.not_mem_nil⟩, fun mc ms cs zs st post _ _ _ k => k⟩
theorem zr_c {G : xm_G} {l : Launch} {y d pc q n : Nat} (p1 pc' : Nat) {as : zA} {e : zE} (ha : zrA G l y d pc p1 q n as) (he : zrE G l y d p1 pc' (q + n) e) : zrA G l y d pc pc' q (n + 1) (zc as e) := by
  intro ls M vs M' h
  unfold zc at h
  split at h
  · rename_i ws M1 hA
    split at h
    · rename_i v M2 hE
      cases h
      obtain ⟨⟨a1, a2⟩, a3⟩ := ha ls M _ _ hA
      obtain ⟨b1, b2⟩ := he ls M1 _ _ hE
      refine ⟨⟨by rw [List.length_append, a1]; rfl, fun w hw => ?_⟩, fun mc ms cs zs st post h1 h2 h3 k => ?_⟩
      · rcases List.mem_append.mp hw with g | g
        · exact a2 w g
        · rw [List.mem_singleton.mp g]; exact b1
      · refine a3 mc ms cs zs st post h1 h2 h3 ?_
        refine b2 mc ms cs zs _ post h1 h2 (by rw [zcat_app a2, a1]; omega) ?_
        rw [List.reverse_append] at k
        exact k
    · cases h
  · cases h
theorem zr_call {G : xm_G} {l : Launch} {y d pc q n : Nat} (p1 : Nat) {as : zA} {f : zF} {i len a d' : Nat} (ha : zrA G l y d pc p1 q n as) (hq : q ≤ 8) (ho : xm_op y p1 = some (p1, .invokestatic i, len, a, 0)) (hf : zrF G l a d' n f) (hn : n = xm_np a) (hd : d' + 1 ≤ d) : zrE G l y d pc (p1 + 3) q (zcall f as) := by
  intro ls M v M' h
  unfold zcall at h
  split at h
  · rename_i vs M1 hA
    split at h
    · rename_i r M2 hr
      cases h
      obtain ⟨⟨a1, a2⟩, a3⟩ := ha ls M _ _ hA
      refine ⟨rfl, fun mc ms cs zs st post h1 h2 h3 k => ?_⟩
      refine a3 mc ms cs zs st post h1 h2 h3 ?_
      refine xm_callS (As := vs) (rest := st) (d' := d') (mc' := 0) (ms' := 0) ho (hf vs M1 _ _ a1 a2 hr) (a1.trans hn) hd h1 h2 (Nat.le_trans h3 hq) (fun r' h' hp => ?_)
      obtain ⟨rfl, rfl⟩ := hp
      exact k
    · cases h
  · cases h
theorem zr_calln {G : xm_G} {l : Launch} {y d pc q : Nat} (p1 : Nat) {as : zA} {f : zF} {i len a d' : Nat} (ha : zrA G l y d pc p1 q 2 as) (hq : q ≤ 8) (ho : xm_op y p1 = some (p1, .invokestatic i, len, a, 1)) (hf : zrF G l xi_L_isBelow d' 2 f) (hd : d' + 1 ≤ d) : zrE G l y d pc (p1 + 3) q (zcall f as) := by
  intro ls M v M' h
  unfold zcall at h
  split at h
  · rename_i vs M1 hA
    split at h
    · rename_i r M2 hr
      cases h
      obtain ⟨⟨a1, a2⟩, a3⟩ := ha ls M _ _ hA
      refine ⟨rfl, fun mc ms cs zs st post h1 h2 h3 k => ?_⟩
      refine a3 mc ms cs zs st post h1 h2 h3 ?_
      refine xm_callN (As := vs) (rest := st) (d' := d') ho (hf vs M1 _ _ a1 a2 hr) a1 hd h1 h2 (Nat.le_trans h3 hq) (fun r' h' hp => ?_)
      obtain ⟨rfl, rfl⟩ := hp
      exact k
    · cases h
  · cases h
theorem zrcv_spec {c : Nat} {vs : List Value} (h : zrcv c vs = true) : ∃ k ws N, vs = .ref k :: ws ∧ xp_sh[k]? = some (c + 3, N) := by
  unfold zrcv at h
  split at h
  · obtain ⟨N, hN⟩ := ztag_spec h
    exact ⟨_, _, N, rfl, hN⟩
  · cases h
theorem zr_callv {G : xm_G} {l : Launch} {y d pc q n : Nat} (p1 : Nat) {as : zA} {f : zF} {c i len a b d' : Nat} (ha : zrA G l y d pc p1 q (n + 1) as) (hq : q ≤ 8) (ho : xm_op y p1 = some (p1, .invokevirtual i, len, a, b)) (hcl : (xm_cl[c]?).map (fun q => q.1) = some (xm_nm a).cls) (hf : zrF G l a d' (n + 1) f) (hn : n = xm_np a) (hd : d' + 1 ≤ d) : zrE G l y d pc (p1 + 3) q (zcallv c f as) := by
  intro ls M v M' h
  unfold zcallv at h
  split at h
  · rename_i vs M1 hA
    split at h
    · rename_i hrc
      split at h
      · rename_i r M2 hr
        cases h
        obtain ⟨⟨a1, a2⟩, a3⟩ := ha ls M _ _ hA
        obtain ⟨k, ws, N, rfl, hN⟩ := zrcv_spec hrc
        refine ⟨rfl, fun mc ms cs zs st post h1 h2 h3 kk => ?_⟩
        refine a3 mc ms cs zs st post h1 h2 h3 ?_
        rw [List.reverse_cons, List.append_assoc]
        refine xm_callV (As := ws) (rest := st) (k := k) (ci := c) (N := N) (d' := d') (mc' := 0) (ms' := 0) ho hN hcl (hf _ M1 _ _ a1 a2 hr) (by simpa using (Nat.succ.inj a1).trans hn) hd h1 h2 (Nat.le_trans h3 hq) (fun r' h' hp => ?_)
        obtain ⟨rfl, rfl⟩ := hp
        exact kk
      · cases h
    · cases h
  · cases h
theorem zr_min {G : xm_G} {l : Launch} {y d pc q : Nat} (p1 p2 : Nat) {a b : zE} {i len : Nat} (ha : zrE G l y d pc p1 q a) (hb : zrE G l y d p1 p2 (q + 1) b) (hq : q ≤ 8) (hd : 1 ≤ d) (ho : xm_op y p2 = some (p2, .invokestatic i, len, 151, 0)) : zrE G l y d pc (p2 + 3) q (zmin a b) := by
  intro ls M v M' h
  unfold zmin zbin at h
  split at h
  · rename_i x M1 hA
    split at h
    · rename_i w M2 hB
      cases h
      refine ⟨rfl, fun mc ms cs zs st post h1 h2 h3 k => ?_⟩
      refine (ha ls M _ _ hA).2 mc ms cs zs st post h1 h2 h3 ?_
      refine (hb ls M1 _ _ hB).2 mc ms cs zs _ post h1 h2 (by rw [zcat_cons]; show 1 + zcat st ≤ q + 1; omega) ?_
      exact xm_mmin ho hd h1 h2 (Nat.le_trans h3 hq) k
    · cases h
  · cases h
theorem zr_max {G : xm_G} {l : Launch} {y d pc q : Nat} (p1 p2 : Nat) {a b : zE} {i len : Nat} (ha : zrE G l y d pc p1 q a) (hb : zrE G l y d p1 p2 (q + 1) b) (hq : q ≤ 8) (hd : 1 ≤ d) (ho : xm_op y p2 = some (p2, .invokestatic i, len, 152, 0)) : zrE G l y d pc (p2 + 3) q (zmax a b) := by
  intro ls M v M' h
  unfold zmax zbin at h
  split at h
  · rename_i x M1 hA
    split at h
    · rename_i w M2 hB
      cases h
      refine ⟨rfl, fun mc ms cs zs st post h1 h2 h3 k => ?_⟩
      refine (ha ls M _ _ hA).2 mc ms cs zs st post h1 h2 h3 ?_
      refine (hb ls M1 _ _ hB).2 mc ms cs zs _ post h1 h2 (by rw [zcat_cons]; show 1 + zcat st ≤ q + 1; omega) ?_
      exact xm_mmax ho hd h1 h2 (Nat.le_trans h3 hq) k
    · cases h
  · cases h
theorem zr_goE {G : xm_G} {l : Launch} {y d pc q : Nat} (p1 pc' : Nat) {e : zE} {o : xm_Op} (he : zrE G l y d pc p1 q e) (ho : xm_op y p1 = some o) (hs : ∀ ls st, xm_stp o ls st = some (pc', ls, st)) : zrE G l y d pc pc' q e := by
  intro ls M v M' h
  refine ⟨(he ls M v M' h).1, fun mc ms cs zs st post h1 h2 h3 k => ?_⟩
  exact (he ls M v M' h).2 mc ms cs zs st post h1 h2 h3 (xm_step ho (hs ls _) k)
/-! conditions -/
def zneg : ClassFile.Cond → ClassFile.Cond
  | .eq => .ne
  | .ne => .eq
  | .lt => .ge
  | .ge => .lt
  | .gt => .le
  | .le => .gt
theorem zneg_spec (c : ClassFile.Cond) (x y : Int32) : xe_cd (zneg c) x y = !xe_cd c x y := by
  have a : ∀ x y : Int32, decide (y ≤ x) = !decide (x < y) := fun x y => by
    rw [← decide_not]
    exact decide_eq_decide.mpr Int32.not_lt.symm
  have b : ∀ x y : Int32, decide (x < y) = !decide (y ≤ x) := fun x y => by
    rw [← decide_not]
    exact decide_eq_decide.mpr Int32.not_le.symm
  cases c with
  | eq => rfl
  | ne => simp [zneg, xe_cd]
  | lt => exact a x y
  | ge => exact b x y
  | gt => exact a y x
  | le => exact b y x
theorem zr_cmp {G : xm_G} {l : Launch} {y d pc q : Nat} (p1 p2 pT : Nat) {c : ClassFile.Cond} {a b : zE} {o : xm_Op} (ha : zrE G l y d pc p1 q a) (hb : zrE G l y d p1 p2 (q + 1) b) (ho : xm_op y p2 = some o) (hs : ∀ st x w, xm_br o (.int w :: .int x :: st) = some (c, x, w, pT, st)) : zrB G l y d pc pT (p2 + 3) q (zcmp c a b) := by
  intro ls M r M' h
  unfold zcmp at h
  split at h
  · rename_i x M1 hA
    split at h
    · rename_i w M2 hB
      cases h
      intro mc ms cs zs st post h1 h2 h3 k
      refine (ha ls M _ _ hA).2 mc ms cs zs st post h1 h2 h3 ?_
      refine (hb ls M1 _ _ hB).2 mc ms cs zs _ post h1 h2 (by rw [zcat_cons]; show 1 + zcat st ≤ q + 1; omega) ?_
      refine xm_if ho (hs st x w) (fun hc => ?_) (fun hc => ?_)
      · rw [(xe_cd_iff c x w).mpr hc] at k
        exact k
      · have e : xe_cd c x w = false := by
          cases hq : xe_cd c x w with
          | false => rfl
          | true => exact absurd ((xe_cd_iff c x w).mp hq) hc
        rw [e] at k
        exact k
    · cases h
  · cases h
theorem zr_cmpn {G : xm_G} {l : Launch} {y d pc q : Nat} (p1 p2 pF : Nat) (c : ClassFile.Cond) {c' : ClassFile.Cond} {a b : zE} {o : xm_Op} (ha : zrE G l y d pc p1 q a) (hb : zrE G l y d p1 p2 (q + 1) b) (ho : xm_op y p2 = some o) (hs : ∀ st x w, xm_br o (.int w :: .int x :: st) = some (c, x, w, pF, st)) (hc : zneg c = c') : zrB G l y d pc (p2 + 3) pF q (zcmp c' a b) := by
  intro ls M r M' h
  unfold zcmp at h
  split at h
  · rename_i x M1 hA
    split at h
    · rename_i w M2 hB
      cases h
      intro mc ms cs zs st post h1 h2 h3 k
      refine (ha ls M _ _ hA).2 mc ms cs zs st post h1 h2 h3 ?_
      refine (hb ls M1 _ _ hB).2 mc ms cs zs _ post h1 h2 (by rw [zcat_cons]; show 1 + zcat st ≤ q + 1; omega) ?_
      rw [← hc, zneg_spec] at k
      refine xm_if ho (hs st x w) (fun hc => ?_) (fun hc => ?_)
      · rw [(xe_cd_iff c x w).mpr hc] at k
        exact k
      · have e : xe_cd c x w = false := by
          cases hq : xe_cd c x w with
          | false => rfl
          | true => exact absurd ((xe_cd_iff c x w).mp hq) hc
        rw [e] at k
        exact k
    · cases h
  · cases h
theorem zr_cz {G : xm_G} {l : Launch} {y d pc q : Nat} (p1 pT : Nat) {c : ClassFile.Cond} {a : zE} {o : xm_Op} (ha : zrE G l y d pc p1 q a) (ho : xm_op y p1 = some o) (hs : ∀ st x, xm_br o (.int x :: st) = some (c, x, 0, pT, st)) : zrB G l y d pc pT (p1 + 3) q (zcz c a) := by
  intro ls M r M' h
  unfold zcz at h
  split at h
  · rename_i x M1 hA
    cases h
    intro mc ms cs zs st post h1 h2 h3 k
    refine (ha ls M _ _ hA).2 mc ms cs zs st post h1 h2 h3 ?_
    refine xm_if ho (hs st x) (fun hc => ?_) (fun hc => ?_)
    · rw [(xe_cd_iff c x 0).mpr hc] at k
      exact k
    · have e : xe_cd c x 0 = false := by
        cases hq : xe_cd c x 0 with
        | false => rfl
        | true => exact absurd ((xe_cd_iff c x 0).mp hq) hc
      rw [e] at k
      exact k
  · cases h
theorem zr_czn {G : xm_G} {l : Launch} {y d pc q : Nat} (p1 pF : Nat) (c : ClassFile.Cond) {c' : ClassFile.Cond} {a : zE} {o : xm_Op} (ha : zrE G l y d pc p1 q a) (ho : xm_op y p1 = some o) (hs : ∀ st x, xm_br o (.int x :: st) = some (c, x, 0, pF, st)) (hc : zneg c = c') : zrB G l y d pc (p1 + 3) pF q (zcz c' a) := by
  intro ls M r M' h
  unfold zcz at h
  split at h
  · rename_i x M1 hA
    cases h
    intro mc ms cs zs st post h1 h2 h3 k
    refine (ha ls M _ _ hA).2 mc ms cs zs st post h1 h2 h3 ?_
    rw [← hc, zneg_spec] at k
    refine xm_if ho (hs st x) (fun hc => ?_) (fun hc => ?_)
    · rw [(xe_cd_iff c x 0).mpr hc] at k
      exact k
    · have e : xe_cd c x 0 = false := by
        cases hq : xe_cd c x 0 with
        | false => rfl
        | true => exact absurd ((xe_cd_iff c x 0).mp hq) hc
      rw [e] at k
      exact k
  · cases h
theorem zr_and {G : xm_G} {l : Launch} {y d pc q : Nat} (p1 : Nat) {pT pF : Nat} {a b : zB} (ha : zrB G l y d pc p1 pF q a) (hb : zrB G l y d p1 pT pF q b) : zrB G l y d pc pT pF q (zand a b) := by
  intro ls M r M' h mc ms cs zs st post h1 h2 h3 k
  unfold zand at h
  split at h
  · rename_i M1 hA
    exact ha ls M _ _ hA mc ms cs zs st post h1 h2 h3 (hb ls M1 _ _ h mc ms cs zs st post h1 h2 h3 k)
  · rename_i r9 hn
    cases r with
    | true => exact absurd h (hn M')
    | false => exact ha ls M _ _ h mc ms cs zs st post h1 h2 h3 k
theorem zr_or {G : xm_G} {l : Launch} {y d pc q : Nat} (p1 : Nat) {pT pF : Nat} {a b : zB} (ha : zrB G l y d pc pT p1 q a) (hb : zrB G l y d p1 pT pF q b) : zrB G l y d pc pT pF q (zor a b) := by
  intro ls M r M' h mc ms cs zs st post h1 h2 h3 k
  unfold zor at h
  split at h
  · rename_i M1 hA
    exact ha ls M _ _ hA mc ms cs zs st post h1 h2 h3 (hb ls M1 _ _ h mc ms cs zs st post h1 h2 h3 k)
  · rename_i r9 hn
    cases r with
    | false => exact absurd h (hn M')
    | true => exact ha ls M _ _ h mc ms cs zs st post h1 h2 h3 k
theorem zr_not {G : xm_G} {l : Launch} {y d pc q : Nat} {pT pF : Nat} {a : zB} (ha : zrB G l y d pc pF pT q a) : zrB G l y d pc pT pF q (znot a) := by
  intro ls M r M' h mc ms cs zs st post h1 h2 h3 k
  unfold znot at h
  split at h
  · rename_i r1 M1 hA
    cases h
    refine ha ls M _ _ hA mc ms cs zs st post h1 h2 h3 ?_
    cases r1 <;> exact k
  · cases h
theorem zr_ite {G : xm_G} {l : Launch} {y d pc q : Nat} (p1 p2 : Nat) {pc' : Nat} {b : zB} {e1 e2 : zE} (hb : zrB G l y d pc p1 p2 q b) (h1 : zrE G l y d p1 pc' q e1) (h2 : zrE G l y d p2 pc' q e2) : zrE G l y d pc pc' q (zite b e1 e2) := by
  intro ls M v M' h
  unfold zite at h
  split at h
  · rename_i M1 hB
    exact ⟨(h1 ls M1 v M' h).1, fun mc ms cs zs st post g1 g2 g3 k => hb ls M _ _ hB mc ms cs zs st post g1 g2 g3 ((h1 ls M1 v M' h).2 mc ms cs zs st post g1 g2 g3 k)⟩
  · rename_i M1 hB
    exact ⟨(h2 ls M1 v M' h).1, fun mc ms cs zs st post g1 g2 g3 k => hb ls M _ _ hB mc ms cs zs st post g1 g2 g3 ((h2 ls M1 v M' h).2 mc ms cs zs st post g1 g2 g3 k)⟩
  · cases h
theorem zr_goB {G : xm_G} {l : Launch} {y d pc pT pF q : Nat} (p1 : Nat) {b : zB} {o : xm_Op} (hb : zrB G l y d pc p1 pF q b) (ho : xm_op y p1 = some o) (hs : ∀ ls st, xm_stp o ls st = some (pT, ls, st)) : zrB G l y d pc pT pF q b := by
  intro ls M r M' h mc ms cs zs st post h1 h2 h3 k
  refine hb ls M _ _ h mc ms cs zs st post h1 h2 h3 ?_
  cases r with
  | false => exact k
  | true => exact xm_step ho (hs ls st) k
theorem zr_bite {G : xm_G} {l : Launch} {y d pc pT pF q : Nat} (p1 p2 : Nat) {c a b : zB} (hc : zrB G l y d pc p1 p2 q c) (ha : zrB G l y d p1 pT pF q a) (hb : zrB G l y d p2 pT pF q b) : zrB G l y d pc pT pF q (zbite c a b) := by
  intro ls M r M' h mc ms cs zs st post h1 h2 h3 k
  unfold zbite at h
  split at h
  · rename_i M1 hC
    exact hc ls M _ _ hC mc ms cs zs st post h1 h2 h3 (ha ls M1 _ _ h mc ms cs zs st post h1 h2 h3 k)
  · rename_i M1 hC
    exact hc ls M _ _ hC mc ms cs zs st post h1 h2 h3 (hb ls M1 _ _ h mc ms cs zs st post h1 h2 h3 k)
  · cases h
