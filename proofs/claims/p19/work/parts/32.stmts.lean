/-! ENGINE, third part: statements and methods -/
theorem zw_mono {c : zB} {s : zS} : ∀ (n : Nat) (ls : zL) (M : zM) (r : Option (Option Int32) × zL × zM), zw c s n ls M = some r → zw c s (n + 1) ls M = some r := by
  intro n
  induction n with
  | zero => intro ls M r h; cases h
  | succ n ih =>
    intro ls M r h
    unfold zw at h
    unfold zw
    cases hc : c ls M with
    | none => rw [hc] at h; cases h
    | some q =>
      obtain ⟨b, M1⟩ := q
      rw [hc] at h
      cases b with
      | false => exact h
      | true =>
        dsimp only at h ⊢
        cases hs : s ls M1 with
        | none => rw [hs] at h; cases h
        | some w =>
          obtain ⟨r1, ls2, M2⟩ := w
          rw [hs] at h
          cases r1 with
          | some v => exact h
          | none => exact ih ls2 M2 r h
theorem zw_le {c : zB} {s : zS} {n m : Nat} (hnm : n ≤ m) {ls : zL} {M : zM} {r : Option (Option Int32) × zL × zM} (h : zw c s n ls M = some r) : zw c s m ls M = some r := by
  induction hnm with
  | refl => exact h
  | step _ ih => exact zw_mono _ _ _ _ ih
theorem zwh_ex {c : zB} {s : zS} {ls : zL} {M : zM} {r : Option (Option Int32) × zL × zM} (h : zwh c s ls M = some r) : ∃ n, zw c s n ls M = some r := by
  unfold zwh at h
  by_cases hx : ∃ n, (zw c s n ls M).isSome = true
  · rw [dif_pos hx] at h
    exact ⟨_, h⟩
  · rw [dif_neg hx] at h
    cases h
theorem zwh_of {c : zB} {s : zS} {n : Nat} {ls : zL} {M : zM} {r : Option (Option Int32) × zL × zM} (h : zw c s n ls M = some r) : zwh c s ls M = some r := by
  have hx : ∃ n, (zw c s n ls M).isSome = true := ⟨n, by rw [h]; rfl⟩
  unfold zwh
  rw [dif_pos hx]
  have h1 := Classical.choose_spec hx
  obtain ⟨r0, h2⟩ := Option.isSome_iff_exists.mp h1
  rw [h2]
  have a := zw_le (Nat.le_max_left n (Classical.choose hx)) h
  have b := zw_le (Nat.le_max_right n (Classical.choose hx)) h2
  rw [a] at b
  exact b.symm
/-- a loop goes on -/
theorem zwh_t {c : zB} {s : zS} {ls ls2 : zL} {M M1 M2 : zM} {r : Option (Option Int32) × zL × zM} (hc : c ls M = some (true, M1)) (hs : s ls M1 = some (none, ls2, M2)) (h : zwh c s ls2 M2 = some r) : zwh c s ls M = some r := by
  obtain ⟨n, hn⟩ := zwh_ex h
  refine zwh_of (n := n + 1) ?_
  unfold zw
  rw [hc]
  dsimp only
  rw [hs]
  exact hn
/-- a loop is left by a return -/
theorem zwh_r {c : zB} {s : zS} {ls ls2 : zL} {M M1 M2 : zM} {v : Option Int32} (hc : c ls M = some (true, M1)) (hs : s ls M1 = some (some v, ls2, M2)) : zwh c s ls M = some (some v, ls2, M2) := by
  refine zwh_of (n := 1) ?_
  unfold zw
  rw [hc]
  dsimp only
  rw [hs]
/-- a loop ends -/
theorem zwh_f {c : zB} {s : zS} {ls : zL} {M M1 : zM} (hc : c ls M = some (false, M1)) : zwh c s ls M = some (none, ls, M1) := by
  refine zwh_of (n := 1) ?_
  unfold zw
  rw [hc]
/-! refinement -/
theorem zr_skip {G : xm_G} {l : Launch} {y d pc : Nat} : zrS G l y d pc pc zskip := by
  intro ls M r ls' M' h mc ms cs zs post h1 h2 k kr
  cases h
  exact k rfl
theorem zr_seq {G : xm_G} {l : Launch} {y d pc : Nat} (p1 : Nat) {pc' : Nat} {s t : zS} (hs : zrS G l y d pc p1 s) (ht : zrS G l y d p1 pc' t) : zrS G l y d pc pc' (zseq s t) := by
  intro ls M r ls' M' h mc ms cs zs post h1 h2 k kr
  unfold zseq at h
  cases hq : s ls M with
  | none => rw [hq] at h; cases h
  | some w =>
    obtain ⟨r1, ls1, M1⟩ := w
    rw [hq] at h
    cases r1 with
    | none => exact hs ls M _ _ _ hq mc ms cs zs post h1 h2 (fun _ => ht ls1 M1 _ _ _ h mc ms cs zs post h1 h2 k kr) (fun v hv => by cases hv)
    | some v =>
      cases h
      exact hs ls M _ _ _ hq mc ms cs zs post h1 h2 (fun hv => by cases hv) kr
theorem zr_sti {G : xm_G} {l : Launch} {y d pc : Nat} (p1 pc' : Nat) {i : Nat} {e : zE} {o : xm_Op} (he : zrE G l y d pc p1 0 e) (hk : ∀ ls M v M', e ls M = some (v, M') → ∃ x, v = Value.int x) (ho : xm_op y p1 = some o) (hs : ∀ ls st, xm_stp o ls st = (xm_sti ls i st).map (fun r => (pc', r))) : zrS G l y d pc pc' (zst i e) := by
  intro ls M r ls' M' h mc ms cs zs post h1 h2 k kr
  unfold zst at h
  split at h
  · rename_i v M1 hE
    split at h
    · rename_i hi
      cases h
      obtain ⟨x, rfl⟩ := hk _ _ _ _ hE
      refine (he ls M _ _ hE).2 mc ms cs zs [] post h1 h2 (Nat.le_refl _) ?_
      refine xm_step ho ((hs ls _).trans (by unfold xm_sti; dsimp only; rw [if_pos hi]; rfl)) (k rfl)
    · cases h
  · cases h
theorem zr_sta {G : xm_G} {l : Launch} {y d pc : Nat} (p1 pc' : Nat) {i : Nat} {e : zE} {o : xm_Op} (he : zrE G l y d pc p1 0 e) (hk : ∀ ls M v M', e ls M = some (v, M') → ∃ x, v = Value.ref x) (ho : xm_op y p1 = some o) (hs : ∀ ls st, xm_stp o ls st = (xm_sta ls i st).map (fun r => (pc', r))) : zrS G l y d pc pc' (zst i e) := by
  intro ls M r ls' M' h mc ms cs zs post h1 h2 k kr
  unfold zst at h
  split at h
  · rename_i v M1 hE
    split at h
    · rename_i hi
      cases h
      obtain ⟨x, rfl⟩ := hk _ _ _ _ hE
      refine (he ls M _ _ hE).2 mc ms cs zs [] post h1 h2 (Nat.le_refl _) ?_
      refine xm_step ho ((hs ls _).trans (by unfold xm_sta; dsimp only; rw [if_pos hi]; rfl)) (k rfl)
    · cases h
  · cases h
theorem zr_inc {G : xm_G} {l : Launch} {y d pc : Nat} (pc' : Nat) {i : Nat} {n : Int32} {o : xm_Op} (m : Int) (ho : xm_op y pc = some o) (hs : ∀ ls st, xm_stp o ls st = (xm_inc ls i m).map (fun r => (pc', r, st))) (hm : Int32.ofInt m = n) : zrS G l y d pc pc' (zinc i n) := by
  intro ls M r ls' M' h mc ms cs zs post h1 h2 k kr
  unfold zinc at h
  split at h
  · rename_i x hx
    cases h
    refine xm_step ho ((hs ls _).trans (by unfold xm_inc; rw [hx, hm]; rfl)) (k rfl)
  · cases h
theorem zr_if {G : xm_G} {l : Launch} {y d pc : Nat} (p1 p2 : Nat) {pc' : Nat} {b : zB} {s t : zS} (hb : zrB G l y d pc p1 p2 0 b) (hs : zrS G l y d p1 pc' s) (ht : zrS G l y d p2 pc' t) : zrS G l y d pc pc' (zif b s t) := by
  intro ls M r ls' M' h mc ms cs zs post h1 h2 k kr
  unfold zif at h
  split at h
  · rename_i M1 hB
    exact hb ls M _ _ hB mc ms cs zs [] post h1 h2 (Nat.le_refl _) (hs ls M1 _ _ _ h mc ms cs zs post h1 h2 k kr)
  · rename_i M1 hB
    exact hb ls M _ _ hB mc ms cs zs [] post h1 h2 (Nat.le_refl _) (ht ls M1 _ _ _ h mc ms cs zs post h1 h2 k kr)
  · cases h
theorem zr_wh {G : xm_G} {l : Launch} {y d pc : Nat} (p1 : Nat) {pc' : Nat} {b : zB} {s : zS} (hb : zrB G l y d pc p1 pc' 0 b) (hs : zrS G l y d p1 pc s) : zrS G l y d pc pc' (zwh b s) := by
  intro ls M r ls' M' h
  obtain ⟨n, hn⟩ := zwh_ex h
  clear h
  induction n generalizing ls M with
  | zero => cases hn
  | succ n ih =>
    intro mc ms cs zs post h1 h2 k kr
    unfold zw at hn
    cases hc : b ls M with
    | none => rw [hc] at hn; cases hn
    | some q =>
      obtain ⟨t, M1⟩ := q
      rw [hc] at hn
      cases t with
      | false =>
        cases hn
        exact hb _ _ _ _ hc mc ms cs zs [] post h1 h2 (Nat.le_refl _) (k rfl)
      | true =>
        dsimp only at hn
        refine hb ls M _ _ hc mc ms cs zs [] post h1 h2 (Nat.le_refl _) ?_
        cases hq : s ls M1 with
        | none => rw [hq] at hn; cases hn
        | some w =>
          obtain ⟨r1, ls2, M2⟩ := w
          rw [hq] at hn
          cases r1 with
          | some v =>
            cases hn
            exact hs ls M1 _ _ _ hq mc ms cs zs post h1 h2 (fun hv => by cases hv) kr
          | none => exact hs ls M1 _ _ _ hq mc ms cs zs post h1 h2 (fun _ => ih ls2 M2 hn mc ms cs zs post h1 h2 k kr) (fun v hv => by cases hv)
theorem xm_le_kl : ∀ (n : Nat) (ls : zL), xm_le (ls.take n ++ List.replicate (ls.length - n) none) ls
  | _, [] => by simp [xm_le]
  | 0, a :: ls => by
    have h := xm_le_kl 0 ls
    simp only [List.take_zero, List.nil_append, Nat.sub_zero, List.length_cons, List.replicate_succ] at h ⊢
    exact h
  | n + 1, a :: ls => by
    have h := xm_le_kl n ls
    simp only [List.take_succ_cons, List.length_cons, Nat.add_sub_add_right, List.cons_append]
    cases a with
    | none => exact h
    | some v => exact ⟨rfl, h⟩
theorem zr_kl {G : xm_G} {l : Launch} {y d pc pc' : Nat} {n : Nat} {s : zS} (hs : zrS G l y d pc pc' s) : zrS G l y d pc pc' (zkl n s) := by
  intro ls M r ls' M' h mc ms cs zs post h1 h2 k kr
  unfold zkl at h
  cases hq : s ls M with
  | none => rw [hq] at h; cases h
  | some w =>
    obtain ⟨r1, ls1, M1⟩ := w
    rw [hq] at h
    cases r1 with
    | none =>
      cases h
      exact hs ls M _ _ _ hq mc ms cs zs post h1 h2 (fun _ => xm_sub (xm_le_kl n ls1) (k rfl)) (fun v hv => by cases hv)
    | some v =>
      cases h
      exact hs ls M _ _ _ hq mc ms cs zs post h1 h2 (fun hv => by cases hv) kr
theorem zr_goS {G : xm_G} {l : Launch} {y d pc : Nat} (p1 pc' : Nat) {s : zS} {o : xm_Op} (hs : zrS G l y d pc p1 s) (ho : xm_op y p1 = some o) (hg : ∀ ls st, xm_stp o ls st = some (pc', ls, st)) : zrS G l y d pc pc' s := by
  intro ls M r ls' M' h mc ms cs zs post h1 h2 k kr
  exact hs ls M r ls' M' h mc ms cs zs post h1 h2 (fun hr => xm_step ho (hg ls' []) (k hr)) kr
theorem zr_ret {G : xm_G} {l : Launch} {y d pc : Nat} (p1 : Nat) {pc' : Nat} {e : zE} {len a b : Nat} (he : zrE G l y d pc p1 0 e) (ho : xm_op y p1 = some (p1, .ireturn, len, a, b)) (hty : xm_rt y = some .int) : zrS G l y d pc pc' (zret e) := by
  intro ls M r ls' M' h mc ms cs zs post h1 h2 k kr
  unfold zret at h
  split at h
  · rename_i x M1 hE
    cases h
    refine (he ls M _ _ hE).2 mc ms cs zs [] post h1 h2 (Nat.le_refl _) ?_
    exact xm_retI ho hty rfl h1 h2 (kr _ rfl)
  · cases h
theorem zr_retz {G : xm_G} {l : Launch} {y d pc : Nat} (p1 : Nat) {pc' : Nat} {e : zE} {len a b : Nat} (he : zrE G l y d pc p1 0 e) (ho : xm_op y p1 = some (p1, .ireturn, len, a, b)) (hty : xm_rt y = some .boolean) : zrS G l y d pc pc' (zretz e) := by
  intro ls M r ls' M' h mc ms cs zs post h1 h2 k kr
  unfold zretz at h
  split at h
  · rename_i x M1 hE
    split at h
    · rename_i hx
      cases h
      refine (he ls M _ _ hE).2 mc ms cs zs [] post h1 h2 (Nat.le_refl _) ?_
      refine xm_retI ho hty ?_ h1 h2 (kr _ rfl)
      rcases hx with hx | hx
      · subst hx; decide
      · subst hx; decide
    · cases h
  · cases h
theorem zr_retv {G : xm_G} {l : Launch} {y d pc : Nat} {pc' : Nat} {len a b : Nat} (ho : xm_op y pc = some (pc, .return_, len, a, b)) (hty : xm_rt y = none) : zrS G l y d pc pc' zretv := by
  intro ls M r ls' M' h mc ms cs zs post h1 h2 k kr
  cases h
  exact xm_retV ho hty h1 h2 (kr _ rfl)
theorem zr_pf {G : xm_G} {l : Launch} {y d pc : Nat} (p1 p2 : Nat) {c j : Nat} {a e : zE} {i len : Nat} (ha : zrE G l y d pc p1 0 a) (he : zrE G l y d p1 p2 1 e) (ho : xm_op y p2 = some (p2, .putfield i, len, c, j)) (hI : xm_isI c j = true) : zrS G l y d pc (p2 + 3) (zpf c j a e) := by
  intro ls M r ls' M' h mc ms cs zs post h1 h2 k kr
  unfold zpf at h
  split at h
  · rename_i kk M1 hA
    split at h
    · rename_i x M2 hE
      split at h
      · rename_i ht
        cases h
        obtain ⟨N, hN⟩ := ztag_spec ht
        refine (ha ls M _ _ hA).2 mc ms cs zs [] post h1 h2 (Nat.le_refl _) ?_
        refine (he ls M1 _ _ hE).2 mc ms cs zs _ post h1 h2 (Nat.le_refl _) ?_
        exact xm_putI ho hN hI (k rfl)
      · cases h
    · cases h
  · cases h
theorem zr_pfc {G : xm_G} {l : Launch} {y d pc : Nat} (p1 p2 p3 p4 : Nat) {c j : Nat} {f : Int32 → Int32 → Int32} {a e : zE} {i i2 len len2 : Nat} {o o2 : xm_Op} (ha : zrE G l y d pc p1 0 a) (hd1 : xm_op y p1 = some o) (hd2 : ∀ ls st v, v.category = 1 → xm_stp o ls (v :: st) = some (p2, ls, v :: v :: st)) (hg : xm_op y p2 = some (p2, .getfield i2, len2, c, j)) (he : zrE G l y d (p2 + 3) p3 2 e) (hf : xm_op y p3 = some o2) (hf2 : ∀ ls st x w, xm_stp o2 ls (.int w :: .int x :: st) = some (p4, ls, .int (f x w) :: st)) (ho : xm_op y p4 = some (p4, .putfield i, len, c, j)) (hI : xm_isI c j = true) : zrS G l y d pc (p4 + 3) (zpfc c j f a e) := by
  intro ls M r ls' M' h mc ms cs zs post h1 h2 k kr
  unfold zpfc at h
  split at h
  · rename_i kk M1 hA
    split at h
    · rename_i ht
      split at h
      · rename_i x M2 hE
        cases h
        obtain ⟨N, hN⟩ := ztag_spec ht
        refine (ha ls M _ _ hA).2 mc ms cs zs [] post h1 h2 (Nat.le_refl _) ?_
        refine xm_step hd1 (hd2 ls [] (.ref kk) rfl) ?_
        refine xm_getI hg hN hI ?_
        refine (he ls M1 _ _ hE).2 mc ms cs zs _ post h1 h2 (Nat.le_refl _) ?_
        refine xm_step hf (hf2 ls _ _ x) ?_
        exact xm_putI ho hN hI (k rfl)
      · cases h
    · cases h
  · cases h
theorem zr_as {G : xm_G} {l : Launch} {y d pc : Nat} (p1 p2 p3 : Nat) {a b e : zE} {len u w9 : Nat} (ha : zrE G l y d pc p1 0 a) (hb : zrE G l y d p1 p2 1 b) (he : zrE G l y d p2 p3 2 e) (ho : xm_op y p3 = some (p3, .iastore, len, u, w9)) : zrS G l y d pc (p3 + 1) (zas 0 (fun x => x) a b e) := by
  intro ls M r ls' M' h mc ms cs zs post h1 h2 k kr
  unfold zas at h
  split at h
  · rename_i kk M1 hA
    split at h
    · rename_i i M2 hB
      split at h
      · rename_i x M3 hE
        split at h
        · rename_i ht
          cases h
          obtain ⟨N, hN, hi⟩ := zin_spec ht
          refine (ha ls M _ _ hA).2 mc ms cs zs [] post h1 h2 (Nat.le_refl _) ?_
          refine (hb ls M1 _ _ hB).2 mc ms cs zs _ post h1 h2 (Nat.le_refl _) ?_
          refine (he ls M2 _ _ hE).2 mc ms cs zs _ post h1 h2 (Nat.le_refl _) ?_
          exact xm_iast ho hN hi (k rfl)
        · cases h
      · cases h
    · cases h
  · cases h
theorem zr_asz {G : xm_G} {l : Launch} {y d pc : Nat} (p1 p2 p3 : Nat) {a b e : zE} {len u w9 : Nat} (ha : zrE G l y d pc p1 0 a) (hb : zrE G l y d p1 p2 1 b) (he : zrE G l y d p2 p3 2 e) (ho : xm_op y p3 = some (p3, .bastore, len, u, w9)) : zrS G l y d pc (p3 + 1) (zas 1 (vp_nar .boolean) a b e) := by
  intro ls M r ls' M' h mc ms cs zs post h1 h2 k kr
  unfold zas at h
  split at h
  · rename_i kk M1 hA
    split at h
    · rename_i i M2 hB
      split at h
      · rename_i x M3 hE
        split at h
        · rename_i ht
          cases h
          obtain ⟨N, hN, hi⟩ := zin_spec ht
          refine (ha ls M _ _ hA).2 mc ms cs zs [] post h1 h2 (Nat.le_refl _) ?_
          refine (hb ls M1 _ _ hB).2 mc ms cs zs _ post h1 h2 (Nat.le_refl _) ?_
          refine (he ls M2 _ _ hE).2 mc ms cs zs _ post h1 h2 (Nat.le_refl _) ?_
          exact xm_zast ho hN hi (k rfl)
        · cases h
      · cases h
    · cases h
  · cases h
theorem zr_asc {G : xm_G} {l : Launch} {y d pc : Nat} (p1 p2 p3 p4 p5 : Nat) {f : Int32 → Int32 → Int32} {a b e : zE} {len len2 u w9 u2 w2 : Nat} {o o2 : xm_Op} (ha : zrE G l y d pc p1 0 a) (hb : zrE G l y d p1 p2 1 b) (hd1 : xm_op y p2 = some o) (hd2 : ∀ ls st v w, v.category = 1 → w.category = 1 → xm_stp o ls (v :: w :: st) = some (p3, ls, v :: w :: v :: w :: st)) (hl : xm_op y p3 = some (p3, .iaload, len2, u2, w2)) (he : zrE G l y d (p3 + 1) p4 3 e) (hf : xm_op y p4 = some o2) (hf2 : ∀ ls st x w, xm_stp o2 ls (.int w :: .int x :: st) = some (p5, ls, .int (f x w) :: st)) (ho : xm_op y p5 = some (p5, .iastore, len, u, w9)) : zrS G l y d pc (p5 + 1) (zasc f a b e) := by
  intro ls M r ls' M' h mc ms cs zs post h1 h2 k kr
  unfold zasc at h
  split at h
  · rename_i kk M1 hA
    split at h
    · rename_i i M2 hB
      split at h
      · rename_i ht
        split at h
        · rename_i x M3 hE
          cases h
          obtain ⟨N, hN, hi⟩ := zin_spec ht
          refine (ha ls M _ _ hA).2 mc ms cs zs [] post h1 h2 (Nat.le_refl _) ?_
          refine (hb ls M1 _ _ hB).2 mc ms cs zs _ post h1 h2 (Nat.le_refl _) ?_
          refine xm_step hd1 (hd2 ls [] (.int i) (.ref kk) rfl rfl) ?_
          refine xm_iald hl hN hi ?_
          refine (he ls M2 _ _ hE).2 mc ms cs zs _ post h1 h2 (Nat.le_refl _) ?_
          refine xm_step hf (hf2 ls _ _ x) ?_
          exact xm_iast ho hN hi (k rfl)
        · cases h
      · cases h
    · cases h
  · cases h
theorem zr_do {G : xm_G} {l : Launch} {y d pc n : Nat} (p1 : Nat) {as : zA} {f : zF} {i len a d' : Nat} (ha : zrA G l y d pc p1 0 n as) (ho : xm_op y p1 = some (p1, .invokestatic i, len, a, 0)) (hf : zrF G l a d' n f) (hn : n = xm_np a) (hd : d' + 1 ≤ d) : zrS G l y d pc (p1 + 3) (zdo f as) := by
  intro ls M r ls' M' h mc ms cs zs post h1 h2 k kr
  unfold zdo at h
  split at h
  · rename_i vs M1 hA
    split at h
    · rename_i M2 hr
      cases h
      obtain ⟨⟨a1, a2⟩, a3⟩ := ha ls M _ _ hA
      refine a3 mc ms cs zs [] post h1 h2 (Nat.le_refl _) ?_
      refine xm_callS (As := vs) (rest := []) (d' := d') (mc' := 0) (ms' := 0) ho (hf vs M1 _ _ a1 a2 hr) (a1.trans hn) hd h1 h2 (Nat.zero_le _) (fun r' h' hp => ?_)
      obtain ⟨rfl, rfl⟩ := hp
      exact k rfl
    · cases h
  · cases h
theorem zr_dov {G : xm_G} {l : Launch} {y d pc n : Nat} (p1 : Nat) {as : zA} {f : zF} {c i len a b d' : Nat} (ha : zrA G l y d pc p1 0 (n + 1) as) (ho : xm_op y p1 = some (p1, .invokevirtual i, len, a, b)) (hcl : (xm_cl[c]?).map (fun q => q.1) = some (xm_nm a).cls) (hf : zrF G l a d' (n + 1) f) (hn : n = xm_np a) (hd : d' + 1 ≤ d) : zrS G l y d pc (p1 + 3) (zdov c f as) := by
  intro ls M r ls' M' h mc ms cs zs post h1 h2 k kr
  unfold zdov at h
  split at h
  · rename_i vs M1 hA
    split at h
    · rename_i hrc
      split at h
      · rename_i M2 hr
        cases h
        obtain ⟨⟨a1, a2⟩, a3⟩ := ha ls M _ _ hA
        obtain ⟨kk, ws, N, rfl, hN⟩ := zrcv_spec hrc
        refine a3 mc ms cs zs [] post h1 h2 (Nat.le_refl _) ?_
        rw [List.reverse_cons, List.append_assoc]
        refine xm_callV (As := ws) (rest := []) (k := kk) (ci := c) (N := N) (d' := d') (mc' := 0) (ms' := 0) ho hN hcl (hf _ M1 _ _ a1 a2 hr) (by simpa using (Nat.succ.inj a1).trans hn) hd h1 h2 (Nat.zero_le _) (fun r' h' hp => ?_)
        obtain ⟨rfl, rfl⟩ := hp
        exact k rfl
      · cases h
    · cases h
  · cases h
theorem zr_cpy {G : xm_G} {l : Launch} {y d pc : Nat} (p1 p2 p3 p4 p5 : Nat) {a b : zE} {n : Nat} {i len u w : Nat} {o2 o4 o5 : xm_Op} (ha : zrE G l y d pc p1 0 a) (h2' : xm_op y p1 = some o2) (s2 : ∀ ls st, xm_stp o2 ls st = some (p2, ls, .int 0 :: st)) (hb : zrE G l y d p2 p3 2 b) (h4 : xm_op y p3 = some o4) (s4 : ∀ ls st, xm_stp o4 ls st = some (p4, ls, .int 0 :: st)) (h5 : xm_op y p4 = some o5) (s5 : ∀ ls st, xm_stp o5 ls st = some (p5, ls, .int (nI n) :: st)) (ho : xm_op y p5 = some (p5, .invokestatic i, len, u, w + 2)) (hn : 0 < n ∧ n < 1000) (hd : 1 ≤ d) : zrS G l y d pc (p5 + 3) (zcpy a b n) := by
  intro ls M r ls' M' h mc ms cs zs post h1 h2 k kr
  unfold zcpy at h
  split at h
  · rename_i k0 M1 hA
    split at h
    · rename_i k1 M2 hB
      split at h
      · rename_i ht
        cases h
        obtain ⟨N0, hN0, hi0⟩ := zin_spec ht.1
        obtain ⟨N1, hN1, hi1⟩ := zin_spec ht.2
        refine (ha ls M _ _ hA).2 mc ms cs zs [] post h1 h2 (Nat.le_refl _) ?_
        refine xm_step h2' (s2 ls _) ?_
        refine (hb ls M1 _ _ hB).2 mc ms cs zs _ post h1 h2 (Nat.le_refl _) ?_
        refine xm_step h4 (s4 ls _) ?_
        refine xm_step h5 (s5 ls _) ?_
        have e0 : (0 : Int32).toNatClampNeg = 0 := by decide
        have en : (nI n).toNatClampNeg = n := nI_clamp (by omega)
        have g0 : n - 1 < N0 := by
          have := Nat.not_le.mp (fun q => hi0 (Or.inr q))
          rw [nI_clamp (by omega)] at this
          exact this
        have g1 : n - 1 < N1 := by
          have := Nat.not_le.mp (fun q => hi1 (Or.inr q))
          rw [nI_clamp (by omega)] at this
          exact this
        refine xm_copy ho hN0 hN1 (by decide) (by decide) (nI_pos (by omega)) (by rw [e0, en]; omega) (by rw [e0, en]; omega) hd (Nat.zero_le _) ?_
        rw [e0, en]
        exact k rfl
      · cases h
    · cases h
  · cases h
theorem zr_sw {G : xm_G} {l : Launch} {y d pc : Nat} (p1 tdf : Nat) {pc' : Nat} {e : zE} {L : List (Nat × zS)} {sd : zS} {len a b : Nat} {df lo hi : Int} {offs : Array Int} (he : zrE G l y d pc p1 0 e) (ho : xm_op y p1 = some (p1, .tableswitch df lo hi offs, len, a, b)) (hhi : lo + L.length - 1 = hi) (hp : offs.toList.map (fun f => (p1 : Int) + f) = L.map (fun q => (q.1 : Int))) (hdf : (p1 : Int) + df = (tdf : Int)) (hL : ∀ q ∈ L, zrS G l y d q.1 pc' q.2) (hD : zrS G l y d tdf pc' sd) : zrS G l y d pc pc' (zsw e lo L sd) := by
  intro ls M r ls' M' h mc ms cs zs post h1 h2 k kr
  unfold zsw at h
  split at h
  · rename_i x M1 hE
    refine (he ls M _ _ hE).2 mc ms cs zs [] post h1 h2 (Nat.le_refl _) ?_
    unfold zpick at h
    rw [hhi] at h
    by_cases hc : x.toInt < lo ∨ hi < x.toInt
    · rw [if_pos hc] at h
      refine xm_swi (t := tdf) ho ?_ (hD ls M1 _ _ _ h mc ms cs zs post h1 h2 k kr)
      unfold xm_sw
      rw [if_pos hc]
      dsimp only
      rw [hdf]
    · rw [if_neg hc] at h
      cases hq : L[(x.toInt - lo).toNat]? with
      | some q =>
        rw [hq] at h
        refine xm_swi (t := q.1) ho ?_ (hL q (List.mem_of_getElem? hq) ls M1 _ _ _ h mc ms cs zs post h1 h2 k kr)
        unfold xm_sw
        rw [if_neg hc]
        have h9 : (offs.toList.map (fun f => (p1 : Int) + f))[(x.toInt - lo).toNat]? = some (q.1 : Int) := by
          rw [hp, List.getElem?_map, hq]
          rfl
        rw [List.getElem?_map] at h9
        obtain ⟨f, hf, hf2⟩ := Option.map_eq_some_iff.mp h9
        rw [Array.getElem?_toList] at hf
        rw [hf]
        dsimp only
        rw [hf2]
      | none =>
        rw [hq] at h
        cases h
  · cases h
theorem zr_meth {G : xm_G} {l : Launch} {y d n m : Nat} (pc' : Nat) {s : zS} (hy : y < xm_N - 1 ∧ (y ≠ 151 ∧ y ≠ 152)) (hm : xm_mL y = m) (hn : n ≤ m) (hs : zrS G l y d 0 pc' s) : zrF G l y d n (zmeth m s) := by
  intro as M r M' hl hc h
  unfold zmeth at h
  split at h
  · rename_i r1 ls1 M1 hq
    cases h
    refine xm_enter' hy (List.all_eq_true.mpr (fun v hv => by rw [hc v hv]; rfl)) (by rw [hl, hm]; exact hn) rfl ?_
    rw [hm]
    exact hs _ M _ _ _ hq 0 0 0 0 _ (Nat.le_refl _) (Nat.le_refl _) (fun hv => by cases hv) (fun v hv => by cases hv; exact ⟨rfl, rfl⟩)
  · cases h
/-! which values are ints -/
def zI (e : zE) : Prop := ∀ ls M v M', e ls M = some (v, M') → ∃ x, v = Value.int x
def zR (e : zE) : Prop := ∀ ls M v M', e ls M = some (v, M') → ∃ x, v = Value.ref x
theorem zI_k {c : Int32} : zI (zk c) := fun ls M v M' h => by cases h; exact ⟨_, rfl⟩
theorem zI_i {i : Nat} : zI (zi i) := fun ls M v M' h => by
  unfold zi at h
  split at h
  · cases h; exact ⟨_, rfl⟩
  · cases h
theorem zI_bin {f : Int32 → Int32 → Int32} {a b : zE} : zI (zbin f a b) := fun ls M v M' h => by
  unfold zbin at h
  split at h
  · split at h
    · cases h; exact ⟨_, rfl⟩
    · cases h
  · cases h
theorem zI_div {a b : zE} : zI (zdiv a b) := fun ls M v M' h => by
  unfold zdiv at h
  split at h
  · split at h
    · split at h
      · cases h
      · cases h; exact ⟨_, rfl⟩
    · cases h
  · cases h
theorem zI_rem {a b : zE} : zI (zrem a b) := fun ls M v M' h => by
  unfold zrem at h
  split at h
  · split at h
    · split at h
      · cases h
      · cases h; exact ⟨_, rfl⟩
    · cases h
  · cases h
theorem zI_gi {c j : Nat} {a : zE} : zI (zgi c j a) := fun ls M v M' h => by
  unfold zgi at h
  split at h
  · split at h
    · cases h; exact ⟨_, rfl⟩
    · cases h
  · cases h
theorem zI_ld {t : Nat} {a b : zE} : zI (zld t a b) := fun ls M v M' h => by
  unfold zld at h
  split at h
  · split at h
    · split at h
      · cases h; exact ⟨_, rfl⟩
      · cases h
    · cases h
  · cases h
theorem zI_len {a : zE} : zI (zlen a) := fun ls M v M' h => by
  unfold zlen at h
  split at h
  · split at h
    · split at h
      · cases h; exact ⟨_, rfl⟩
      · cases h
    · cases h
  · cases h
theorem zI_call {f : zF} {as : zA} : zI (zcall f as) := fun ls M v M' h => by
  unfold zcall at h
  split at h
  · split at h
    · cases h; exact ⟨_, rfl⟩
    · cases h
  · cases h
theorem zI_callv {c : Nat} {f : zF} {as : zA} : zI (zcallv c f as) := fun ls M v M' h => by
  unfold zcallv at h
  split at h
  · split at h
    · split at h
      · cases h; exact ⟨_, rfl⟩
      · cases h
    · cases h
  · cases h
theorem zI_ite {b : zB} {e1 e2 : zE} (h1 : zI e1) (h2 : zI e2) : zI (zite b e1 e2) := fun ls M v M' h => by
  unfold zite at h
  split at h
  · exact h1 _ _ _ _ h
  · exact h2 _ _ _ _ h
  · cases h
theorem zR_ldr {a b : zE} : zR (zldr a b) := fun ls M v M' h => by
  unfold zldr at h
  split at h
  · split at h
    · split at h
      · split at h
        · cases h; exact ⟨_, rfl⟩
        · cases h
      · cases h
    · cases h
  · cases h
theorem zrL_n {P : Nat × zS → Prop} : ∀ q ∈ ([] : List (Nat × zS)), P q := fun q h => absurd h List.not_mem_nil
theorem zrL_c {P : Nat × zS → Prop} {a : Nat × zS} {L : List (Nat × zS)} (h : P a) (hL : ∀ q ∈ L, P q) : ∀ q ∈ a :: L, P q := fun q hq => by
  rcases List.mem_cons.mp hq with h2 | h2
  · rw [h2]; exact h
  · exact hL q h2
