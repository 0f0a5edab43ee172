/-! ENGINE, fourth part: the law's own expressions: its script, an answer that is dropped -/
def zsl (G : xm_G) : zE := fun ls M => match ls[(0 : Nat)]? with
  | some (some (.float u)) => if u = 0 then some (.int (Int32.ofNat G.2.2.2.2.1), M) else none
  | _ => none
def zsx (G : xm_G) (e : zE) : zE := fun ls M => match ls[(0 : Nat)]? with
  | some (some (.float u)) => if u = 0 then (match e ls M with
    | some (.int i, M1) => if i < 0 then none else if G.2.2.2.2.1 ≤ i.toNatClampNeg then none else some (.int (G.2.2.2.2.2 i.toNatClampNeg), M1)
    | _ => none) else none
  | _ => none
theorem zI_sl {G : xm_G} : zI (zsl G) := fun ls M v M' h => by
  unfold zsl at h
  split at h
  · split at h
    · cases h; exact ⟨_, rfl⟩
    · cases h
  · cases h
theorem zI_sx {G : xm_G} {e : zE} : zI (zsx G e) := fun ls M v M' h => by
  unfold zsx at h
  split at h
  · split at h
    · split at h
      · split at h
        · cases h
        · split at h
          · cases h
          · cases h; exact ⟨_, rfl⟩
      · cases h
    · cases h
  · cases h
theorem zr_sl {G : xm_G} {l : Launch} {d pc q : Nat} (p1 : Nat) {o : xm_Op} {len a b : Nat} (ho : xm_op xi_law pc = some o) (hs : ∀ ls st, xm_stp o ls st = (xm_lda ls 0 st).map (fun r => (p1, ls, r))) (ho2 : xm_op xi_law p1 = some (p1, .arraylength, len, a, b)) : zrE G l xi_law d pc (p1 + 1) q (zsl G) := by
  intro ls M v M' h
  unfold zsl at h
  split at h
  · rename_i u hu
    split at h
    · rename_i h0
      cases h
      subst h0
      refine ⟨rfl, fun mc ms cs zs st post _ _ _ k => ?_⟩
      refine xm_step ho ((hs ls st).trans (by unfold xm_lda; rw [hu]; rfl)) ?_
      exact xm_slen ho2 k
    · cases h
  · cases h
theorem zr_sx {G : xm_G} {l : Launch} {d pc q : Nat} (p1 p2 : Nat) {e : zE} {o : xm_Op} {len a b : Nat} (ho : xm_op xi_law pc = some o) (hs : ∀ ls st, xm_stp o ls st = (xm_lda ls 0 st).map (fun r => (p1, ls, r))) (he : zrE G l xi_law d p1 p2 (q + 1) e) (ho2 : xm_op xi_law p2 = some (p2, .iaload, len, a, b)) : zrE G l xi_law d pc (p2 + 1) q (zsx G e) := by
  intro ls M v M' h
  unfold zsx at h
  split at h
  · rename_i u hu
    split at h
    · rename_i h0
      subst h0
      split at h
      · rename_i i M1 hE
        split at h
        · cases h
        · rename_i h1
          split at h
          · cases h
          · rename_i h2
            cases h
            refine ⟨rfl, fun mc ms cs zs st post a1 a2 a3 k => ?_⟩
            refine xm_step ho ((hs ls st).trans (by unfold xm_lda; rw [hu]; rfl)) ?_
            refine (he ls M _ _ hE).2 mc ms cs zs _ post a1 a2 (by rw [zcat_cons]; show 1 + zcat st ≤ q + 1; omega) ?_
            exact xm_sld ho2 (fun z => z.elim h1 h2) k
      · cases h
    · cases h
  · cases h
theorem xm_pop {G : xm_G} {l : Launch} {y d mc ms cs zs pc : Nat} {ls : List (Option Value)} {st : List Value} {h : xm_H} {post : Option Value → xm_H → Prop} {len a b : Nat} {v : Value} (ho : xm_op y pc = some (pc, .pop, len, a, b)) (hv : v.category = 1) (k : xm_X G l y d mc ms cs zs (pc + 1) ls st h post) : xm_X G l y d mc ms cs zs pc ls (v :: st) h post := by
  intro p e R s m args below meth c H locs base lsA Q hS hmc hms hL hW hF hk
  have hS' := hS
  obtain ⟨⟨hx, hb, hr, hml, hown⟩, ⟨hts, hK, hlk, hnm⟩, ⟨hfr, hlo, hy⟩, hbs⟩ := hS
  obtain ⟨e1, hd, hln⟩ := xm_dec hy ho
  exact lv_pop hx hb hd ((xm_v_cat _ _).trans hv) (k p e R s m args below meth c H locs base lsA Q hS' hmc hms hL hW hF hk)
theorem zr_pop {G : xm_G} {l : Launch} {y d pc : Nat} (p1 : Nat) {e : zE} {len a b : Nat} (he : zrE G l y d pc p1 0 e) (ho : xm_op y p1 = some (p1, .pop, len, a, b)) : zrS G l y d pc (p1 + 1) (zpop e) := by
  intro ls M r ls' M' h mc ms cs zs post h1 h2 k kr
  unfold zpop at h
  split at h
  · rename_i v M1 hE
    cases h
    obtain ⟨g1, g2⟩ := he ls M _ _ hE
    exact g2 mc ms cs zs [] post h1 h2 (Nat.le_refl _) (xm_pop ho g1 (k rfl))
  · cases h
