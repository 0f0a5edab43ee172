/-! both sides in step: each call of the class and of the reference keeps one table state for both -/
def Inv (M : zM) : Prop := ∃ T : tS, CS T M ∧ RS T M ∧ TO T
def lsT (x : Int32) : zL := [some (.float 0), some (.ref 0), some (.ref 32), some (.int x)]
theorem pr_table {M : zM} (h : Inv M) (x1 x2 : Int32) : ∃ r r' M1 M2, zf_L_table [.ref 0, .int x1, .int x2] M = some (some r, M1) ∧ zf_M_table [.ref 32, .int x1, .int x2] M1 = some (some r', M2) ∧ Inv M2 ∧ r = r' := by
  obtain ⟨T, hC, hR, hT⟩ := h
  obtain ⟨M1, e1, c1, h1⟩ := qL_table x1 x2 hC
  obtain ⟨M2, e2, r2, t2, l2⟩ := qM_table (M := M1) x1 x2 (hR.hi hT h1) hT
  exact ⟨_, _, M1, M2, e1, e2, ⟨_, c1.lo l2, r2, t2⟩, rfl⟩
theorem pr_set {M : zM} (h : Inv M) (x1 x2 x3 x4 : Int32) : ∃ r r' M1 M2, zf_L_set [.ref 0, .int x1, .int x2, .int x3, .int x4] M = some (some r, M1) ∧ zf_M_set [.ref 32, .int x1, .int x2, .int x3, .int x4] M1 = some (some r', M2) ∧ Inv M2 := by
  obtain ⟨T, hC, hR, hT⟩ := h
  obtain ⟨r, M1, e1, c1, h1⟩ := qL_set x1 x2 x3 x4 hC hT
  obtain ⟨r', M2, e2, r2, t2, l2⟩ := qM_set (M := M1) x1 x2 x3 x4 (hR.hi hT h1) hT
  exact ⟨r, r', M1, M2, e1, e2, _, c1.lo l2, r2, t2⟩
theorem pr_at {M : zM} (h : Inv M) (x1 x2 x3 : Int32) : ∃ r r' M1 M2, zf_L_at [.ref 0, .int x1, .int x2, .int x3] M = some (some r, M1) ∧ zf_M_at [.ref 32, .int x1, .int x2, .int x3] M1 = some (some r', M2) ∧ Inv M2 ∧ r = r' := by
  obtain ⟨T, hC, hR, hT⟩ := h
  exact ⟨_, _, M, M, qL_at x1 x2 x3 hC hT, qM_at x1 x2 x3 hR hT, ⟨T, hC, hR, hT⟩, rfl⟩
theorem pr_empty {M : zM} (h : Inv M) (x1 : Int32) : ∃ r r' M1 M2, zf_L_empty [.ref 0, .int x1] M = some (some r, M1) ∧ zf_M_empty [.ref 32, .int x1] M1 = some (some r', M2) ∧ Inv M2 ∧ r = r' := by
  obtain ⟨T, hC, hR, hT⟩ := h
  exact ⟨_, _, M, M, qL_empty x1 hC hT, qM_empty x1 hR hT, ⟨T, hC, hR, hT⟩, rfl⟩
theorem pr_ways {M : zM} (h : Inv M) (x1 x2 : Int32) : ∃ r r' M1 M2, zf_L_ways [.ref 0, .int x1, .int x2] M = some (some r, M1) ∧ zf_M_ways [.ref 32, .int x1, .int x2] M1 = some (some r', M2) ∧ Inv M2 ∧ r = r' := by
  obtain ⟨T, hC, hR, hT⟩ := h
  obtain ⟨M1, e1, s1⟩ := qL_ways x1 x2 hC hT
  obtain ⟨M2, e2, s2⟩ := qM_ways (M := M1) x1 x2 (hR.hi hT s1.hi) hT
  exact ⟨_, _, M1, M2, e1, e2, ⟨T, (hC.sc s1).lo s2.lo, (hR.hi hT s1.hi).sr hT s2, hT⟩, rfl⟩
theorem pr_end {M : zM} (h : Inv M) (x1 x2 : Int32) : ∃ r r' M1 M2, zf_L_end [.ref 0, .int x1, .int x2] M = some (some r, M1) ∧ zf_M_end [.ref 32, .int x1, .int x2] M1 = some (some r', M2) ∧ Inv M2 ∧ r = r' := by
  obtain ⟨T, hC, hR, hT⟩ := h
  obtain ⟨M1, e1, c1, h1⟩ := qL_end x1 x2 hC hT
  obtain ⟨M2, e2, r2, t2, l2⟩ := qM_end (M := M1) x1 x2 (hR.hi hT h1) hT
  exact ⟨_, _, M1, M2, e1, e2, ⟨_, c1.lo l2, r2, t2⟩, rfl⟩
theorem pr_divide {M : zM} (h : Inv M) (x1 x2 x3 x4 : Int32) : ∃ r r' M1 M2, zf_L_divide [.ref 0, .int x1, .int x2, .int x3, .int x4] M = some (some r, M1) ∧ zf_M_divide [.ref 32, .int x1, .int x2, .int x3, .int x4] M1 = some (some r', M2) ∧ Inv M2 ∧ r = r' := by
  obtain ⟨T, hC, hR, hT⟩ := h
  exact ⟨_, _, M, M, qL_divide x1 x2 x3 x4 hC hT, qM_divide x1 x2 x3 x4 hR hT, ⟨T, hC, hR, hT⟩, rfl⟩
theorem pr_law {M : zM} (h : Inv M) (x1 x2 x3 : Int32) : ∃ r r' M1 M2, zf_L_law [.ref 0, .int x1, .int x2, .int x3] M = some (some r, M1) ∧ zf_M_law [.ref 32, .int x1, .int x2, .int x3] M1 = some (some r', M2) ∧ Inv M2 ∧ r = r' := by
  obtain ⟨T, hC, hR, hT⟩ := h
  exact ⟨_, _, M, M, qL_law x1 x2 x3 hC hT, qM_law x1 x2 x3 hR hT, ⟨T, hC, hR, hT⟩, rfl⟩
theorem pr_joining {M : zM} (h : Inv M) (x1 x2 : Int32) : ∃ r r' M1 M2, zf_L_joining [.ref 0, .int x1, .int x2] M = some (some r, M1) ∧ zf_M_joining [.ref 32, .int x1, .int x2] M1 = some (some r', M2) ∧ Inv M2 ∧ r = r' := by
  obtain ⟨T, hC, hR, hT⟩ := h
  exact ⟨_, _, M, M, qL_joining x1 x2 hC hT, qM_joining x1 x2 hR hT, ⟨T, hC, hR, hT⟩, rfl⟩
theorem pr_made {M : zM} (h : Inv M) (x1 x2 : Int32) : ∃ r r' M1 M2, zf_L_made [.ref 0, .int x1, .int x2] M = some (some r, M1) ∧ zf_M_made [.ref 32, .int x1, .int x2] M1 = some (some r', M2) ∧ Inv M2 ∧ r = r' := by
  obtain ⟨T, hC, hR, hT⟩ := h
  exact ⟨_, _, M, M, qL_made' x1 x2 hC hR hT, qM_made x1 x2 hR hT, ⟨T, hC, hR, hT⟩, rfl⟩
theorem pr_parts {M : zM} (h : Inv M) (x1 x2 : Int32) : ∃ r r' M1 M2, zf_L_parts [.ref 0, .int x1, .int x2] M = some (some r, M1) ∧ zf_M_parts [.ref 32, .int x1, .int x2] M1 = some (some r', M2) ∧ Inv M2 ∧ r = r' := by
  obtain ⟨T, hC, hR, hT⟩ := h
  exact ⟨_, _, M, M, qL_parts x1 x2 hC hT, qM_parts x1 x2 hR hT, ⟨T, hC, hR, hT⟩, rfl⟩
theorem pr_normal {M : zM} (h : Inv M) (x1 x2 : Int32) : ∃ r r' M1 M2, zf_L_normal [.ref 0, .int x1, .int x2] M = some (some r, M1) ∧ zf_M_normal [.ref 32, .int x1, .int x2] M1 = some (some r', M2) ∧ Inv M2 ∧ r = r' := by
  obtain ⟨T, hC, hR, hT⟩ := h
  exact ⟨_, _, M, M, qL_normal x1 x2 hC hT, qM_normal x1 x2 hR hT, ⟨T, hC, hR, hT⟩, rfl⟩
theorem pr_left {M : zM} (h : Inv M) (x1 x2 x3 : Int32) : ∃ r r' M1 M2, zf_L_left [.ref 0, .int x1, .int x2, .int x3] M = some (some r, M1) ∧ zf_M_left [.ref 32, .int x1, .int x2, .int x3] M1 = some (some r', M2) ∧ Inv M2 ∧ r = r' := by
  obtain ⟨T, hC, hR, hT⟩ := h
  obtain ⟨M1, e1, c1, h1⟩ := qL_left x1 x2 x3 hC hT
  obtain ⟨M2, e2, r2, t2, l2⟩ := qM_left (M := M1) x1 x2 x3 (hR.hi hT h1) hT
  exact ⟨_, _, M1, M2, e1, e2, ⟨_, c1.lo l2, r2, t2⟩, rfl⟩
theorem pr_group {M : zM} (h : Inv M) (x1 : Int32) : ∃ r r' M1 M2, zf_L_group [.ref 0, .int x1] M = some (some r, M1) ∧ zf_M_group [.ref 32, .int x1] M1 = some (some r', M2) ∧ Inv M2 ∧ r = r' := by
  obtain ⟨T, hC, hR, hT⟩ := h
  obtain ⟨r, M1, e1, s1, a1⟩ := qL_groupF x1 hC hT
  obtain ⟨r', M2, e2, s2, a2⟩ := qM_groupF (M := M1) x1 (hR.hi hT s1.hi) hT
  exact ⟨r, r', M1, M2, e1, e2, ⟨T, (hC.sc s1).lo s2.lo, (hR.hi hT s1.hi).sr hT s2, hT⟩, aG_eq hT a1 a2⟩
theorem pr_alike {M : zM} (h : Inv M) (x1 x2 x3 : Int32) : ∃ r r' M1 M2, zf_L_alike [.ref 0, .int x1, .int x2, .int x3] M = some (some r, M1) ∧ zf_M_alike [.ref 32, .int x1, .int x2, .int x3] M1 = some (some r', M2) ∧ Inv M2 ∧ r = r' := by
  obtain ⟨T, hC, hR, hT⟩ := h
  obtain ⟨M1, e1, s1⟩ := qL_alikeF x1 x2 x3 hC hT
  obtain ⟨M2, e2, s2⟩ := qM_alikeF (M := M1) x1 x2 x3 (hR.hi hT s1.hi) hT
  exact ⟨_, _, M1, M2, e1, e2, ⟨T, (hC.sc s1).lo s2.lo, (hR.hi hT s1.hi).sr hT s2, hT⟩, rfl⟩
theorem pr_name {M : zM} (h : Inv M) (x1 x2 : Int32) : ∃ r r' M1 M2, zf_L_name [.ref 0, .int x1, .int x2] M = some (some r, M1) ∧ zf_M_name [.ref 32, .int x1, .int x2] M1 = some (some r', M2) ∧ Inv M2 ∧ r = r' := by
  obtain ⟨T, hC, hR, hT⟩ := h
  obtain ⟨M1, e1, c1, h1⟩ := qL_name x1 x2 hC hT
  obtain ⟨M2, e2, r2, t2, l2⟩ := qM_name (M := M1) x1 x2 (hR.hi hT h1) hT
  exact ⟨_, _, M1, M2, e1, e2, ⟨_, c1.lo l2, r2, t2⟩, rfl⟩
theorem pr_square {M : zM} (h : Inv M) (x1 x2 : Int32) : ∃ r r' M1 M2, zf_L_square [.ref 0, .int x1, .int x2] M = some (some r, M1) ∧ zf_M_square [.ref 32, .int x1, .int x2] M1 = some (some r', M2) ∧ Inv M2 ∧ r = r' := by
  obtain ⟨T, hC, hR, hT⟩ := h
  exact ⟨_, _, M, M, qL_square x1 x2 hC hT, qM_square x1 x2 hR hT, ⟨T, hC, hR, hT⟩, rfl⟩
theorem pr_turn {M : zM} (h : Inv M) (x1 x2 : Int32) : ∃ r r' M1 M2, zf_L_turn [.ref 0, .int x1, .int x2] M = some (some r, M1) ∧ zf_M_turn [.ref 32, .int x1, .int x2] M1 = some (some r', M2) ∧ Inv M2 ∧ r = r' := by
  obtain ⟨T, hC, hR, hT⟩ := h
  obtain ⟨M1, e1, c1, h1⟩ := qL_turn x1 x2 hC hT
  obtain ⟨M2, e2, r2, t2, l2⟩ := qM_turn (M := M1) x1 x2 (hR.hi hT h1) hT
  exact ⟨_, _, M1, M2, e1, e2, ⟨_, c1.lo l2, r2, t2⟩, rfl⟩
theorem pr_doubled {M : zM} (h : Inv M) (x1 x2 x3 : Int32) : ∃ r r' M1 M2, zf_L_doubled [.ref 0, .int x1, .int x2, .int x3] M = some (some r, M1) ∧ zf_M_doubled [.ref 32, .int x1, .int x2, .int x3] M1 = some (some r', M2) ∧ Inv M2 ∧ r = r' := by
  obtain ⟨T, hC, hR, hT⟩ := h
  obtain ⟨M1, e1, c1, h1⟩ := qL_doubled x1 x2 x3 hC hT
  obtain ⟨M2, e2, r2, t2, l2⟩ := qM_doubled (M := M1) x1 x2 x3 (hR.hi hT h1) hT
  exact ⟨_, _, M1, M2, e1, e2, ⟨_, c1.lo l2, r2, t2⟩, rfl⟩
theorem pr_product {M : zM} (h : Inv M) (x1 x2 x3 : Int32) : ∃ r r' M1 M2, zf_L_product [.ref 0, .int x1, .int x2, .int x3] M = some (some r, M1) ∧ zf_M_product [.ref 32, .int x1, .int x2, .int x3] M1 = some (some r', M2) ∧ Inv M2 ∧ r = r' := by
  obtain ⟨T, hC, hR, hT⟩ := h
  obtain ⟨M1, e1, c1, h1⟩ := qL_product x1 x2 x3 hC hT
  obtain ⟨M2, e2, r2, t2, l2⟩ := qM_product (M := M1) x1 x2 x3 (hR.hi hT h1) hT
  exact ⟨_, _, M1, M2, e1, e2, ⟨_, c1.lo l2, r2, t2⟩, rfl⟩
theorem pr_size {M : zM} (h : Inv M) (x1 : Int32) : ∃ r r' M1 M2, zf_L_size [.ref 0, .int x1] M = some (some r, M1) ∧ zf_M_size [.ref 32, .int x1] M1 = some (some r', M2) ∧ Inv M2 ∧ r = r' := by
  obtain ⟨T, hC, hR, hT⟩ := h
  exact ⟨_, _, M, M, qL_size x1 hC, qM_size x1 hR, ⟨T, hC, hR, hT⟩, rfl⟩
theorem top_drop {fL fM : zF} {aL aM : zA} {ls : zL} {M M1 M2 : zM} {vL vM : List Value} {r1 r2 : Int32} (h1 : aL ls M = some (vL, M)) (h2 : zrcv 4 vL = true) (h3 : fL vL M = some (some r1, M1)) (h4 : aM ls M1 = some (vM, M1)) (h5 : zrcv 5 vM = true) (h6 : fM vM M1 = some (some r2, M2)) : zseq (zpop (zcallv 4 fL aL)) (zpop (zcallv 5 fM aM)) ls M = some (none, ls, M2) := by
  simp [zseq, zpop, zcallv, h1, h2, h3, h4, h5, h6]
theorem top_cmp {fL fM : zF} {aL aM : zA} {ls : zL} {M M1 M2 : zM} {vL vM : List Value} {r1 r2 : Int32} (h1 : aL ls M = some (vL, M)) (h2 : zrcv 4 vL = true) (h3 : fL vL M = some (some r1, M1)) (h4 : aM ls M1 = some (vM, M1)) (h5 : zrcv 5 vM = true) (h6 : fM vM M1 = some (some r2, M2)) (e : r1 = r2) : zif (zcmp .ne (zcallv 4 fL aL) (zcallv 5 fM aM)) (zretz (zk (nI 0))) (zskip) ls M = some (none, ls, M2) := by
  have n : xe_cd .ne r1 r2 = false := by simp [xe_cd, e]
  simp [zif, zcmp, zskip, zcallv, h1, h2, h3, h4, h5, h6, n]
theorem sx_at {G : xm_G} {i j : Nat} (h : i + j < G.2.2.2.2.1) (h2 : G.2.2.2.2.1 ≤ 2560) (M : zM) : zsx G (zbin z_add (zi 3) (zk (nI j))) (lsT (nI i)) M = some (.int (G.2.2.2.2.2 (i + j)), M) := by
  have e : nI i + nI j = nI (i + j) := nI_add i j
  have p : ¬ nI (i + j) < 0 := nI_pos (by omega)
  have c : (nI (i + j)).toNatClampNeg = i + j := nI_clamp (by omega)
  have q : ¬ G.2.2.2.2.1 ≤ i + j := by omega
  simp [zsx, lsT, zbin, zi, zk, z_add, e, p, c, q]
theorem sx_0 {G : xm_G} {i : Nat} (h : i < G.2.2.2.2.1) (h2 : G.2.2.2.2.1 ≤ 2560) (M : zM) : zsx G (zi 3) (lsT (nI i)) M = some (.int (G.2.2.2.2.2 i), M) := by
  have p : ¬ nI i < 0 := nI_pos (by omega)
  have c : (nI i).toNatClampNeg = i := nI_clamp (by omega)
  have q : ¬ G.2.2.2.2.1 ≤ i := by omega
  simp [zsx, lsT, zi, p, c, q]
theorem rc4 (l : List Value) : zrcv 4 (.ref 0 :: l) = true := rfl
theorem rc5 (l : List Value) : zrcv 5 (.ref 32 :: l) = true := rfl
theorem za_1 (x : Int32) (M : zM) : za 1 (lsT x) M = some (.ref 0, M) := rfl
theorem za_2 (x : Int32) (M : zM) : za 2 (lsT x) M = some (.ref 32, M) := rfl
theorem tO_1 : tO 1 (fun _ _ => 0) := ⟨by decide, fun a ha => ⟨(show 0 = a by omega), (show 0 = a by omega)⟩, fun a b _ _ => Or.inl Nat.one_pos, fun a b d ha hb hd _ _ => by omega, fun a b d ha hb hd _ _ => by omega⟩
theorem kT_1 {M : zM} {k : Nat} (h1 : M k 0 = nI 1) (h2 : M (k + 1) 0 = nI 0) : kT M k 1 (fun _ _ => 0) := ⟨h1, fun a b ha hb => by
  have a0 : a = 0 := by omega
  have b0 : b = 0 := by omega
  subst a0
  subst b0
  exact h2⟩
theorem rT_1 {M : zM} {t : Nat} (h1 : M 33 t = nI 1) (h2 : M 34 (64 * t) = nI 0) : rT M t 1 (fun _ _ => 0) := ⟨h1, fun a b ha hb => by
  have a0 : a = 0 := by omega
  have b0 : b = 0 := by omega
  subst a0
  subst b0
  exact h2⟩
theorem Inv_0 : Inv xp_mm := by
  refine ⟨fun _ => (1, fun _ _ => 0), fun t ht => ?_, fun t ht => ?_, fun t _ => tO_1⟩
  · refine kT_1 ?_ ?_
    · match t, ht with
      | 0, _ => rfl
      | 1, _ => rfl
      | 2, _ => rfl
      | 3, _ => rfl
    · match t, ht with
      | 0, _ => rfl
      | 1, _ => rfl
      | 2, _ => rfl
      | 3, _ => rfl
  · refine rT_1 ?_ ?_
    · match t, ht with
      | 0, _ => rfl
      | 1, _ => rfl
      | 2, _ => rfl
      | 3, _ => rfl
    · match t, ht with
      | 0, _ => rfl
      | 1, _ => rfl
      | 2, _ => rfl
      | 3, _ => rfl
