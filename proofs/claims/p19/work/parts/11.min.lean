/-! conditions as Bools; entries; more room does no harm -/
def xe_cd (c : ClassFile.Cond) (x y : Int32) : Bool := match c with
  | .eq => decide (x = y)
  | .ne => !decide (x = y)
  | .lt => decide (x < y)
  | .ge => decide (y ≤ x)
  | .gt => decide (y < x)
  | .le => decide (x ≤ y)
theorem xe_cd_iff (c : ClassFile.Cond) (x y : Int32) : xe_cd c x y = true ↔ xm_cd c x y := by cases c <;> simp [xe_cd, xm_cd]
theorem xm_enter' {G : xm_G} {l : Launch} {y d mc ms : Nat} {as : List Value} {h : xm_H} {post : Option Value → xm_H → Prop} {ls : List (Option Value)} (hy : y < xm_N - 1 ∧ (y ≠ 151 ∧ y ≠ 152)) (hc : as.all (fun v => v.category == 1) = true) (hn : as.length ≤ xm_mL y) (hls : xm_en as (xm_mL y) = ls) (hX : xm_X G l y d mc ms 0 0 0 ls [] h post) : xm_C G l y d mc ms as h post :=
  xm_enter hy.1 hy.2 (fun v hv => by simpa using List.all_eq_true.mp hc v hv) hn (hls ▸ hX)
theorem xm_dm {G : xm_G} {l : Launch} {y d d' mc ms cs zs pc : Nat} {ls : List (Option Value)} {st : List Value} {h : xm_H} {post : Option Value → xm_H → Prop} (hd : d ≤ d') (k : xm_X G l y d mc ms cs zs pc ls st h post) : xm_X G l y d' mc ms cs zs pc ls st h post := by
  intro p e R s m args below meth c H locs base lsA Q hS hmc hms hL hW hF hk
  obtain ⟨g1, g2, ⟨g3, g4, g5⟩, g6⟩ := hS
  exact k p e R s m args below meth c H locs base lsA Q ⟨g1, g2, ⟨by omega, by omega, g5⟩, g6⟩ hmc hms hL hW hF hk
