/-! p1: the law's runs on the new objects -/
abbrev xp_LS : List (Option Value) := [some (.float 0), some (.ref 0), some (.ref 32), some (.int 0)]
def xp_rf : Nat → Nat → Option Nat := hx17.2.1
def xp_mm : Nat → Nat → Int32 := hx17.2.2
def xp_sh : List (Nat × Nat) := [(7, 5), (2, 4), (3, 2), (0, 64), (3, 2), (0, 64), (3, 2), (0, 64), (3, 2), (0, 64), (3, 2), (0, 64), (4, 8), (3, 2), (0, 64), (3, 2), (0, 64), (0, 25), (0, 8), (0, 8), (5, 7), (0, 343), (0, 343), (0, 7), (0, 49), (0, 7), (6, 5), (3, 2), (0, 64), (0, 8), (0, 8), (0, 8), (8, 7), (0, 6), (0, 384), (0, 64), (0, 8), (0, 35280), (1, 5040)]
theorem xp_eq : hx17 = (xp_sh, xp_rf, xp_mm) := rfl
def xe_go (pc : Nat) (sc : List (Nat × Int32)) (ds : List Bool) : Option xe_R := xe_lp ((1000000, 5) :: sc) (xe_call ((1000000, 5) :: sc) 6000 60) 6000 xi_law pc xp_LS [] (xp_sh, xp_rf, xp_mm) ds
def xe_t (pc : Nat) (sc : List (Nat × Int32)) : Bool := match xe_go pc sc [] with
  | some (some (.int 1), _, _, []) => true
  | _ => false
def xe_P (pc : Nat) (sc : List (Nat × Int32)) : Prop := ∀ (G : xm_G) (l : Launch) (mc ms c z : Nat), G.2.2.2.2.1 = 5 → (∀ j v, sc.lookup j = some v → j < 5 ∧ G.2.2.2.2.2 j = v) → c ≤ mc → z ≤ ms → xm_X G l xi_law 1000 mc ms c z pc xp_LS [] hx17 (fun r _ => r = some (.int 1))
theorem xe_pth {pc : Nat} {sc : List (Nat × Int32)} {ds : List Bool} {cs : List xe_K} (h : (xe_go pc sc ds).map (fun r => (r.1, r.2.2.2)) = some (some (.int 1), cs)) (hc : ∀ k ∈ cs, xe_holds k) : xe_P pc sc := by
  intro G l mc ms c z hL hsc h1 h2
  cases hg : xe_go pc sc ds with
  | none => rw [hg] at h; cases h
  | some w =>
    obtain ⟨r, g1, d1, c1⟩ := w
    rw [hg] at h
    simp only [Option.map_some, Option.some.injEq, Prod.mk.injEq] at h
    obtain ⟨rfl, rfl⟩ := h
    have hS : (∀ j v, ((1000000, (5 : Int32)) :: sc).lookup j = some v → j ≠ 1000000 → j < G.2.2.2.2.1 ∧ G.2.2.2.2.2 j = v) ∧ ∀ v, ((1000000, (5 : Int32)) :: sc).lookup 1000000 = some v → v = Int32.ofNat G.2.2.2.2.1 ∧ (v = 5 → G.2.2.2.2.1 = 5) := by
      refine ⟨fun j v hj hne => ?_, fun v hv => ?_⟩
      · rw [List.lookup_cons] at hj
        have e : (j == 1000000) = false := by simpa using hne
        rw [e] at hj
        rw [hL]
        exact hsc j v hj
      · rw [List.lookup_cons] at hv
        simp at hv
        rw [hL, ← hv]
        exact ⟨rfl, fun _ => rfl⟩
    have R := xe_lp_ok (G := G) (l := l) hS (xe_call_ok hS 60) 6000 xi_law pc xp_LS [] _ ds _ g1 d1 _ hg hc h1 h2
    rw [xp_eq]
    exact xm_dm (by decide) (xm_mono (fun r h' hp => hp.1) R)
theorem xe_val {pc : Nat} {sc : List (Nat × Int32)} (h : xe_t pc sc = true) : xe_P pc sc := by
  unfold xe_t at h
  split at h
  · rename_i g1 d1 hg
    exact xe_pth (ds := []) (cs := []) (by rw [hg]; rfl) (fun _ h => absurd h List.not_mem_nil)
  · cases h
theorem xe_hd {c : ClassFile.Cond} {x y : Int32} {b : Bool} (h : (xe_cd c x y == b) = true) : xe_holds (c, x, y, b) := by
  have h1 : xe_cd c x y = b := by simpa using h
  unfold xe_holds
  cases b with
  | true => rw [if_pos rfl]; exact (xe_cd_iff _ _ _).mp h1
  | false =>
    rw [if_neg (fun z => Bool.noConfusion z)]
    intro q
    have := (xe_cd_iff _ _ _).mpr q
    rw [h1] at this
    cases this
def xe_ci (c : ClassFile.Cond) (x y : Int) : Bool := match c with
  | .eq => decide (x = y)
  | .ne => decide (¬ x = y)
  | .lt => decide (x < y)
  | .ge => decide (y ≤ x)
  | .gt => decide (y < x)
  | .le => decide (x ≤ y)
theorem xe_hs {c : ClassFile.Cond} {x y : Int32} {b : Bool} {a b2 : Int} (hx : x.toInt = a) (hy : y.toInt = b2) (h : xe_ci c a b2 = b) : xe_holds (c, x, y, b) := by
  refine xe_hd ?_
  subst hx; subst hy; subst h
  cases c <;> simp [xe_cd, xe_ci, Int32.lt_iff_toInt_lt, Int32.le_iff_toInt_le, ← Int32.toInt_inj]
theorem xp_t4 (x : Int32) : x.toInt < 0 ∨ 4 ≤ x.toInt ∨ x = 0 ∨ x = 1 ∨ x = 2 ∨ x = 3 := by
  by_cases h1 : x.toInt < 0
  · exact Or.inl h1
  · by_cases h2 : 4 ≤ x.toInt
    · exact Or.inr (Or.inl h2)
    · have h3 : x.toInt = 0 ∨ x.toInt = 1 ∨ x.toInt = 2 ∨ x.toInt = 3 := by omega
      rcases h3 with h | h | h | h
      · exact Or.inr (Or.inr (Or.inl (Int32.toInt_inj.mp h)))
      · exact Or.inr (Or.inr (Or.inr (Or.inl (Int32.toInt_inj.mp h))))
      · exact Or.inr (Or.inr (Or.inr (Or.inr (Or.inl (Int32.toInt_inj.mp h)))))
      · exact Or.inr (Or.inr (Or.inr (Or.inr (Or.inr (Int32.toInt_inj.mp h)))))
theorem xp_rn (n : Nat) (hn : n < 2 ^ 31) (x : Int32) : x.toInt < 0 ∨ (n : Int) ≤ x.toInt ∨ ∃ k : Nat, k < n ∧ x = nI k := by
  by_cases h1 : x.toInt < 0
  · exact Or.inl h1
  · by_cases h2 : (n : Int) ≤ x.toInt
    · exact Or.inr (Or.inl h2)
    · refine Or.inr (Or.inr ⟨x.toInt.toNat, by omega, Int32.toInt_inj.mp ?_⟩)
      rw [nI_toInt (by omega)]
      omega
