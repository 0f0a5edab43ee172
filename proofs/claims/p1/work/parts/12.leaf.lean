/-! contracts of the leaves -/
theorem xm_enter' {G : xm_G} {l : Launch} {y d mc ms : Nat} {as : List Value} {h : xm_H} {post : Option Value → xm_H → Prop} {ls : List (Option Value)} (hy : y < xm_N - 1) (hc : as.all (fun v => v.category == 1) = true) (hn : as.length ≤ xm_mL y) (hls : xm_en as (xm_mL y) = ls) (hX : xm_X G l y d mc ms 0 0 0 ls [] h post) : xm_C G l y d mc ms as h post :=
  xm_enter hy (fun v hv => by simpa using List.all_eq_true.mp hc v hv) hn (hls ▸ hX)
theorem c_min {G : xm_G} {l : Launch} {d : Nat} {h : xm_H} (x y : Int32) : xm_C G l xi_Math_min d 0 0 [.int x, .int y] h (fun r h' => r = some (.int (if y < x then y else x)) ∧ h' = h) := by
  refine xm_enter' (by decide) rfl (Nat.le_of_ble_eq_true rfl) rfl ?_
  refine xm_step rfl rfl ?_
  refine xm_step rfl rfl ?_
  refine xm_if rfl rfl (fun hc => ?_) (fun hc => ?_)
  · refine xm_step rfl rfl ?_
    exact xm_retI rfl rfl rfl (Nat.le_refl _) (Nat.le_refl _) ⟨by rw [if_pos (show y < x from hc)], rfl⟩
  · refine xm_step rfl rfl ?_
    refine xm_step rfl rfl ?_
    exact xm_retI rfl rfl rfl (Nat.le_refl _) (Nat.le_refl _) ⟨by rw [if_neg (show ¬ y < x from hc)], rfl⟩
theorem c_max {G : xm_G} {l : Launch} {d : Nat} {h : xm_H} (x y : Int32) : xm_C G l xi_Math_max d 0 0 [.int x, .int y] h (fun r h' => r = some (.int (if x < y then y else x)) ∧ h' = h) := by
  refine xm_enter' (by decide) rfl (Nat.le_of_ble_eq_true rfl) rfl ?_
  refine xm_step rfl rfl ?_
  refine xm_step rfl rfl ?_
  refine xm_if rfl rfl (fun hc => ?_) (fun hc => ?_)
  · refine xm_step rfl rfl ?_
    exact xm_retI rfl rfl rfl (Nat.le_refl _) (Nat.le_refl _) ⟨by rw [if_pos (show x < y from hc)], rfl⟩
  · refine xm_step rfl rfl ?_
    refine xm_step rfl rfl ?_
    exact xm_retI rfl rfl rfl (Nat.le_refl _) (Nat.le_refl _) ⟨by rw [if_neg (show ¬ x < y from hc)], rfl⟩
abbrev xf_fill (h : xm_H) (k N : Nat) (v : Int32) : xm_H := (h.1, h.2.1, va_up h.2.2 k (fun j => if j < N then v else h.2.2 k j))
theorem xf_fill0 (h : xm_H) (k : Nat) (v : Int32) : xf_fill h k 0 v = h := by
  obtain ⟨a, b, c⟩ := h
  simp only [xf_fill, Prod.mk.injEq, true_and]
  funext q j
  unfold va_up
  split
  · rename_i e; subst e; simp
  · rfl
theorem xf_fillS (h : xm_H) (k i : Nat) (v : Int32) : xm_sm (xf_fill h k i v) k i v = xf_fill h k (i + 1) v := by
  simp only [xm_sm, xf_fill, Prod.mk.injEq, true_and]
  funext q j
  unfold va_up upd
  by_cases e : q = k
  · subst e
    simp only [if_true]
    by_cases e2 : j = i
    · subst e2; simp
    · have : j < i + 1 ↔ j < i := by omega
      simp [e2, this]
  · simp [e]
theorem c_fill {G : xm_G} {l : Launch} {d : Nat} {h : xm_H} {k N : Nat} (hk : h.1[k]? = some (0, N)) (hN : N < 2 ^ 31) (v : Int32) : xm_C G l xi_Arrays_fill d 0 0 [.ref k, .int v] h (fun r h' => r = none ∧ h' = xf_fill h k N v) := by
  refine xm_enter' (by decide) rfl (Nat.le_of_ble_eq_true rfl) rfl ?_
  refine xm_step rfl rfl ?_
  refine xm_step rfl rfl ?_
  refine xm_step rfl rfl ?_
  refine xm_alen rfl hk ?_
  refine xm_step rfl rfl ?_
  have L : ∀ (n i : Nat), i ≤ N → N + 1 ≤ i + n → xm_X G l xi_Arrays_fill d 0 0 0 0 5 [some (.ref k), some (.int v), some (.int (nI i)), some (.int (nI N))] [] (xf_fill h k i v) (fun r h' => r = none ∧ h' = xf_fill h k N v) := by
    intro n
    induction n with
    | zero => intro i h1 h2; omega
    | succ n ih =>
      intro i h1 h2
      refine xm_step rfl rfl ?_
      refine xm_step rfl rfl ?_
      refine xm_if rfl rfl (fun hc => ?_) (fun hc => ?_)
      · have hc : nI N ≤ nI i := hc
        have e : i = N := by have := (nI_leI hN (by omega)).mp hc; omega
        subst e
        exact xm_retV rfl rfl (Nat.le_refl _) (Nat.le_refl _) ⟨rfl, rfl⟩
      · have hc : ¬ nI N ≤ nI i := hc
        have hlt : i < N := by
          rcases Nat.lt_or_ge i N with q | q
          · exact q
          · exact absurd (nI_le q (by omega)) hc
        refine xm_step rfl rfl ?_
        refine xm_step rfl rfl ?_
        refine xm_step rfl rfl ?_
        refine xm_iast rfl hk (vp_in_nI hlt hN) ?_
        rw [nI_clamp (by omega), xf_fillS]
        refine xm_step rfl rfl ?_
        refine xm_step rfl rfl ?_
        have := ih (i + 1) (by omega) (by omega)
        rw [nI_succ] at this
        exact this
  have := L (N + 1) 0 (by omega) (by omega)
  rw [xf_fill0] at this
  exact this
