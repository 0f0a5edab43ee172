/-! contracts of the reference's small methods, over any contents of the cells -/
abbrev xh (m : Nat → Nat → Int32) : xm_H := (xp_sh, xp_rf, m)
theorem xm_eqC {G : xm_G} {l : Launch} {y d mc ms : Nat} {as : List Value} {h : xm_H} {post post' : Option Value → xm_H → Prop} (hp : ∀ r h', post r h' → post' r h') (hC : xm_C G l y d mc ms as h post) : xm_C G l y d mc ms as h post' := by
  intro base p e
  have := hC base p e
  intro a b c s m args below hf happ hP hK
  obtain ⟨k, o, h1, h2, h3, ⟨⟨r, h', q1, q2, q3⟩, q4⟩⟩ := this a b c s m args below hf happ hP hK
  exact ⟨k, o, h1, h2, h3, ⟨⟨r, h', q1, hp r h' q2, q3⟩, q4⟩⟩
theorem c_in {G : xm_G} {l : Launch} {d : Nat} {h : xm_H} (v lo hi : Int32) : xm_C G l xi_M_in d 0 0 [.int v, .int lo, .int hi] h (fun r h' => r = some (.int (if lo ≤ v ∧ v ≤ hi then 1 else 0)) ∧ h' = h) := by
  refine xm_enter' (by decide) rfl (Nat.le_of_ble_eq_true rfl) rfl ?_
  refine xm_step rfl rfl ?_
  refine xm_step rfl rfl ?_
  refine xm_if rfl rfl (fun hc => ?_) (fun hc => ?_)
  · have hc : v < lo := hc
    refine xm_step rfl rfl ?_
    exact xm_retI rfl rfl (by decide) (Nat.le_refl _) (Nat.le_refl _) ⟨by rw [if_neg (fun z => Int32.not_le.mpr hc z.1)]; rfl, rfl⟩
  · have hc : ¬ v < lo := hc
    refine xm_step rfl rfl ?_
    refine xm_step rfl rfl ?_
    refine xm_if rfl rfl (fun hc2 => ?_) (fun hc2 => ?_)
    · have hc2 : hi < v := hc2
      refine xm_step rfl rfl ?_
      exact xm_retI rfl rfl (by decide) (Nat.le_refl _) (Nat.le_refl _) ⟨by rw [if_neg (fun z => Int32.not_le.mpr hc2 z.2)]; rfl, rfl⟩
    · have hc2 : ¬ hi < v := hc2
      refine xm_step rfl rfl ?_
      refine xm_step rfl rfl ?_
      exact xm_retI rfl rfl (by decide) (Nat.le_refl _) (Nat.le_refl _) ⟨by rw [if_pos ⟨Int32.not_lt.mp hc, Int32.not_lt.mp hc2⟩]; rfl, rfl⟩
theorem xq_64 : (Int8.ofInt 64).toInt32 = nI 64 := by decide +kernel
theorem c_cell {G : xm_G} {l : Launch} {d : Nat} {m : Nat → Nat → Int32} {t a b : Nat} (ht : 64 * t + 8 * a + b < 384) : xm_C G l xi_M_cell d 0 0 [.ref 32, .int (nI t), .int (nI a), .int (nI b)] (xh m) (fun r h' => r = some (.int (m 34 (64 * t + 8 * a + b))) ∧ h' = xh m) := by
  refine xm_enter' (by decide) rfl (Nat.le_of_ble_eq_true rfl) rfl ?_
  refine xm_step rfl rfl ?_
  refine xm_getR (N := 7) (r := 34) rfl rfl rfl rfl ?_
  refine xm_step rfl rfl ?_
  refine xm_step rfl rfl ?_
  refine xm_step rfl rfl ?_
  refine xm_step rfl rfl ?_
  refine xm_step rfl rfl ?_
  refine xm_step rfl rfl ?_
  refine xm_step rfl rfl ?_
  refine xm_step rfl rfl ?_
  refine xm_step rfl rfl ?_
  have e : (Int8.ofInt 64).toInt32 * nI t + (Int8.ofInt 8).toInt32 * nI a + nI b = nI (64 * t + 8 * a + b) := by rw [xq_64, xt_8, pk_mul, pk_mul, nI_add, nI_add]
  dsimp only
  rw [e]
  refine xm_iald (N := 384) rfl rfl (vp_in_nI ht (by decide)) ?_
  rw [nI_clamp (by omega)]
  exact xm_retI rfl rfl rfl (Nat.le_refl _) (Nat.le_refl _) ⟨rfl, rfl⟩
theorem c_puts {G : xm_G} {l : Launch} {d : Nat} {m : Nat → Nat → Int32} {t a b : Nat} {v : Int32} (ht : 64 * t + 8 * a + b < 384) : xm_C G l xi_M_puts d 0 0 [.ref 32, .int (nI t), .int (nI a), .int (nI b), .int v] (xh m) (fun r h' => r = none ∧ h' = xm_sm (xh m) 34 (64 * t + 8 * a + b) v) := by
  refine xm_enter' (by decide) rfl (Nat.le_of_ble_eq_true rfl) rfl ?_
  refine xm_step rfl rfl ?_
  refine xm_getR (N := 7) (r := 34) rfl rfl rfl rfl ?_
  refine xm_step rfl rfl ?_
  refine xm_step rfl rfl ?_
  refine xm_step rfl rfl ?_
  refine xm_step rfl rfl ?_
  refine xm_step rfl rfl ?_
  refine xm_step rfl rfl ?_
  refine xm_step rfl rfl ?_
  refine xm_step rfl rfl ?_
  refine xm_step rfl rfl ?_
  refine xm_step rfl rfl ?_
  have e : (Int8.ofInt 64).toInt32 * nI t + (Int8.ofInt 8).toInt32 * nI a + nI b = nI (64 * t + 8 * a + b) := by rw [xq_64, xt_8, pk_mul, pk_mul, nI_add, nI_add]
  dsimp only
  rw [e]
  refine xm_iast (N := 384) rfl rfl (vp_in_nI ht (by decide)) ?_
  rw [nI_clamp (by omega)]
  exact xm_retV rfl rfl (Nat.le_refl _) (Nat.le_refl _) ⟨rfl, rfl⟩
abbrev xf_copy (m : Nat → Nat → Int32) (s t i : Nat) : Nat → Nat → Int32 := va_up (va_up m 33 (upd (m 33) s (m 33 t))) 34 (fun j => if 64 * s ≤ j ∧ j < 64 * s + i then m 34 (64 * t + (j - 64 * s)) else m 34 j)
theorem c_copies {G : xm_G} {l : Launch} {d : Nat} {m : Nat → Nat → Int32} {s t : Nat} (hs : s < 6) (ht : t < 6) (hst : s ≠ t) : xm_C G l xi_M_copies d 0 0 [.ref 32, .int (nI s), .int (nI t)] (xh m) (fun r h' => r = none ∧ h' = xh (xf_copy m s t 64)) := by
  refine xm_enter' (by decide) rfl (Nat.le_of_ble_eq_true rfl) rfl ?_
  refine xm_step rfl rfl ?_
  refine xm_getR (N := 7) (r := 33) rfl rfl rfl rfl ?_
  refine xm_step rfl rfl ?_
  refine xm_step rfl rfl ?_
  refine xm_getR (N := 7) (r := 33) rfl rfl rfl rfl ?_
  refine xm_step rfl rfl ?_
  refine xm_iald (N := 6) rfl rfl (vp_in_nI ht (by decide)) ?_
  rw [nI_clamp (by omega)]
  refine xm_iast (N := 6) rfl rfl (vp_in_nI hs (by decide)) ?_
  rw [nI_clamp (by omega)]
  refine xm_step rfl rfl ?_
  refine xm_step rfl rfl ?_
  have L : ∀ (n i : Nat), i ≤ 64 → 65 ≤ i + n → xm_X G l xi_M_copies d 0 0 0 0 14 [some (.ref 32), some (.int (nI s)), some (.int (nI t)), some (.int (nI i))] [] (xh (xf_copy m s t i)) (fun r h' => r = none ∧ h' = xh (xf_copy m s t 64)) := by
    intro n
    induction n with
    | zero => intro i h1 h2; omega
    | succ n ih =>
      intro i h1 h2
      refine xm_step rfl rfl ?_
      refine xm_step rfl rfl ?_
      refine xm_if rfl rfl (fun hc => ?_) (fun hc => ?_)
      · have hc : nI 64 ≤ nI i := hc
        have e : i = 64 := by have := (nI_leI (by decide) (by omega)).mp hc; omega
        subst e
        exact xm_retV rfl rfl (Nat.le_refl _) (Nat.le_refl _) ⟨rfl, rfl⟩
      · have hc : ¬ nI 64 ≤ nI i := hc
        have hlt : i < 64 := by
          rcases Nat.lt_or_ge i 64 with q | q
          · exact q
          · exact absurd (nI_le q (by omega)) hc
        refine xm_step rfl rfl ?_
        refine xm_getR (N := 7) (r := 34) rfl rfl rfl rfl ?_
        refine xm_step rfl rfl ?_
        refine xm_step rfl rfl ?_
        refine xm_step rfl rfl ?_
        refine xm_step rfl rfl ?_
        refine xm_step rfl rfl ?_
        refine xm_step rfl rfl ?_
        refine xm_getR (N := 7) (r := 34) rfl rfl rfl rfl ?_
        refine xm_step rfl rfl ?_
        refine xm_step rfl rfl ?_
        refine xm_step rfl rfl ?_
        refine xm_step rfl rfl ?_
        refine xm_step rfl rfl ?_
        have e1 : (Int8.ofInt 64).toInt32 * nI s + nI i = nI (64 * s + i) := by rw [xq_64, pk_mul, nI_add]
        have e2 : (Int8.ofInt 64).toInt32 * nI t + nI i = nI (64 * t + i) := by rw [xq_64, pk_mul, nI_add]
        dsimp only
        rw [e1, e2]
        refine xm_iald (N := 384) rfl rfl (vp_in_nI (by omega) (by decide)) ?_
        rw [nI_clamp (by omega)]
        refine xm_iast (N := 384) rfl rfl (vp_in_nI (by omega) (by decide)) ?_
        rw [nI_clamp (by omega)]
        refine xm_step rfl rfl ?_
        refine xm_step rfl rfl ?_
        have IH := ih (i + 1) (by omega) (by omega)
        rw [nI_succ] at IH
        have eh : xm_sm (xh (xf_copy m s t i)) 34 (64 * s + i) ((xh (xf_copy m s t i)).2.2 34 (64 * t + i)) = xh (xf_copy m s t (i + 1)) := by
          simp only [xm_sm, xf_copy, xh, Prod.mk.injEq, true_and]
          funext q j
          unfold va_up upd
          by_cases e : q = 34
          · subst e
            simp only [if_true]
            by_cases e3 : j = 64 * s + i
            · subst e3
              rw [if_pos rfl, if_neg (by omega), if_pos (by omega)]
              congr 1
              omega
            · rw [if_neg e3]
              have e4 : (64 * s ≤ j ∧ j < 64 * s + (i + 1)) ↔ (64 * s ≤ j ∧ j < 64 * s + i) := by omega
              simp only [e4]
          · simp [e]
        rw [eh]
        exact IH
  have R := L 65 0 (by omega) (by omega)
  have e0 : xm_sm (xh m) 33 s ((xh m).2.2 33 t) = xh (xf_copy m s t 0) := by
    simp only [xm_sm, xf_copy, xh, Prod.mk.injEq, true_and]
    funext q j
    unfold va_up
    by_cases e : q = 34
    · subst e
      simp
      omega
    · simp [e]
  exact e0 ▸ R
