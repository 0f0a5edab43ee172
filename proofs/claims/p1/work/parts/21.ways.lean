/-! p1: the reference's ways and group on a table of one element -/
theorem c_MisT {G : xm_G} {l : Launch} {d : Nat} {h : xm_H} {t : Nat} (ht : t < 4) : xm_C G l xi_M_isTable (d + 1) 0 0 [.int (nI t)] h (fun r h' => r = some (.int 1) ∧ h' = h) := by
  refine xm_enter' (by decide) rfl (Nat.le_of_ble_eq_true rfl) rfl ?_
  refine xm_step rfl rfl ?_
  refine xm_step rfl rfl ?_
  refine xm_step rfl rfl ?_
  refine xm_callS (As := [.int (nI t), .int (nI 0), .int (nI 3)]) (rest := []) (d' := d) (mc' := 0) (ms' := 0) rfl (c_in (nI t) (nI 0) (nI 3)) rfl (Nat.le_refl _) (Nat.le_refl _) (Nat.le_refl _) (Nat.le_of_ble_eq_true rfl) (fun r h' hp => ?_)
  obtain ⟨rfl, rfl⟩ := hp
  rw [if_pos ⟨nI_le (by omega) (by omega), nI_le (by omega) (by omega)⟩]
  exact xm_retI rfl rfl rfl (Nat.le_refl _) (Nat.le_refl _) ⟨rfl, rfl⟩
theorem xq_s {m : Nat → Nat → Int32} {t : Nat} (ht : t < 4) : xf_copy m 4 t 64 33 t = m 33 t := by
  show upd (m 33) 4 (m 33 t) t = m 33 t
  unfold upd
  rw [if_neg (by omega)]
theorem xq_c {m : Nat → Nat → Int32} {t : Nat} (ht : t < 4) : xf_copy m 4 t 64 34 (64 * t + 8 * 0 + 0) = m 34 (64 * t) := by
  show (if 64 * 4 ≤ 64 * t + 8 * 0 + 0 ∧ 64 * t + 8 * 0 + 0 < 64 * 4 + 64 then m 34 (64 * t + (64 * t + 8 * 0 + 0 - 64 * 4)) else m 34 (64 * t + 8 * 0 + 0)) = m 34 (64 * t)
  rw [if_neg (by omega)]
  rfl
theorem xq_1 (i : Int32) : ¬ (1 : Int32) ≤ 0 := by decide
set_option maxHeartbeats 1000000 in
theorem c_ends1 {G : xm_G} {l : Launch} {d : Nat} {m : Nat → Nat → Int32} {t : Nat} (ht : t < 4) (hm : m 33 t = 1) (hc : m 34 (64 * t) = 0) (x2 : Int32) : xm_C G l xi_M_ends (d + 1) 0 0 [.ref 32, .int (nI t), .int x2] (xh m) (fun r h' => r = some (.int 1)) := by
  refine xm_enter' (by decide) rfl (Nat.le_of_ble_eq_true rfl) rfl ?_
  refine xm_step rfl rfl ?_
  refine xm_step rfl rfl ?_
  refine xm_step rfl rfl ?_
  refine xm_callV (As := [.int (nI 4), .int (nI t)]) (rest := []) (d' := d) (mc' := 0) (ms' := 0) (k := 32) (ci := 5) (N := 7) rfl rfl rfl (c_copies (s := 4) (t := t) (by decide) (by omega) (by omega)) rfl (Nat.le_refl _) (Nat.le_refl _) (Nat.le_refl _) (Nat.le_of_ble_eq_true rfl) (fun r h' hp => ?_)
  obtain ⟨rfl, rfl⟩ := hp
  refine xm_step rfl rfl ?_
  refine xm_step rfl rfl ?_
  refine xm_putI (N := 7) rfl rfl rfl ?_
  generalize hm1 : va_up (xf_copy m 4 t 64) 32 (upd (xf_copy m 4 t 64 32) 2 (Int32.ofInt 0)) = m1
  have s1 : m1 33 t = 1 := by
    rw [← hm1]
    show xf_copy m 4 t 64 33 t = 1
    rw [xq_s ht, hm]
  have c1 : m1 34 (64 * t + 8 * 0 + 0) = 0 := by
    rw [← hm1]
    show xf_copy m 4 t 64 34 (64 * t + 8 * 0 + 0) = 0
    rw [xq_c ht, hc]
  have o1 : m1 32 2 = 0 := by
    rw [← hm1]
    rfl
  have eh : xm_sm (xh (xf_copy m 4 t 64)) 32 2 (Int32.ofInt 0) = xh m1 := by rw [← hm1]
  have go : xm_X G l xi_M_ends (d + 1) 0 0 0 0 11 [some (.ref 32), some (.int (nI t)), some (.int x2), none, none, none, none, none] [] (xh m1) (fun r h' => r = some (.int 1)) := by
    refine xm_step rfl rfl ?_
    refine xm_step rfl rfl ?_
    refine xm_step rfl rfl ?_
    refine xm_step rfl rfl ?_
    refine xm_getR (N := 7) (r := 33) rfl rfl rfl rfl ?_
    refine xm_step rfl rfl ?_
    refine xm_iald (N := 6) rfl rfl (vp_in_nI (by omega) (by decide)) ?_
    rw [nI_clamp (by omega)]
    show xm_X G l xi_M_ends (d + 1) 0 0 0 0 20 [some (.ref 32), some (.int (nI t)), some (.int x2), some (.int 0), none, none, none, none] [.int (m1 33 t), .int 0] (xh m1) _
    rw [s1]
    refine xm_if rfl rfl (fun q => absurd q (by show ¬ (1 : Int32) ≤ 0; decide)) (fun _ => ?_)
    refine xm_step rfl rfl ?_
    refine xm_step rfl rfl ?_
    refine xm_step rfl rfl ?_
    refine xm_step rfl rfl ?_
    refine xm_getR (N := 7) (r := 33) rfl rfl rfl rfl ?_
    refine xm_step rfl rfl ?_
    refine xm_iald (N := 6) rfl rfl (vp_in_nI (by omega) (by decide)) ?_
    rw [nI_clamp (by omega)]
    show xm_X G l xi_M_ends (d + 1) 0 0 0 0 34 [some (.ref 32), some (.int (nI t)), some (.int x2), some (.int 0), some (.int 0), none, none, none] [.int (m1 33 t), .int 0] (xh m1) _
    rw [s1]
    refine xm_if rfl rfl (fun q => absurd q (by show ¬ (1 : Int32) ≤ 0; decide)) (fun _ => ?_)
    refine xm_step rfl rfl ?_
    refine xm_step rfl rfl ?_
    refine xm_step rfl rfl ?_
    refine xm_step rfl rfl ?_
    refine xm_callV (As := [.int (nI t), .int (nI 0), .int (nI 0)]) (rest := []) (d' := d) (mc' := 0) (ms' := 0) (k := 32) (ci := 5) (N := 7) rfl rfl rfl (c_cell (t := t) (a := 0) (b := 0) (by omega)) rfl (Nat.le_refl _) (Nat.le_refl _) (Nat.le_refl _) (Nat.le_of_ble_eq_true rfl) (fun r h' hp => ?_)
    obtain ⟨rfl, rfl⟩ := hp
    rw [c1]
    refine xm_if rfl rfl (fun _ => ?_) (fun q => absurd (show (0 : Int32) ≤ 0 by decide) q)
    refine xm_step rfl rfl ?_
    refine xm_step rfl rfl ?_
    refine xm_step rfl rfl ?_
    refine xm_step rfl rfl ?_
    refine xm_getR (N := 7) (r := 33) rfl rfl rfl rfl ?_
    refine xm_step rfl rfl ?_
    refine xm_iald (N := 6) rfl rfl (vp_in_nI (by omega) (by decide)) ?_
    rw [nI_clamp (by omega)]
    show xm_X G l xi_M_ends (d + 1) 0 0 0 0 34 [some (.ref 32), some (.int (nI t)), some (.int x2), some (.int 0), some (.int 1), none, none, none] [.int (m1 33 t), .int 1] (xh m1) _
    rw [s1]
    refine xm_if rfl rfl (fun _ => ?_) (fun q => absurd (show (1 : Int32) ≤ 1 by decide) q)
    refine xm_step rfl rfl ?_
    refine xm_step rfl rfl ?_
    refine xm_step rfl rfl ?_
    refine xm_step rfl rfl ?_
    refine xm_getR (N := 7) (r := 33) rfl rfl rfl rfl ?_
    refine xm_step rfl rfl ?_
    refine xm_iald (N := 6) rfl rfl (vp_in_nI (by omega) (by decide)) ?_
    rw [nI_clamp (by omega)]
    show xm_X G l xi_M_ends (d + 1) 0 0 0 0 20 [some (.ref 32), some (.int (nI t)), some (.int x2), some (.int 1), some (.int 1), none, none, none] [.int (m1 33 t), .int 1] (xh m1) _
    rw [s1]
    refine xm_if rfl rfl (fun _ => ?_) (fun q => absurd (show (1 : Int32) ≤ 1 by decide) q)
    refine xm_step rfl rfl ?_
    refine xm_step rfl rfl ?_
    refine xm_step rfl rfl ?_
    refine xm_step rfl rfl ?_
    refine xm_step rfl rfl ?_
    refine xm_if rfl rfl (fun q => absurd q (by show ¬ (0 : Int32) < 0; decide)) (fun _ => ?_)
    refine xm_step rfl rfl ?_
    refine xm_step rfl rfl ?_
    refine xm_getI (N := 7) rfl rfl rfl ?_
    show xm_X G l xi_M_ends (d + 1) 0 0 0 0 102 [some (.ref 32), some (.int (nI t)), some (.int x2), some (.int 0), some (.int 0), none, none, none] [.int (m1 32 2), .int 0] (xh m1) _
    rw [o1]
    refine xm_if rfl rfl (fun q => absurd rfl q) (fun _ => ?_)
    refine xm_step rfl rfl ?_
    refine xm_step rfl rfl ?_
    refine xm_step rfl rfl ?_
    refine xm_if rfl rfl (fun _ => ?_) (fun _ => ?_)
    · refine xm_step rfl rfl ?_
      refine xm_step rfl rfl ?_
      refine xm_step rfl rfl ?_
      refine xm_if rfl rfl (fun _ => ?_) (fun q => absurd (show (-1 : Int32) < 0 by decide) q)
      refine xm_step rfl rfl ?_
      exact xm_retI rfl rfl rfl (Nat.le_refl _) (Nat.le_refl _) rfl
    · refine xm_step rfl rfl ?_
      exact xm_retI rfl rfl rfl (Nat.le_refl _) (Nat.le_refl _) rfl
  exact eh ▸ go
theorem c_waysM1 {G : xm_G} {l : Launch} {d : Nat} {m : Nat → Nat → Int32} {t : Nat} (ht : t < 4) (hm : m 33 t = 1) (hc : m 34 (64 * t) = 0) (x2 : Int32) (h1 : 1 ≤ x2) (h2 : x2 ≤ 10000) : xm_C G l xi_M_ways (d + 2) 0 0 [.ref 32, .int (nI t), .int x2] (xh m) (fun r h' => r = some (.int 1)) := by
  refine xm_enter' (by decide) rfl (Nat.le_of_ble_eq_true rfl) rfl ?_
  refine xm_step rfl rfl ?_
  refine xm_callS (As := [.int (nI t)]) (rest := []) (d' := d + 1) (mc' := 0) (ms' := 0) rfl (c_MisT ht) rfl (Nat.le_refl _) (Nat.le_refl _) (Nat.le_refl _) (Nat.le_of_ble_eq_true rfl) (fun r h' hp => ?_)
  obtain ⟨rfl, rfl⟩ := hp
  refine xm_if rfl rfl (fun q => absurd (show (1 : Int32) = 0 from q) (by decide)) (fun _ => ?_)
  refine xm_step rfl rfl ?_
  refine xm_step rfl rfl ?_
  refine xm_step rfl rfl ?_
  refine xm_callS (As := [.int x2, .int 1, .int 10000]) (rest := []) (d' := d + 1) (mc' := 0) (ms' := 0) rfl (c_in x2 1 10000) rfl (Nat.le_refl _) (Nat.le_refl _) (Nat.le_refl _) (Nat.le_of_ble_eq_true rfl) (fun r h' hp => ?_)
  obtain ⟨rfl, rfl⟩ := hp
  rw [if_pos ⟨h1, h2⟩]
  refine xm_if rfl rfl (fun _ => ?_) (fun q => absurd (show ¬ (1 : Int32) = 0 by decide) q)
  refine xm_step rfl rfl ?_
  refine xm_getR (N := 7) (r := 33) rfl rfl rfl rfl ?_
  refine xm_step rfl rfl ?_
  refine xm_iald (N := 6) rfl rfl (vp_in_nI (by omega) (by decide)) ?_
  rw [nI_clamp (by omega)]
  show xm_X G l xi_M_ways (d + 2) 0 0 0 0 26 [some (.ref 32), some (.int (nI t)), some (.int x2)] [.int (m 33 t)] (xh m) _
  rw [hm]
  refine xm_step rfl rfl ?_
  refine xm_if rfl rfl (fun _ => ?_) (fun q => absurd (show (1 : Int32) ≤ 6 by decide) q)
  refine xm_step rfl rfl ?_
  refine xm_step rfl rfl ?_
  refine xm_step rfl rfl ?_
  refine xm_callV (As := [.int (nI t), .int x2]) (rest := []) (d' := d + 1) (mc' := 0) (ms' := 0) (k := 32) (ci := 5) (N := 7) rfl rfl rfl (c_ends1 ht hm hc x2) rfl (Nat.le_refl _) (Nat.le_refl _) (Nat.le_refl _) (Nat.le_of_ble_eq_true rfl) (fun r h' hp => ?_)
  subst hp
  exact xm_retI rfl rfl rfl (Nat.le_refl _) (Nat.le_refl _) rfl
