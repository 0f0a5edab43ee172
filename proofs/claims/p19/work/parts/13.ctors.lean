/-! the constructors; the heap of the two new objects -/
def xf_T (h : xm_H) (k n : Nat) : xm_H := xf_rst (xm_sr (xm_psh h (0, 64)) k 1 (some n)) k n 1 1
theorem xf_app {sh : List (Nat × Nat)} {k : Nat} {q q2 : Nat × Nat} (h : sh[k]? = some q) : (sh ++ [q2])[k]? = some q := by
  rw [List.getElem?_append_left (List.getElem?_eq_some_iff.mp h).1]
  exact h
theorem c_Table {G : xm_G} {l : Launch} {d : Nat} {h : xm_H} {k n : Nat} (hk : h.1[k]? = some (3, 2)) (hn : h.1.length = n) : xm_C G l xi_Table_init (d + 2) 1 64 [.ref k] h (fun r h' => r = none ∧ h' = xf_T h k n) := by
  subst hn
  refine xm_enter' (by decide) rfl (Nat.le_of_ble_eq_true rfl) rfl ?_
  refine xm_step rfl rfl ?_
  refine xm_objI (b := 8) rfl (by omega) (Nat.le_of_ble_eq_true rfl) ?_
  refine xm_step rfl rfl ?_
  refine xm_step rfl rfl ?_
  refine xm_newI (N := 64) rfl (by decide) (by decide) (by decide) (by decide) (by decide) ?_
  refine xm_putR (N := 2) rfl (xf_app hk) rfl (fun q => ⟨rfl, rfl⟩) ?_
  refine xm_step rfl rfl ?_
  refine xm_step rfl rfl ?_
  have hT : xt_T (xm_sr (xm_psh h (0, 64)) k 1 (some h.1.length)) k h.1.length := ⟨xf_app hk, by simp [va_up], by simp⟩
  refine xm_callV (As := [.int (nI 1)]) (rest := []) (d' := d + 1) (mc' := 0) (ms' := 0) (ci := 0) rfl hT.1 rfl (c_restart (m := 1) hT (by decide) (by decide)) rfl (Nat.le_refl _) (by decide) (by decide) (Nat.le_of_ble_eq_true rfl) (fun r g1 hp => ?_)
  obtain ⟨rfl, rfl⟩ := hp
  exact xm_retV rfl rfl (by decide) (by decide) ⟨rfl, rfl⟩
def hx0 : xm_H := xm_psh xm_H0 (7, 5)
def hx1 : xm_H := xm_sr (xm_psh hx0 (2, 4)) 0 0 (some 1)
def hx2 : xm_H := xm_sr (xf_T (xm_psh hx1 (3, 2)) 2 3) 1 0 (some 2)
def hx3 : xm_H := xm_sr (xf_T (xm_psh hx2 (3, 2)) 4 5) 1 1 (some 4)
def hx4 : xm_H := xm_sr (xf_T (xm_psh hx3 (3, 2)) 6 7) 1 2 (some 6)
def hx5 : xm_H := xm_sr (xf_T (xm_psh hx4 (3, 2)) 8 9) 1 3 (some 8)
def hx6 : xm_H := xm_sr (xf_T (xm_psh hx5 (3, 2)) 10 11) 0 1 (some 10)
def hx7 : xm_H := xm_psh hx6 (4, 8)
def hx7a : xm_H := xm_sr (xf_T (xm_psh hx7 (3, 2)) 13 14) 12 0 (some 13)
def hx7b : xm_H := xm_sr (xf_T (xm_psh hx7a (3, 2)) 15 16) 12 1 (some 15)
def hx7c : xm_H := xm_sr (xm_psh hx7b (0, 25)) 12 2 (some 17)
def hx7d : xm_H := xm_sr (xm_psh hx7c (0, 8)) 12 4 (some 18)
def hx8 : xm_H := xm_sr (xm_psh hx7d (0, 8)) 12 5 (some 19)
def hx9 : xm_H := xm_sr hx8 0 2 (some 12)
def hx10 : xm_H := xm_psh hx9 (5, 7)
def hx10a : xm_H := xm_sr (xm_psh hx10 (0, 343)) 20 1 (some 21)
def hx10b : xm_H := xm_sr (xm_psh hx10a (0, 343)) 20 2 (some 22)
def hx10c : xm_H := xm_sr (xm_psh hx10b (0, 7)) 20 3 (some 23)
def hx10d : xm_H := xm_sr (xm_psh hx10c (0, 49)) 20 4 (some 24)
def hx11 : xm_H := xm_sr (xm_psh hx10d (0, 7)) 20 6 (some 25)
def hx12 : xm_H := xm_sr hx11 0 3 (some 20)
def hx13 : xm_H := xm_psh hx12 (6, 5)
def hx13a : xm_H := xm_sr (xf_T (xm_psh hx13 (3, 2)) 27 28) 26 0 (some 27)
def hx13b : xm_H := xm_sr (xm_psh hx13a (0, 8)) 26 1 (some 29)
def hx13c : xm_H := xm_sr (xm_psh hx13b (0, 8)) 26 2 (some 30)
def hx14 : xm_H := xm_sr (xm_psh hx13c (0, 8)) 26 3 (some 31)
def hx15 : xm_H := xm_sr hx14 0 4 (some 26)
def hx16 : xm_H := xm_psh hx15 (8, 7)
def hx16a : xm_H := xm_sr (xm_psh hx16 (0, 6)) 32 0 (some 33)
def hx16b : xm_H := xm_sr (xm_psh hx16a (0, 384)) 32 1 (some 34)
def hx16c : xm_H := xm_sr (xm_psh hx16b (0, 64)) 32 3 (some 35)
def hx16d : xm_H := xm_sr (xm_psh hx16c (0, 8)) 32 4 (some 36)
def hx16e : xm_H := xm_sr (xm_psh hx16d (0, 35280)) 32 5 (some 37)
def hx16f : xm_H := xm_sr (xm_psh hx16e (1, 5040)) 32 6 (some 38)
def hx17 : xm_H := xm_sm (xm_sm (xm_sm (xm_sm (xm_sm (xm_sm hx16f 33 0 1) 33 1 1) 33 2 1) 33 3 1) 33 4 1) 33 5 1
theorem c_Endings {G : xm_G} {l : Launch} {d : Nat} : xm_C G l xi_Endings_init (d + 3) 7 173 [.ref 12] hx7 (fun r h' => r = none ∧ h' = hx8) := by
  refine xm_enter' (by decide) rfl (Nat.le_of_ble_eq_true rfl) rfl ?_
  refine xm_step rfl rfl ?_
  refine xm_objI (b := 8) rfl (by omega) (Nat.le_of_ble_eq_true rfl) ?_
  refine xm_step rfl rfl ?_
  refine xm_new (q := ("LatinLaws$Table", xm_T0, 2)) rfl rfl (by decide) (by decide) ?_
  refine xm_step rfl rfl ?_
  refine xm_callI (As := []) (k := 13) (rest := [.ref 13, .ref 12]) (d' := d + 2) (mc' := 1) (ms' := 64) rfl (c_Table (k := 13) (n := 14) (h := xm_psh hx7 (3, 2)) rfl rfl) rfl (by omega) (by decide) (by decide) (Nat.le_of_ble_eq_true rfl) (fun r g1 hp => ?_)
  obtain ⟨rfl, rfl⟩ := hp
  refine xm_putR (N := 8) (r := 13) rfl rfl rfl (fun q => ⟨rfl, rfl⟩) ?_
  refine xm_step rfl rfl ?_
  refine xm_new (q := ("LatinLaws$Table", xm_T0, 2)) rfl rfl (by decide) (by decide) ?_
  refine xm_step rfl rfl ?_
  refine xm_callI (As := []) (k := 15) (rest := [.ref 15, .ref 12]) (d' := d + 2) (mc' := 1) (ms' := 64) rfl (c_Table (k := 15) (n := 16) (h := xm_psh hx7a (3, 2)) rfl rfl) rfl (by omega) (by decide) (by decide) (Nat.le_of_ble_eq_true rfl) (fun r g1 hp => ?_)
  obtain ⟨rfl, rfl⟩ := hp
  refine xm_putR (N := 8) (r := 15) rfl rfl rfl (fun q => ⟨rfl, rfl⟩) ?_
  refine xm_step rfl rfl ?_
  refine xm_step rfl rfl ?_
  refine xm_newI (N := 25) rfl (by decide) (by decide) (by decide) (by decide) (by decide) ?_
  refine xm_putR (N := 8) (r := 17) rfl rfl rfl (fun q => ⟨rfl, rfl⟩) ?_
  refine xm_step rfl rfl ?_
  refine xm_step rfl rfl ?_
  refine xm_newI (N := 8) rfl (by decide) (by decide) (by decide) (by decide) (by decide) ?_
  refine xm_putR (N := 8) (r := 18) rfl rfl rfl (fun q => ⟨rfl, rfl⟩) ?_
  refine xm_step rfl rfl ?_
  refine xm_step rfl rfl ?_
  refine xm_newI (N := 8) rfl (by decide) (by decide) (by decide) (by decide) (by decide) ?_
  refine xm_putR (N := 8) (r := 19) rfl rfl rfl (fun q => ⟨rfl, rfl⟩) ?_
  exact xm_retV rfl rfl (by decide) (by decide) ⟨rfl, rfl⟩
theorem c_Turns {G : xm_G} {l : Launch} {d : Nat} : xm_C G l xi_Turns_init (d + 1) 5 749 [.ref 20] hx10 (fun r h' => r = none ∧ h' = hx11) := by
  refine xm_enter' (by decide) rfl (Nat.le_of_ble_eq_true rfl) rfl ?_
  refine xm_step rfl rfl ?_
  refine xm_objI (b := 8) rfl (by omega) (Nat.le_of_ble_eq_true rfl) ?_
  refine xm_step rfl rfl ?_
  refine xm_step rfl rfl ?_
  refine xm_newI (N := 343) rfl (by decide) (by decide) (by decide) (by decide) (by decide) ?_
  refine xm_putR (N := 7) (r := 21) rfl rfl rfl (fun q => ⟨rfl, rfl⟩) ?_
  refine xm_step rfl rfl ?_
  refine xm_step rfl rfl ?_
  refine xm_newI (N := 343) rfl (by decide) (by decide) (by decide) (by decide) (by decide) ?_
  refine xm_putR (N := 7) (r := 22) rfl rfl rfl (fun q => ⟨rfl, rfl⟩) ?_
  refine xm_step rfl rfl ?_
  refine xm_step rfl rfl ?_
  refine xm_newI (N := 7) rfl (by decide) (by decide) (by decide) (by decide) (by decide) ?_
  refine xm_putR (N := 7) (r := 23) rfl rfl rfl (fun q => ⟨rfl, rfl⟩) ?_
  refine xm_step rfl rfl ?_
  refine xm_step rfl rfl ?_
  refine xm_newI (N := 49) rfl (by decide) (by decide) (by decide) (by decide) (by decide) ?_
  refine xm_putR (N := 7) (r := 24) rfl rfl rfl (fun q => ⟨rfl, rfl⟩) ?_
  refine xm_step rfl rfl ?_
  refine xm_step rfl rfl ?_
  refine xm_newI (N := 7) rfl (by decide) (by decide) (by decide) (by decide) (by decide) ?_
  refine xm_putR (N := 7) (r := 25) rfl rfl rfl (fun q => ⟨rfl, rfl⟩) ?_
  exact xm_retV rfl rfl (by decide) (by decide) ⟨rfl, rfl⟩
theorem c_Renamings {G : xm_G} {l : Launch} {d : Nat} : xm_C G l xi_Renamings_init (d + 3) 5 90 [.ref 26] hx13 (fun r h' => r = none ∧ h' = hx14) := by
  refine xm_enter' (by decide) rfl (Nat.le_of_ble_eq_true rfl) rfl ?_
  refine xm_step rfl rfl ?_
  refine xm_objI (b := 8) rfl (by omega) (Nat.le_of_ble_eq_true rfl) ?_
  refine xm_step rfl rfl ?_
  refine xm_new (q := ("LatinLaws$Table", xm_T0, 2)) rfl rfl (by decide) (by decide) ?_
  refine xm_step rfl rfl ?_
  refine xm_callI (As := []) (k := 27) (rest := [.ref 27, .ref 26]) (d' := d + 2) (mc' := 1) (ms' := 64) rfl (c_Table (k := 27) (n := 28) (h := xm_psh hx13 (3, 2)) rfl rfl) rfl (by omega) (by decide) (by decide) (Nat.le_of_ble_eq_true rfl) (fun r g1 hp => ?_)
  obtain ⟨rfl, rfl⟩ := hp
  refine xm_putR (N := 5) (r := 27) rfl rfl rfl (fun q => ⟨rfl, rfl⟩) ?_
  refine xm_step rfl rfl ?_
  refine xm_step rfl rfl ?_
  refine xm_newI (N := 8) rfl (by decide) (by decide) (by decide) (by decide) (by decide) ?_
  refine xm_putR (N := 5) (r := 29) rfl rfl rfl (fun q => ⟨rfl, rfl⟩) ?_
  refine xm_step rfl rfl ?_
  refine xm_step rfl rfl ?_
  refine xm_newI (N := 8) rfl (by decide) (by decide) (by decide) (by decide) (by decide) ?_
  refine xm_putR (N := 5) (r := 30) rfl rfl rfl (fun q => ⟨rfl, rfl⟩) ?_
  refine xm_step rfl rfl ?_
  refine xm_step rfl rfl ?_
  refine xm_newI (N := 8) rfl (by decide) (by decide) (by decide) (by decide) (by decide) ?_
  refine xm_putR (N := 5) (r := 31) rfl rfl rfl (fun q => ⟨rfl, rfl⟩) ?_
  exact xm_retV rfl rfl (by decide) (by decide) ⟨rfl, rfl⟩
theorem c_Latin {G : xm_G} {l : Launch} {d : Nat} : xm_C G l xi_L_init (d + 4) 31 1366 [.ref 0] hx0 (fun r h' => r = none ∧ h' = hx15) := by
  refine xm_enter' (by decide) rfl (Nat.le_of_ble_eq_true rfl) rfl ?_
  refine xm_step rfl rfl ?_
  refine xm_objI (b := 8) rfl (by omega) (Nat.le_of_ble_eq_true rfl) ?_
  refine xm_step rfl rfl ?_
  refine xm_step rfl rfl ?_
  refine xm_newQ (N := 4) rfl (by decide) (by decide) (by decide) (by decide) (by decide) ?_
  refine xm_putR (N := 5) (r := 1) rfl rfl rfl (fun q => ⟨rfl, rfl⟩) ?_
  refine xm_step rfl rfl ?_
  refine xm_step rfl rfl ?_
  refine xm_step rfl rfl ?_
  refine xm_step rfl rfl ?_
  refine xm_if rfl rfl (fun hc => absurd ((xe_cd_iff _ _ _).mpr hc) (by decide)) (fun _ => ?_)
  refine xm_step rfl rfl ?_
  refine xm_getR (N := 5) (r := 1) rfl rfl rfl rfl ?_
  refine xm_step rfl rfl ?_
  refine xm_new (q := ("LatinLaws$Table", xm_T0, 2)) rfl rfl (by decide) (by decide) ?_
  refine xm_step rfl rfl ?_
  refine xm_callI (As := []) (k := 2) (rest := [.ref 2, .int 0, .ref 1]) (d' := d + 3) (mc' := 1) (ms' := 64) rfl (c_Table (k := 2) (n := 3) (h := xm_psh hx1 (3, 2)) rfl rfl) rfl (by omega) (by decide) (by decide) (Nat.le_of_ble_eq_true rfl) (fun r g1 hp => ?_)
  obtain ⟨rfl, rfl⟩ := hp
  refine xm_aast (k := 1) (N := 4) (N2 := 2) (r := 2) (i := 0) rfl rfl rfl (by unfold vp_in; decide) ?_
  refine xm_step rfl rfl ?_
  refine xm_step rfl rfl ?_
  refine xm_step rfl rfl ?_
  refine xm_step rfl rfl ?_
  refine xm_if rfl rfl (fun hc => absurd ((xe_cd_iff _ _ _).mpr hc) (by decide)) (fun _ => ?_)
  refine xm_step rfl rfl ?_
  refine xm_getR (N := 5) (r := 1) rfl rfl rfl rfl ?_
  refine xm_step rfl rfl ?_
  refine xm_new (q := ("LatinLaws$Table", xm_T0, 2)) rfl rfl (by decide) (by decide) ?_
  refine xm_step rfl rfl ?_
  refine xm_callI (As := []) (k := 4) (rest := [.ref 4, .int 1, .ref 1]) (d' := d + 3) (mc' := 1) (ms' := 64) rfl (c_Table (k := 4) (n := 5) (h := xm_psh hx2 (3, 2)) rfl rfl) rfl (by omega) (by decide) (by decide) (Nat.le_of_ble_eq_true rfl) (fun r g1 hp => ?_)
  obtain ⟨rfl, rfl⟩ := hp
  refine xm_aast (k := 1) (N := 4) (N2 := 2) (r := 4) (i := 1) rfl rfl rfl (by unfold vp_in; decide) ?_
  refine xm_step rfl rfl ?_
  refine xm_step rfl rfl ?_
  refine xm_step rfl rfl ?_
  refine xm_step rfl rfl ?_
  refine xm_if rfl rfl (fun hc => absurd ((xe_cd_iff _ _ _).mpr hc) (by decide)) (fun _ => ?_)
  refine xm_step rfl rfl ?_
  refine xm_getR (N := 5) (r := 1) rfl rfl rfl rfl ?_
  refine xm_step rfl rfl ?_
  refine xm_new (q := ("LatinLaws$Table", xm_T0, 2)) rfl rfl (by decide) (by decide) ?_
  refine xm_step rfl rfl ?_
  refine xm_callI (As := []) (k := 6) (rest := [.ref 6, .int 2, .ref 1]) (d' := d + 3) (mc' := 1) (ms' := 64) rfl (c_Table (k := 6) (n := 7) (h := xm_psh hx3 (3, 2)) rfl rfl) rfl (by omega) (by decide) (by decide) (Nat.le_of_ble_eq_true rfl) (fun r g1 hp => ?_)
  obtain ⟨rfl, rfl⟩ := hp
  refine xm_aast (k := 1) (N := 4) (N2 := 2) (r := 6) (i := 2) rfl rfl rfl (by unfold vp_in; decide) ?_
  refine xm_step rfl rfl ?_
  refine xm_step rfl rfl ?_
  refine xm_step rfl rfl ?_
  refine xm_step rfl rfl ?_
  refine xm_if rfl rfl (fun hc => absurd ((xe_cd_iff _ _ _).mpr hc) (by decide)) (fun _ => ?_)
  refine xm_step rfl rfl ?_
  refine xm_getR (N := 5) (r := 1) rfl rfl rfl rfl ?_
  refine xm_step rfl rfl ?_
  refine xm_new (q := ("LatinLaws$Table", xm_T0, 2)) rfl rfl (by decide) (by decide) ?_
  refine xm_step rfl rfl ?_
  refine xm_callI (As := []) (k := 8) (rest := [.ref 8, .int 3, .ref 1]) (d' := d + 3) (mc' := 1) (ms' := 64) rfl (c_Table (k := 8) (n := 9) (h := xm_psh hx4 (3, 2)) rfl rfl) rfl (by omega) (by decide) (by decide) (Nat.le_of_ble_eq_true rfl) (fun r g1 hp => ?_)
  obtain ⟨rfl, rfl⟩ := hp
  refine xm_aast (k := 1) (N := 4) (N2 := 2) (r := 8) (i := 3) rfl rfl rfl (by unfold vp_in; decide) ?_
  refine xm_step rfl rfl ?_
  refine xm_step rfl rfl ?_
  refine xm_step rfl rfl ?_
  refine xm_step rfl rfl ?_
  refine xm_if rfl rfl (fun _ => ?_) (fun hc => absurd ((xe_cd_iff _ _ _).mp (by decide)) hc)
  refine xm_step rfl rfl ?_
  refine xm_new (q := ("LatinLaws$Table", xm_T0, 2)) rfl rfl (by decide) (by decide) ?_
  refine xm_step rfl rfl ?_
  refine xm_callI (As := []) (k := 10) (rest := [.ref 10, .ref 0]) (d' := d + 3) (mc' := 1) (ms' := 64) rfl (c_Table (k := 10) (n := 11) (h := xm_psh hx5 (3, 2)) rfl rfl) rfl (by omega) (by decide) (by decide) (Nat.le_of_ble_eq_true rfl) (fun r g1 hp => ?_)
  obtain ⟨rfl, rfl⟩ := hp
  refine xm_putR (N := 5) (r := 10) rfl rfl rfl (fun q => ⟨rfl, rfl⟩) ?_
  refine xm_step rfl rfl ?_
  refine xm_new (q := ("LatinLaws$Endings", xm_T1, 8)) rfl rfl (by decide) (by decide) ?_
  refine xm_step rfl rfl ?_
  refine xm_callI (As := []) (k := 12) (rest := [.ref 12, .ref 0]) (d' := d + 3) (mc' := 7) (ms' := 173) rfl (c_Endings (d := d)) rfl (by omega) (by decide) (by decide) (Nat.le_of_ble_eq_true rfl) (fun r g1 hp => ?_)
  obtain ⟨rfl, rfl⟩ := hp
  refine xm_putR (N := 5) (r := 12) rfl rfl rfl (fun q => ⟨rfl, rfl⟩) ?_
  refine xm_step rfl rfl ?_
  refine xm_new (q := ("LatinLaws$Turns", xm_T2, 7)) rfl rfl (by decide) (by decide) ?_
  refine xm_step rfl rfl ?_
  refine xm_callI (As := []) (k := 20) (rest := [.ref 20, .ref 0]) (d' := d + 3) (mc' := 5) (ms' := 749) rfl (c_Turns (d := d + 2)) rfl (by omega) (by decide) (by decide) (Nat.le_of_ble_eq_true rfl) (fun r g1 hp => ?_)
  obtain ⟨rfl, rfl⟩ := hp
  refine xm_putR (N := 5) (r := 20) rfl rfl rfl (fun q => ⟨rfl, rfl⟩) ?_
  refine xm_step rfl rfl ?_
  refine xm_new (q := ("LatinLaws$Renamings", xm_T3, 5)) rfl rfl (by decide) (by decide) ?_
  refine xm_step rfl rfl ?_
  refine xm_callI (As := []) (k := 26) (rest := [.ref 26, .ref 0]) (d' := d + 3) (mc' := 5) (ms' := 90) rfl (c_Renamings (d := d)) rfl (by omega) (by decide) (by decide) (Nat.le_of_ble_eq_true rfl) (fun r g1 hp => ?_)
  obtain ⟨rfl, rfl⟩ := hp
  refine xm_putR (N := 5) (r := 26) rfl rfl rfl (fun q => ⟨rfl, rfl⟩) ?_
  exact xm_retV rfl rfl (by decide) (by decide) ⟨rfl, rfl⟩
theorem c_Model {G : xm_G} {l : Launch} {d : Nat} : xm_C G l xi_M_init (d + 1) 6 40782 [.ref 32] hx16 (fun r h' => r = none ∧ h' = hx17) := by
  refine xm_enter' (by decide) rfl (Nat.le_of_ble_eq_true rfl) rfl ?_
  refine xm_step rfl rfl ?_
  refine xm_objI (b := 8) rfl (by omega) (Nat.le_of_ble_eq_true rfl) ?_
  refine xm_step rfl rfl ?_
  refine xm_step rfl rfl ?_
  refine xm_newI (N := 6) rfl (by decide) (by decide) (by decide) (by decide) (by decide) ?_
  refine xm_putR (N := 7) (r := 33) rfl rfl rfl (fun q => ⟨rfl, rfl⟩) ?_
  refine xm_step rfl rfl ?_
  refine xm_step rfl rfl ?_
  refine xm_newI (N := 384) rfl (by decide) (by decide) (by decide) (by decide) (by decide) ?_
  refine xm_putR (N := 7) (r := 34) rfl rfl rfl (fun q => ⟨rfl, rfl⟩) ?_
  refine xm_step rfl rfl ?_
  refine xm_step rfl rfl ?_
  refine xm_newI (N := 64) rfl (by decide) (by decide) (by decide) (by decide) (by decide) ?_
  refine xm_putR (N := 7) (r := 35) rfl rfl rfl (fun q => ⟨rfl, rfl⟩) ?_
  refine xm_step rfl rfl ?_
  refine xm_step rfl rfl ?_
  refine xm_newI (N := 8) rfl (by decide) (by decide) (by decide) (by decide) (by decide) ?_
  refine xm_putR (N := 7) (r := 36) rfl rfl rfl (fun q => ⟨rfl, rfl⟩) ?_
  refine xm_step rfl rfl ?_
  refine xm_step rfl rfl ?_
  refine xm_newI (N := 35280) rfl (by decide) (by decide) (by decide) (by decide) (by decide) ?_
  refine xm_putR (N := 7) (r := 37) rfl rfl rfl (fun q => ⟨rfl, rfl⟩) ?_
  refine xm_step rfl rfl ?_
  refine xm_step rfl rfl ?_
  refine xm_newZ (N := 5040) rfl (by decide) (by decide) (by decide) (by decide) (by decide) ?_
  refine xm_putR (N := 7) (r := 38) rfl rfl rfl (fun q => ⟨rfl, rfl⟩) ?_
  refine xm_step rfl rfl ?_
  refine xm_step rfl rfl ?_
  refine xm_step rfl rfl ?_
  refine xm_step rfl rfl ?_
  refine xm_if rfl rfl (fun hc => absurd ((xe_cd_iff _ _ _).mpr hc) (by decide)) (fun _ => ?_)
  refine xm_step rfl rfl ?_
  refine xm_getR (N := 7) (r := 33) rfl rfl rfl rfl ?_
  refine xm_step rfl rfl ?_
  refine xm_step rfl rfl ?_
  refine xm_iast (k := 33) (N := 6) (i := 0) rfl rfl (by unfold vp_in; decide) ?_
  refine xm_step rfl rfl ?_
  refine xm_step rfl rfl ?_
  refine xm_step rfl rfl ?_
  refine xm_step rfl rfl ?_
  refine xm_if rfl rfl (fun hc => absurd ((xe_cd_iff _ _ _).mpr hc) (by decide)) (fun _ => ?_)
  refine xm_step rfl rfl ?_
  refine xm_getR (N := 7) (r := 33) rfl rfl rfl rfl ?_
  refine xm_step rfl rfl ?_
  refine xm_step rfl rfl ?_
  refine xm_iast (k := 33) (N := 6) (i := 1) rfl rfl (by unfold vp_in; decide) ?_
  refine xm_step rfl rfl ?_
  refine xm_step rfl rfl ?_
  refine xm_step rfl rfl ?_
  refine xm_step rfl rfl ?_
  refine xm_if rfl rfl (fun hc => absurd ((xe_cd_iff _ _ _).mpr hc) (by decide)) (fun _ => ?_)
  refine xm_step rfl rfl ?_
  refine xm_getR (N := 7) (r := 33) rfl rfl rfl rfl ?_
  refine xm_step rfl rfl ?_
  refine xm_step rfl rfl ?_
  refine xm_iast (k := 33) (N := 6) (i := 2) rfl rfl (by unfold vp_in; decide) ?_
  refine xm_step rfl rfl ?_
  refine xm_step rfl rfl ?_
  refine xm_step rfl rfl ?_
  refine xm_step rfl rfl ?_
  refine xm_if rfl rfl (fun hc => absurd ((xe_cd_iff _ _ _).mpr hc) (by decide)) (fun _ => ?_)
  refine xm_step rfl rfl ?_
  refine xm_getR (N := 7) (r := 33) rfl rfl rfl rfl ?_
  refine xm_step rfl rfl ?_
  refine xm_step rfl rfl ?_
  refine xm_iast (k := 33) (N := 6) (i := 3) rfl rfl (by unfold vp_in; decide) ?_
  refine xm_step rfl rfl ?_
  refine xm_step rfl rfl ?_
  refine xm_step rfl rfl ?_
  refine xm_step rfl rfl ?_
  refine xm_if rfl rfl (fun hc => absurd ((xe_cd_iff _ _ _).mpr hc) (by decide)) (fun _ => ?_)
  refine xm_step rfl rfl ?_
  refine xm_getR (N := 7) (r := 33) rfl rfl rfl rfl ?_
  refine xm_step rfl rfl ?_
  refine xm_step rfl rfl ?_
  refine xm_iast (k := 33) (N := 6) (i := 4) rfl rfl (by unfold vp_in; decide) ?_
  refine xm_step rfl rfl ?_
  refine xm_step rfl rfl ?_
  refine xm_step rfl rfl ?_
  refine xm_step rfl rfl ?_
  refine xm_if rfl rfl (fun hc => absurd ((xe_cd_iff _ _ _).mpr hc) (by decide)) (fun _ => ?_)
  refine xm_step rfl rfl ?_
  refine xm_getR (N := 7) (r := 33) rfl rfl rfl rfl ?_
  refine xm_step rfl rfl ?_
  refine xm_step rfl rfl ?_
  refine xm_iast (k := 33) (N := 6) (i := 5) rfl rfl (by unfold vp_in; decide) ?_
  refine xm_step rfl rfl ?_
  refine xm_step rfl rfl ?_
  refine xm_step rfl rfl ?_
  refine xm_step rfl rfl ?_
  refine xm_if rfl rfl (fun _ => ?_) (fun hc => absurd ((xe_cd_iff _ _ _).mp (by decide)) hc)
  exact xm_retV rfl rfl (by decide) (by decide) ⟨rfl, rfl⟩
