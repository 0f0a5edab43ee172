/-! p1: the cases of the law, put together -/
def xe_hq (o : Option xe_R) : xm_H := match o with
  | some r => r.2.1
  | none => xm_H0
def xe_ck (N d a : Nat) (as : List Value) (h : xm_H) (v : Int32) : Bool := match xe_call [] N d a as h [] with
  | some (some (.int w), _, _, []) => decide (w = v)
  | _ => false
theorem xe_callD {G : xm_G} {l : Launch} {N d a : Nat} {as : List Value} {h : xm_H} {v : Int32} (hk : xe_ck N d a as h v = true) (ha : xe_arg a as = true) : xm_C G l a d 0 0 as h (fun r h' => r = some (.int v) ∧ h' = xe_hq (xe_call [] N d a as h [])) := by
  unfold xe_ck at hk
  split at hk
  · rename_i w h1 d1 hc
    have e : w = v := by simpa using hk
    subst e
    rw [hc]
    exact xe_call_ok (xe_nil G) d a as h [] _ h1 d1 [] hc (fun _ h => absurd h List.not_mem_nil) ha
  · cases hk
def xa_h (s t : Nat) : xm_H := xe_hq (xe_call [] 3000 60 xi_L_alike [.ref 0, .int (nI s), .int (nI t), .int 1] (xh xp_mm) [])
set_option maxRecDepth 100000 in
theorem v_al1_0 : ∀ t, t < 4 → xe_ck 3000 60 xi_L_alike [.ref 0, .int (nI 0), .int (nI t), .int 1] (xh xp_mm) 1 = true := by decide +kernel
set_option maxRecDepth 100000 in
theorem v_al2_0 : ∀ t, t < 4 → xe_ck 3000 60 xi_M_alike [.ref 32, .int (nI 0), .int (nI t), .int 1] (xa_h 0 t) 1 = true := by decide +kernel
set_option maxRecDepth 100000 in
theorem v_al3_0 : ∀ t, t < 4 → ((xa_h 0 t).1[32]? == some (8, 7)) = true := by decide +kernel
set_option maxRecDepth 100000 in
theorem v_al1_1 : ∀ t, t < 4 → xe_ck 3000 60 xi_L_alike [.ref 0, .int (nI 1), .int (nI t), .int 1] (xh xp_mm) 1 = true := by decide +kernel
set_option maxRecDepth 100000 in
theorem v_al2_1 : ∀ t, t < 4 → xe_ck 3000 60 xi_M_alike [.ref 32, .int (nI 1), .int (nI t), .int 1] (xa_h 1 t) 1 = true := by decide +kernel
set_option maxRecDepth 100000 in
theorem v_al3_1 : ∀ t, t < 4 → ((xa_h 1 t).1[32]? == some (8, 7)) = true := by decide +kernel
set_option maxRecDepth 100000 in
theorem v_al1_2 : ∀ t, t < 4 → xe_ck 3000 60 xi_L_alike [.ref 0, .int (nI 2), .int (nI t), .int 1] (xh xp_mm) 1 = true := by decide +kernel
set_option maxRecDepth 100000 in
theorem v_al2_2 : ∀ t, t < 4 → xe_ck 3000 60 xi_M_alike [.ref 32, .int (nI 2), .int (nI t), .int 1] (xa_h 2 t) 1 = true := by decide +kernel
set_option maxRecDepth 100000 in
theorem v_al3_2 : ∀ t, t < 4 → ((xa_h 2 t).1[32]? == some (8, 7)) = true := by decide +kernel
set_option maxRecDepth 100000 in
theorem v_al1_3 : ∀ t, t < 4 → xe_ck 3000 60 xi_L_alike [.ref 0, .int (nI 3), .int (nI t), .int 1] (xh xp_mm) 1 = true := by decide +kernel
set_option maxRecDepth 100000 in
theorem v_al2_3 : ∀ t, t < 4 → xe_ck 3000 60 xi_M_alike [.ref 32, .int (nI 3), .int (nI t), .int 1] (xa_h 3 t) 1 = true := by decide +kernel
set_option maxRecDepth 100000 in
theorem v_al3_3 : ∀ t, t < 4 → ((xa_h 3 t).1[32]? == some (8, 7)) = true := by decide +kernel
set_option maxRecDepth 100000 in
theorem o_alikeV {s t : Nat} (hs : s < 4) (ht : t < 4) (a1 : xe_ck 3000 60 xi_L_alike [.ref 0, .int (nI s), .int (nI t), .int 1] (xh xp_mm) 1 = true) (a2 : xe_ck 3000 60 xi_M_alike [.ref 32, .int (nI s), .int (nI t), .int 1] (xa_h s t) 1 = true) (a3 : ((xa_h s t).1[32]? == some (8, 7)) = true) (x3 : Int32) (h3 : x3.toInt ≠ 0) : xe_P 644 [(1, nI s), (2, nI t), (3, x3)] := by
  intro G l mc ms c z hL hsc h1 h2
  have v1 : G.2.2.2.2.2 1 = nI s := (hsc 1 _ rfl).2
  have v2 : G.2.2.2.2.2 2 = nI t := (hsc 2 _ rfl).2
  have v3 : G.2.2.2.2.2 3 = x3 := (hsc 3 _ rfl).2
  have i1 : vp_in ((0 : Int32) + 1) G.2.2.2.2.1 := by rw [hL]; unfold vp_in; decide
  have i2 : vp_in ((0 : Int32) + 2) G.2.2.2.2.1 := by rw [hL]; unfold vp_in; decide
  have i3 : vp_in ((0 : Int32) + 3) G.2.2.2.2.1 := by rw [hL]; unfold vp_in; decide
  have n3 : ¬ x3 = 0 := fun q => h3 (by rw [q]; rfl)
  have a3' : (xa_h s t).1[32]? = some (5 + 3, 7) := by simpa using a3
  rw [xp_eq]
  refine xm_step rfl rfl ?_
  refine xm_step rfl rfl ?_
  refine xm_step rfl rfl ?_
  refine xm_step rfl rfl ?_
  refine xm_step rfl rfl ?_
  refine xm_sldv (v := nI s) rfl i1 v1 ?_
  refine xm_step rfl rfl ?_
  refine xm_step rfl rfl ?_
  refine xm_step rfl rfl ?_
  refine xm_step rfl rfl ?_
  refine xm_sldv (v := nI t) rfl i2 v2 ?_
  refine xm_step rfl rfl ?_
  refine xm_step rfl rfl ?_
  refine xm_step rfl rfl ?_
  refine xm_step rfl rfl ?_
  refine xm_sldv (v := x3) rfl i3 v3 ?_
  refine xm_if rfl rfl (fun q => absurd q n3) (fun _ => ?_)
  refine xm_step rfl rfl ?_
  refine xm_step rfl rfl ?_
  refine xm_callV (As := [.int (nI s), .int (nI t), .int 1]) (rest := []) (d' := 60) (mc' := 0) (ms' := 0) (k := 0) (ci := 4) (N := 5) rfl rfl rfl (xe_callD a1 rfl) rfl (by decide) h1 h2 (Nat.le_of_ble_eq_true rfl) (fun r h' hp => ?_)
  obtain ⟨rfl, rfl⟩ := hp
  refine xm_step rfl rfl ?_
  refine xm_step rfl rfl ?_
  refine xm_step rfl rfl ?_
  refine xm_step rfl rfl ?_
  refine xm_step rfl rfl ?_
  refine xm_sldv (v := nI s) rfl i1 v1 ?_
  refine xm_step rfl rfl ?_
  refine xm_step rfl rfl ?_
  refine xm_step rfl rfl ?_
  refine xm_step rfl rfl ?_
  refine xm_sldv (v := nI t) rfl i2 v2 ?_
  refine xm_step rfl rfl ?_
  refine xm_step rfl rfl ?_
  refine xm_step rfl rfl ?_
  refine xm_step rfl rfl ?_
  refine xm_sldv (v := x3) rfl i3 v3 ?_
  refine xm_if rfl rfl (fun q => absurd q n3) (fun _ => ?_)
  refine xm_step rfl rfl ?_
  refine xm_step rfl rfl ?_
  refine xm_callV (As := [.int (nI s), .int (nI t), .int 1]) (rest := [.int 1]) (d' := 60) (mc' := 0) (ms' := 0) (k := 32) (ci := 5) (N := 7) rfl a3' rfl (xe_callD a2 rfl) rfl (by decide) h1 h2 (Nat.le_of_ble_eq_true rfl) (fun r h' hp => ?_)
  obtain ⟨rfl, rfl⟩ := hp
  refine xm_if rfl rfl (fun _ => ?_) (fun q => absurd rfl q)
  exact o_tail hL h1 h2
theorem xo_b {t : Nat} {x : Int32} (ht : t < 4) (h : x = nI t) : 0 ≤ x.toInt ∧ x.toInt < 4 := by
  rw [h, nI_toInt (by omega)]; omega
theorem xo_c (x : Int32) (n : Nat) (hn : n < 2 ^ 31) {k : Nat} (hk : k < n) (h : x = nI k) : 0 ≤ x.toInt ∧ x.toInt < n := by
  rw [h, nI_toInt (by omega)]; omega
theorem o_table (x1 x2 : Int32) : xe_P 132 [(1, x1), (2, x2)] := by
  rcases xp_rn 4 (by decide) x1 with h | h | ⟨t, ht, e1⟩
  · exact i_table_0 x1 x2 h
  · exact i_table_1 x1 x2 h
  · obtain ⟨b1, b2⟩ := xo_b ht e1
    by_cases g1 : x2.toInt < 1
    · exact i_table_2 x1 x2 b1 b2 g1
    · by_cases g2 : 9 ≤ x2.toInt
      · exact i_table_3 x1 x2 b1 b2 g2
      · rcases xp_rn 9 (by decide) x2 with h | h | ⟨n, hn, e2⟩
        · omega
        · omega
        · have hn1 : ¬ n = 0 := fun q => g1 (by rw [e2, q]; decide)
          subst e1 e2
          match t, ht, n, hn, hn1 with
          | 0, _, 1, _, _ => exact xe_val v_table_0_1
          | 0, _, 2, _, _ => exact xe_val v_table_0_2
          | 0, _, 3, _, _ => exact xe_val v_table_0_3
          | 0, _, 4, _, _ => exact xe_val v_table_0_4
          | 0, _, 5, _, _ => exact xe_val v_table_0_5
          | 0, _, 6, _, _ => exact xe_val v_table_0_6
          | 0, _, 7, _, _ => exact xe_val v_table_0_7
          | 0, _, 8, _, _ => exact xe_val v_table_0_8
          | 1, _, 1, _, _ => exact xe_val v_table_1_1
          | 1, _, 2, _, _ => exact xe_val v_table_1_2
          | 1, _, 3, _, _ => exact xe_val v_table_1_3
          | 1, _, 4, _, _ => exact xe_val v_table_1_4
          | 1, _, 5, _, _ => exact xe_val v_table_1_5
          | 1, _, 6, _, _ => exact xe_val v_table_1_6
          | 1, _, 7, _, _ => exact xe_val v_table_1_7
          | 1, _, 8, _, _ => exact xe_val v_table_1_8
          | 2, _, 1, _, _ => exact xe_val v_table_2_1
          | 2, _, 2, _, _ => exact xe_val v_table_2_2
          | 2, _, 3, _, _ => exact xe_val v_table_2_3
          | 2, _, 4, _, _ => exact xe_val v_table_2_4
          | 2, _, 5, _, _ => exact xe_val v_table_2_5
          | 2, _, 6, _, _ => exact xe_val v_table_2_6
          | 2, _, 7, _, _ => exact xe_val v_table_2_7
          | 2, _, 8, _, _ => exact xe_val v_table_2_8
          | 3, _, 1, _, _ => exact xe_val v_table_3_1
          | 3, _, 2, _, _ => exact xe_val v_table_3_2
          | 3, _, 3, _, _ => exact xe_val v_table_3_3
          | 3, _, 4, _, _ => exact xe_val v_table_3_4
          | 3, _, 5, _, _ => exact xe_val v_table_3_5
          | 3, _, 6, _, _ => exact xe_val v_table_3_6
          | 3, _, 7, _, _ => exact xe_val v_table_3_7
          | 3, _, 8, _, _ => exact xe_val v_table_3_8
          | _, _, 0, _, h => exact absurd rfl h
          | t + 4, h, _, _, _ => exact absurd h (by omega)
          | _, _, n + 9, h, _ => exact absurd h (by omega)
theorem o_set (x1 x2 x3 x4 : Int32) : xe_P 165 [(1, x1), (2, x2), (3, x3), (4, x4)] := by
  rcases xp_rn 4 (by decide) x1 with h | h | ⟨t, ht, e1⟩
  · exact i_set_0 x1 x2 x3 x4 h
  · exact i_set_1 x1 x2 x3 x4 h
  · subst e1
    match t, ht with
    | 0, _ =>
      by_cases g2 : x2.toInt = 0
      · have e2 : x2 = 0 := Int32.toInt_inj.mp g2
        subst e2
        exact i_set_2 x3 x4
      · by_cases g3 : x3.toInt = 0
        · have e3 : x3 = 0 := Int32.toInt_inj.mp g3
          subst e3
          by_cases g4 : x2.toInt < 0
          · exact i_set_3 x2 x4 g4
          · exact i_set_4 x2 x4 (by omega)
        · by_cases g4 : x2.toInt < 0
          · exact i_set_5 x2 x3 x4 g4 g3
          · exact i_set_6 x2 x3 x4 (by omega) g3
    | 1, _ =>
      by_cases g2 : x2.toInt = 0
      · have e2 : x2 = 0 := Int32.toInt_inj.mp g2
        subst e2
        exact i_set_7 x3 x4
      · by_cases g3 : x3.toInt = 0
        · have e3 : x3 = 0 := Int32.toInt_inj.mp g3
          subst e3
          by_cases g4 : x2.toInt < 0
          · exact i_set_8 x2 x4 g4
          · exact i_set_9 x2 x4 (by omega)
        · by_cases g4 : x2.toInt < 0
          · exact i_set_10 x2 x3 x4 g4 g3
          · exact i_set_11 x2 x3 x4 (by omega) g3
    | 2, _ =>
      by_cases g2 : x2.toInt = 0
      · have e2 : x2 = 0 := Int32.toInt_inj.mp g2
        subst e2
        exact i_set_12 x3 x4
      · by_cases g3 : x3.toInt = 0
        · have e3 : x3 = 0 := Int32.toInt_inj.mp g3
          subst e3
          by_cases g4 : x2.toInt < 0
          · exact i_set_13 x2 x4 g4
          · exact i_set_14 x2 x4 (by omega)
        · by_cases g4 : x2.toInt < 0
          · exact i_set_15 x2 x3 x4 g4 g3
          · exact i_set_16 x2 x3 x4 (by omega) g3
    | 3, _ =>
      by_cases g2 : x2.toInt = 0
      · have e2 : x2 = 0 := Int32.toInt_inj.mp g2
        subst e2
        exact i_set_17 x3 x4
      · by_cases g3 : x3.toInt = 0
        · have e3 : x3 = 0 := Int32.toInt_inj.mp g3
          subst e3
          by_cases g4 : x2.toInt < 0
          · exact i_set_18 x2 x4 g4
          · exact i_set_19 x2 x4 (by omega)
        · by_cases g4 : x2.toInt < 0
          · exact i_set_20 x2 x3 x4 g4 g3
          · exact i_set_21 x2 x3 x4 (by omega) g3
    | t + 4, h => exact absurd h (by omega)
theorem o_at (x1 x2 x3 : Int32) : xe_P 218 [(1, x1), (2, x2), (3, x3)] := by
  rcases xp_rn 4 (by decide) x1 with h | h | ⟨t, ht, e1⟩
  · exact i_at_0 x1 x2 x3 h
  · exact i_at_1 x1 x2 x3 h
  · subst e1
    match t, ht with
    | 0, _ =>
      by_cases g2 : x2.toInt < 0
      · exact i_at_2 x2 x3 g2
      · by_cases g3 : 1 ≤ x2.toInt
        · exact i_at_3 x2 x3 g3
        · have e2 : x2 = 0 := Int32.toInt_inj.mp (by show x2.toInt = 0; omega)
          subst e2
          by_cases g4 : x3.toInt < 0
          · exact i_at_4 x3 g4
          · by_cases g5 : 1 ≤ x3.toInt
            · exact i_at_5 x3 g5
            · have e3 : x3 = 0 := Int32.toInt_inj.mp (by show x3.toInt = 0; omega)
              subst e3
              exact xe_val (v_at 0 (by decide))
    | 1, _ =>
      by_cases g2 : x2.toInt < 0
      · exact i_at_6 x2 x3 g2
      · by_cases g3 : 1 ≤ x2.toInt
        · exact i_at_7 x2 x3 g3
        · have e2 : x2 = 0 := Int32.toInt_inj.mp (by show x2.toInt = 0; omega)
          subst e2
          by_cases g4 : x3.toInt < 0
          · exact i_at_8 x3 g4
          · by_cases g5 : 1 ≤ x3.toInt
            · exact i_at_9 x3 g5
            · have e3 : x3 = 0 := Int32.toInt_inj.mp (by show x3.toInt = 0; omega)
              subst e3
              exact xe_val (v_at 1 (by decide))
    | 2, _ =>
      by_cases g2 : x2.toInt < 0
      · exact i_at_10 x2 x3 g2
      · by_cases g3 : 1 ≤ x2.toInt
        · exact i_at_11 x2 x3 g3
        · have e2 : x2 = 0 := Int32.toInt_inj.mp (by show x2.toInt = 0; omega)
          subst e2
          by_cases g4 : x3.toInt < 0
          · exact i_at_12 x3 g4
          · by_cases g5 : 1 ≤ x3.toInt
            · exact i_at_13 x3 g5
            · have e3 : x3 = 0 := Int32.toInt_inj.mp (by show x3.toInt = 0; omega)
              subst e3
              exact xe_val (v_at 2 (by decide))
    | 3, _ =>
      by_cases g2 : x2.toInt < 0
      · exact i_at_14 x2 x3 g2
      · by_cases g3 : 1 ≤ x2.toInt
        · exact i_at_15 x2 x3 g3
        · have e2 : x2 = 0 := Int32.toInt_inj.mp (by show x2.toInt = 0; omega)
          subst e2
          by_cases g4 : x3.toInt < 0
          · exact i_at_16 x3 g4
          · by_cases g5 : 1 ≤ x3.toInt
            · exact i_at_17 x3 g5
            · have e3 : x3 = 0 := Int32.toInt_inj.mp (by show x3.toInt = 0; omega)
              subst e3
              exact xe_val (v_at 3 (by decide))
    | t + 4, h => exact absurd h (by omega)
theorem o_empty (x1 : Int32) : xe_P 261 [(1, x1)] := by
  rcases xp_rn 4 (by decide) x1 with h | h | ⟨t, ht, e1⟩
  · exact i_empty_0 x1 h
  · exact i_empty_1 x1 h
  · subst e1
    exact xe_val (v_empty t ht)
theorem o_size (x1 : Int32) : xe_P 888 [(1, x1)] := by
  rcases xp_rn 4 (by decide) x1 with h | h | ⟨t, ht, e1⟩
  · exact i_size_0 x1 h
  · exact i_size_1 x1 h
  · subst e1
    exact xe_val (v_size t ht)
theorem o_group (x1 : Int32) : xe_P 621 [(1, x1)] := by
  rcases xp_rn 4 (by decide) x1 with h | h | ⟨t, ht, e1⟩
  · exact i_group_0 x1 h
  · exact i_group_1 x1 h
  · subst e1
    match t, ht with
    | 0, _ => exact o_groupV0
    | 1, _ => exact o_groupV1
    | 2, _ => exact o_groupV2
    | 3, _ => exact o_groupV3
    | t + 4, h => exact absurd h (by omega)
theorem o_ways (x1 x2 : Int32) : xe_P 284 [(1, x1), (2, x2)] := by
  rcases xp_rn 4 (by decide) x1 with h | h | ⟨t, ht, e1⟩
  · exact i_ways_0 x1 x2 h
  · exact i_ways_1 x1 x2 h
  · obtain ⟨b1, b2⟩ := xo_b ht e1
    by_cases g1 : x2.toInt < 1
    · exact i_ways_2 x1 x2 b1 b2 g1
    · by_cases g2 : 10001 ≤ x2.toInt
      · exact i_ways_3 x1 x2 b1 b2 g2
      · subst e1
        by_cases g3 : x2.toInt = 1
        · have e2 : x2 = 1 := Int32.toInt_inj.mp g3
          subst e2
          exact xe_val (v_ways1 t ht)
        · match t, ht with
          | 0, _ => exact o_waysV0 x2 (by omega) (by omega)
          | 1, _ => exact o_waysV1 x2 (by omega) (by omega)
          | 2, _ => exact o_waysV2 x2 (by omega) (by omega)
          | 3, _ => exact o_waysV3 x2 (by omega) (by omega)
          | t + 4, h => exact absurd h (by omega)
theorem o_end (x1 x2 : Int32) : xe_P 317 [(1, x1), (2, x2)] := by
  rcases xp_rn 4 (by decide) x1 with h | h | ⟨s, hs, e1⟩
  · exact i_end_0 x1 x2 h
  · exact i_end_1 x1 x2 h
  · obtain ⟨b1, b2⟩ := xo_b hs e1
    rcases xp_rn 4 (by decide) x2 with h | h | ⟨t, ht, e2⟩
    · exact i_end_2 x1 x2 b1 b2 h
    · exact i_end_3 x1 x2 b1 b2 h
    · subst e1 e2
      match s, hs with
      | 0, _ => exact xe_val (v_end_0 t ht)
      | 1, _ => exact xe_val (v_end_1 t ht)
      | 2, _ => exact xe_val (v_end_2 t ht)
      | 3, _ => exact xe_val (v_end_3 t ht)
      | s + 4, h => exact absurd h (by omega)
theorem o_name (x1 x2 : Int32) : xe_P 703 [(1, x1), (2, x2)] := by
  rcases xp_rn 4 (by decide) x1 with h | h | ⟨s, hs, e1⟩
  · exact i_name_0 x1 x2 h
  · exact i_name_1 x1 x2 h
  · obtain ⟨b1, b2⟩ := xo_b hs e1
    rcases xp_rn 4 (by decide) x2 with h | h | ⟨t, ht, e2⟩
    · exact i_name_2 x1 x2 b1 b2 h
    · exact i_name_3 x1 x2 b1 b2 h
    · subst e1 e2
      match s, hs with
      | 0, _ => exact xe_val (v_name_0 t ht)
      | 1, _ => exact xe_val (v_name_1 t ht)
      | 2, _ => exact xe_val (v_name_2 t ht)
      | 3, _ => exact xe_val (v_name_3 t ht)
      | s + 4, h => exact absurd h (by omega)
theorem o_divide (x1 x2 x3 x4 : Int32) : xe_P 350 [(1, x1), (2, x2), (3, x3), (4, x4)] := by
  rcases xp_rn 4 (by decide) x1 with h | h | ⟨t, ht, e1⟩
  · exact i_divide_0 x1 x2 x3 x4 h
  · exact i_divide_1 x1 x2 x3 x4 h
  · obtain ⟨b1, b2⟩ := xo_b ht e1
    rcases xp_rn 2 (by decide) x2 with h | h | ⟨w, hw, e2⟩
    · exact i_divide_2 x1 x2 x3 x4 b1 b2 h
    · exact i_divide_3 x1 x2 x3 x4 b1 b2 h
    · obtain ⟨b3, b4⟩ := xo_c x2 2 (by decide) hw e2
      subst e1
      match t, ht with
      | 0, _ =>
        by_cases g2 : x3.toInt < 0
        · exact i_divide_4 x2 x3 x4 b3 b4 g2
        · by_cases g3 : 1 ≤ x3.toInt
          · exact i_divide_5 x2 x3 x4 b3 b4 g3
          · have e3 : x3 = 0 := Int32.toInt_inj.mp (by show x3.toInt = 0; omega)
            subst e3
            by_cases g4 : x4.toInt < 0
            · exact i_divide_6 x2 x4 b3 b4 g4
            · by_cases g5 : 1 ≤ x4.toInt
              · exact i_divide_7 x2 x4 b3 b4 g5
              · have e4 : x4 = 0 := Int32.toInt_inj.mp (by show x4.toInt = 0; omega)
                subst e4 e2
                exact xe_val (v_divide 0 (by decide) w hw)
      | 1, _ =>
        by_cases g2 : x3.toInt < 0
        · exact i_divide_8 x2 x3 x4 b3 b4 g2
        · by_cases g3 : 1 ≤ x3.toInt
          · exact i_divide_9 x2 x3 x4 b3 b4 g3
          · have e3 : x3 = 0 := Int32.toInt_inj.mp (by show x3.toInt = 0; omega)
            subst e3
            by_cases g4 : x4.toInt < 0
            · exact i_divide_10 x2 x4 b3 b4 g4
            · by_cases g5 : 1 ≤ x4.toInt
              · exact i_divide_11 x2 x4 b3 b4 g5
              · have e4 : x4 = 0 := Int32.toInt_inj.mp (by show x4.toInt = 0; omega)
                subst e4 e2
                exact xe_val (v_divide 1 (by decide) w hw)
      | 2, _ =>
        by_cases g2 : x3.toInt < 0
        · exact i_divide_12 x2 x3 x4 b3 b4 g2
        · by_cases g3 : 1 ≤ x3.toInt
          · exact i_divide_13 x2 x3 x4 b3 b4 g3
          · have e3 : x3 = 0 := Int32.toInt_inj.mp (by show x3.toInt = 0; omega)
            subst e3
            by_cases g4 : x4.toInt < 0
            · exact i_divide_14 x2 x4 b3 b4 g4
            · by_cases g5 : 1 ≤ x4.toInt
              · exact i_divide_15 x2 x4 b3 b4 g5
              · have e4 : x4 = 0 := Int32.toInt_inj.mp (by show x4.toInt = 0; omega)
                subst e4 e2
                exact xe_val (v_divide 2 (by decide) w hw)
      | 3, _ =>
        by_cases g2 : x3.toInt < 0
        · exact i_divide_16 x2 x3 x4 b3 b4 g2
        · by_cases g3 : 1 ≤ x3.toInt
          · exact i_divide_17 x2 x3 x4 b3 b4 g3
          · have e3 : x3 = 0 := Int32.toInt_inj.mp (by show x3.toInt = 0; omega)
            subst e3
            by_cases g4 : x4.toInt < 0
            · exact i_divide_18 x2 x4 b3 b4 g4
            · by_cases g5 : 1 ≤ x4.toInt
              · exact i_divide_19 x2 x4 b3 b4 g5
              · have e4 : x4 = 0 := Int32.toInt_inj.mp (by show x4.toInt = 0; omega)
                subst e4 e2
                exact xe_val (v_divide 3 (by decide) w hw)
      | t + 4, h => exact absurd h (by omega)
theorem o_law (x1 x2 x3 : Int32) : xe_P 403 [(1, x1), (2, x2), (3, x3)] := by
  rcases xp_rn 4 (by decide) x1 with h | h | ⟨t, ht, e1⟩
  · exact i_law_0 x1 x2 x3 h
  · exact i_law_1 x1 x2 x3 h
  · obtain ⟨b1, b2⟩ := xo_b ht e1
    rcases xp_rn 13 (by decide) x2 with h | h | ⟨k, hk, e2⟩
    · exact i_law_2 x1 x2 x3 b1 b2 h
    · exact i_law_3 x1 x2 x3 b1 b2 h
    · obtain ⟨b3, b4⟩ := xo_c x2 13 (by decide) hk e2
      rcases xp_rn 2 (by decide) x3 with h | h | ⟨w, hw, e3⟩
      · exact i_law_4 x1 x2 x3 b1 b2 b3 b4 h
      · exact i_law_5 x1 x2 x3 b1 b2 b3 b4 h
      · subst e1 e2 e3
        match t, ht, w, hw with
        | 0, _, 0, _ => exact xe_val (v_law_0_0 k hk)
        | 0, _, 1, _ => exact xe_val (v_law_0_1 k hk)
        | 1, _, 0, _ => exact xe_val (v_law_1_0 k hk)
        | 1, _, 1, _ => exact xe_val (v_law_1_1 k hk)
        | 2, _, 0, _ => exact xe_val (v_law_2_0 k hk)
        | 2, _, 1, _ => exact xe_val (v_law_2_1 k hk)
        | 3, _, 0, _ => exact xe_val (v_law_3_0 k hk)
        | 3, _, 1, _ => exact xe_val (v_law_3_1 k hk)
        | t + 4, h, _, _ => exact absurd h (by omega)
        | _, _, w + 2, h => exact absurd h (by omega)
theorem o_joining (x1 x2 : Int32) : xe_P 446 [(1, x1), (2, x2)] := by
  rcases xp_rn 4 (by decide) x1 with h | h | ⟨t, ht, e1⟩
  · exact i_joining_0 x1 x2 h
  · exact i_joining_1 x1 x2 h
  · obtain ⟨b1, b2⟩ := xo_b ht e1
    rcases xp_rn 5 (by decide) x2 with h | h | ⟨w, hw, e2⟩
    · exact i_joining_2 x1 x2 b1 b2 h
    · exact i_joining_3 x1 x2 b1 b2 h
    · subst e1 e2
      exact xe_val (v_joining t ht w hw)
theorem o_parts (x1 x2 : Int32) : xe_P 512 [(1, x1), (2, x2)] := by
  rcases xp_rn 4 (by decide) x1 with h | h | ⟨t, ht, e1⟩
  · exact i_parts_0 x1 x2 h
  · exact i_parts_1 x1 x2 h
  · obtain ⟨b1, b2⟩ := xo_b ht e1
    rcases xp_rn 2 (by decide) x2 with h | h | ⟨w, hw, e2⟩
    · exact i_parts_2 x1 x2 b1 b2 h
    · exact i_parts_3 x1 x2 b1 b2 h
    · subst e1 e2
      exact xe_val (v_parts t ht w hw)
theorem o_made (x1 x2 : Int32) : xe_P 479 [(1, x1), (2, x2)] := by
  rcases xp_rn 4 (by decide) x1 with h | h | ⟨t, ht, e1⟩
  · exact i_made_0 x1 x2 h
  · exact i_made_1 x1 x2 h
  · rcases xp_rn 2 (by decide) x2 with h | h | ⟨w, hw, e2⟩
    · subst e1
      match t, ht with
      | 0, _ => exact i_made_2 x2 h
      | 1, _ => exact i_made_4 x2 h
      | 2, _ => exact i_made_6 x2 h
      | 3, _ => exact i_made_8 x2 h
      | t + 4, h => exact absurd h (by omega)
    · subst e1
      match t, ht with
      | 0, _ => exact i_made_3 x2 h
      | 1, _ => exact i_made_5 x2 h
      | 2, _ => exact i_made_7 x2 h
      | 3, _ => exact i_made_9 x2 h
      | t + 4, h => exact absurd h (by omega)
    · subst e1 e2
      exact xe_val (v_made t ht w hw)
theorem o_normal (x1 x2 : Int32) : xe_P 545 [(1, x1), (2, x2)] := by
  rcases xp_rn 4 (by decide) x1 with h | h | ⟨t, ht, e1⟩
  · exact i_normal_0 x1 x2 h
  · exact i_normal_1 x1 x2 h
  · rcases xp_rn 2 (by decide) x2 with h | h | ⟨w, hw, e2⟩
    · subst e1
      match t, ht with
      | 0, _ => exact i_normal_2 x2 h
      | 1, _ => exact i_normal_4 x2 h
      | 2, _ => exact i_normal_6 x2 h
      | 3, _ => exact i_normal_8 x2 h
      | t + 4, h => exact absurd h (by omega)
    · subst e1
      match t, ht with
      | 0, _ => exact i_normal_3 x2 h
      | 1, _ => exact i_normal_5 x2 h
      | 2, _ => exact i_normal_7 x2 h
      | 3, _ => exact i_normal_9 x2 h
      | t + 4, h => exact absurd h (by omega)
    · subst e1 e2
      exact xe_val (v_normal t ht w hw)
theorem o_left (x1 x2 x3 : Int32) : xe_P 578 [(1, x1), (2, x2), (3, x3)] := by
  rcases xp_rn 4 (by decide) x1 with h | h | ⟨s, hs, e1⟩
  · exact i_left_0 x1 x2 x3 h
  · exact i_left_1 x1 x2 x3 h
  · obtain ⟨b1, b2⟩ := xo_b hs e1
    rcases xp_rn 4 (by decide) x2 with h | h | ⟨t, ht, e2⟩
    · exact i_left_2 x1 x2 x3 b1 b2 h
    · exact i_left_3 x1 x2 x3 b1 b2 h
    · rcases xp_rn 2 (by decide) x3 with h | h | ⟨w, hw, e3⟩
      · subst e2
        match t, ht with
        | 0, _ => exact i_left_4 x1 x3 b1 b2 h
        | 1, _ => exact i_left_6 x1 x3 b1 b2 h
        | 2, _ => exact i_left_8 x1 x3 b1 b2 h
        | 3, _ => exact i_left_10 x1 x3 b1 b2 h
        | t + 4, h => exact absurd h (by omega)
      · subst e2
        match t, ht with
        | 0, _ => exact i_left_5 x1 x3 b1 b2 h
        | 1, _ => exact i_left_7 x1 x3 b1 b2 h
        | 2, _ => exact i_left_9 x1 x3 b1 b2 h
        | 3, _ => exact i_left_11 x1 x3 b1 b2 h
        | t + 4, h => exact absurd h (by omega)
      · subst e1 e2 e3
        match s, hs with
        | 0, _ => exact xe_val (v_left_0 t ht w hw)
        | 1, _ => exact xe_val (v_left_1 t ht w hw)
        | 2, _ => exact xe_val (v_left_2 t ht w hw)
        | 3, _ => exact xe_val (v_left_3 t ht w hw)
        | s + 4, h => exact absurd h (by omega)
theorem o_alike (x1 x2 x3 : Int32) : xe_P 644 [(1, x1), (2, x2), (3, x3)] := by
  by_cases g3 : x3.toInt = 0
  · have e3 : x3 = 0 := Int32.toInt_inj.mp g3
    subst e3
    rcases xp_rn 4 (by decide) x1 with h | h | ⟨s, hs, e1⟩
    · exact i_alike_0 x1 x2 h
    · exact i_alike_1 x1 x2 h
    · obtain ⟨b1, b2⟩ := xo_b hs e1
      rcases xp_rn 4 (by decide) x2 with h | h | ⟨t, ht, e2⟩
      · exact i_alike_2 x1 x2 b1 b2 h
      · exact i_alike_3 x1 x2 b1 b2 h
      · subst e1 e2
        match s, hs with
        | 0, _ => exact xe_val (v_alike_0 t ht 0 (by decide))
        | 1, _ => exact xe_val (v_alike_1 t ht 0 (by decide))
        | 2, _ => exact xe_val (v_alike_2 t ht 0 (by decide))
        | 3, _ => exact xe_val (v_alike_3 t ht 0 (by decide))
        | s + 4, h => exact absurd h (by omega)
  · rcases xp_rn 4 (by decide) x1 with h | h | ⟨s, hs, e1⟩
    · exact i_alike_4 x1 x2 x3 h g3
    · exact i_alike_5 x1 x2 x3 h g3
    · obtain ⟨b1, b2⟩ := xo_b hs e1
      rcases xp_rn 4 (by decide) x2 with h | h | ⟨t, ht, e2⟩
      · exact i_alike_6 x1 x2 x3 b1 b2 h g3
      · exact i_alike_7 x1 x2 x3 b1 b2 h g3
      · subst e1 e2
        match s, hs with
        | 0, _ => exact o_alikeV (by decide) ht (v_al1_0 t ht) (v_al2_0 t ht) (v_al3_0 t ht) x3 g3
        | 1, _ => exact o_alikeV (by decide) ht (v_al1_1 t ht) (v_al2_1 t ht) (v_al3_1 t ht) x3 g3
        | 2, _ => exact o_alikeV (by decide) ht (v_al1_2 t ht) (v_al2_2 t ht) (v_al3_2 t ht) x3 g3
        | 3, _ => exact o_alikeV (by decide) ht (v_al1_3 t ht) (v_al2_3 t ht) (v_al3_3 t ht) x3 g3
        | s + 4, h => exact absurd h (by omega)
theorem o_square (x1 x2 : Int32) : xe_P 736 [(1, x1), (2, x2)] := by
  rcases xp_rn 4 (by decide) x1 with h | h | ⟨t, ht, e1⟩
  · exact i_square_0 x1 x2 h
  · exact i_square_1 x1 x2 h
  · obtain ⟨b1, b2⟩ := xo_b ht e1
    by_cases g1 : x2.toInt < -1
    · exact i_square_2 x1 x2 b1 b2 g1
    · subst e1
      by_cases g2 : x2.toInt = -1
      · have e2 : x2 = -1 := Int32.toInt_inj.mp g2
        subst e2
        exact xe_val (v_square1 t ht)
      · match t, ht with
        | 0, _ => exact i_square_3 x2 (by omega)
        | 1, _ => exact i_square_4 x2 (by omega)
        | 2, _ => exact i_square_5 x2 (by omega)
        | 3, _ => exact i_square_6 x2 (by omega)
        | t + 4, h => exact absurd h (by omega)
theorem o_turn (x1 x2 : Int32) : xe_P 769 [(1, x1), (2, x2)] := by
  rcases xp_rn 4 (by decide) x1 with h | h | ⟨t, ht, e1⟩
  · exact i_turn_0 x1 x2 h
  · exact i_turn_1 x1 x2 h
  · obtain ⟨b1, b2⟩ := xo_b ht e1
    by_cases g1 : x2.toInt < 0
    · exact i_turn_2 x1 x2 b1 b2 g1
    · subst e1
      match t, ht with
      | 0, _ => exact i_turn_3 x2 (by omega)
      | 1, _ => exact i_turn_4 x2 (by omega)
      | 2, _ => exact i_turn_5 x2 (by omega)
      | 3, _ => exact i_turn_6 x2 (by omega)
      | t + 4, h => exact absurd h (by omega)
theorem xe_Pw {pc : Nat} {sc sc' : List (Nat × Int32)} (hs : ∀ j v, sc.lookup j = some v → sc'.lookup j = some v) (h : xe_P pc sc) : xe_P pc sc' := fun G l mc ms c z hL hsc h1 h2 => h G l mc ms c z hL (fun j v hj => hsc j v (hs j v hj)) h1 h2
theorem o_doubled (x1 x2 x3 : Int32) : xe_P 802 [(1, x1), (2, x2), (3, x3)] := by
  rcases xp_rn 4 (by decide) x1 with h | h | ⟨s, hs, e1⟩
  · exact i_doubled_0 x1 x2 x3 h
  · exact i_doubled_1 x1 x2 x3 h
  · obtain ⟨b1, b2⟩ := xo_b hs e1
    rcases xp_rn 4 (by decide) x2 with h | h | ⟨t, ht, e2⟩
    · exact i_doubled_2 x1 x2 x3 b1 b2 h
    · exact i_doubled_3 x1 x2 x3 b1 b2 h
    · subst e1 e2
      have hw : ∀ (j : Nat) (v : Int32), [(1, nI s), (2, nI t)].lookup j = some v → [(1, nI s), (2, nI t), (3, x3)].lookup j = some v := by
        intro j v hj
        simp only [List.lookup_cons] at hj ⊢
        split at hj
        · exact hj
        · split at hj
          · exact hj
          · cases hj
      match s, hs with
      | 0, _ => exact xe_Pw hw (xe_val (v_doubled_0 t ht))
      | 1, _ => exact xe_Pw hw (xe_val (v_doubled_1 t ht))
      | 2, _ => exact xe_Pw hw (xe_val (v_doubled_2 t ht))
      | 3, _ => exact xe_Pw hw (xe_val (v_doubled_3 t ht))
      | s + 4, h => exact absurd h (by omega)
theorem o_product (x1 x2 x3 : Int32) : xe_P 845 [(1, x1), (2, x2), (3, x3)] := by
  rcases xp_rn 4 (by decide) x1 with h | h | ⟨s, hs, e1⟩
  · exact i_product_0 x1 x2 x3 h
  · exact i_product_1 x1 x2 x3 h
  · obtain ⟨b1, b2⟩ := xo_b hs e1
    rcases xp_rn 4 (by decide) x2 with h | h | ⟨t, ht, e2⟩
    · exact i_product_2 x1 x2 x3 b1 b2 h
    · exact i_product_3 x1 x2 x3 b1 b2 h
    · obtain ⟨b3, b4⟩ := xo_b ht e2
      rcases xp_rn 4 (by decide) x3 with h | h | ⟨u, hu, e3⟩
      · exact i_product_4 x1 x2 x3 b1 b2 b3 b4 h
      · exact i_product_5 x1 x2 x3 b1 b2 b3 b4 h
      · subst e1 e2 e3
        match s, hs, t, ht with
        | 0, _, 0, _ => exact xe_val (v_product_0_0 u hu)
        | 0, _, 1, _ => exact xe_val (v_product_0_1 u hu)
        | 0, _, 2, _ => exact xe_val (v_product_0_2 u hu)
        | 0, _, 3, _ => exact xe_val (v_product_0_3 u hu)
        | 1, _, 0, _ => exact xe_val (v_product_1_0 u hu)
        | 1, _, 1, _ => exact xe_val (v_product_1_1 u hu)
        | 1, _, 2, _ => exact xe_val (v_product_1_2 u hu)
        | 1, _, 3, _ => exact xe_val (v_product_1_3 u hu)
        | 2, _, 0, _ => exact xe_val (v_product_2_0 u hu)
        | 2, _, 1, _ => exact xe_val (v_product_2_1 u hu)
        | 2, _, 2, _ => exact xe_val (v_product_2_2 u hu)
        | 2, _, 3, _ => exact xe_val (v_product_2_3 u hu)
        | 3, _, 0, _ => exact xe_val (v_product_3_0 u hu)
        | 3, _, 1, _ => exact xe_val (v_product_3_1 u hu)
        | 3, _, 2, _ => exact xe_val (v_product_3_2 u hu)
        | 3, _, 3, _ => exact xe_val (v_product_3_3 u hu)
        | s + 4, h, _, _ => exact absurd h (by omega)
        | _, _, t + 4, h => exact absurd h (by omega)
set_option maxRecDepth 100000 in
set_option maxHeartbeats 4000000 in
theorem o_all (G : xm_G) (l : Launch) (hL : G.2.2.2.2.1 = 5) {mc ms c z : Nat} (h1 : c ≤ mc) (h2 : z ≤ ms) (j : Nat) (hj : j < 32) (hk : G.2.2.2.2.2 0 &&& 31 = nI j) : xm_X G l xi_law 1000 mc ms c z 26 xp_LS [] hx17 (fun r _ => r = some (.int 1)) := by
  have i0 : vp_in (0 : Int32) G.2.2.2.2.1 := by rw [hL]; unfold vp_in; decide
  refine xm_step rfl rfl ?_
  refine xm_step rfl rfl ?_
  refine xm_sldv (v := G.2.2.2.2.2 0) rfl i0 rfl ?_
  refine xm_step rfl rfl ?_
  refine xm_step rfl rfl ?_
  show xm_X G l xi_law 1000 mc ms c z 32 xp_LS [.int (G.2.2.2.2.2 0 &&& 31)] hx17 _
  rw [hk]
  match j, hj with
  | 0, _ => exact xm_swi (t := 132) rfl rfl (o_table (G.2.2.2.2.2 1) (G.2.2.2.2.2 2) G l mc ms c z hL (by
      intro j v hv
      simp only [List.lookup_cons, List.lookup_nil] at hv
      repeat' (split at hv)
      all_goals first | (cases hv; rename_i e; have e := beq_iff_eq.mp e; subst e; exact ⟨by decide, rfl⟩) | cases hv) h1 h2)
  | 1, _ => exact xm_swi (t := 165) rfl rfl (o_set (G.2.2.2.2.2 1) (G.2.2.2.2.2 2) (G.2.2.2.2.2 3) (G.2.2.2.2.2 4) G l mc ms c z hL (by
      intro j v hv
      simp only [List.lookup_cons, List.lookup_nil] at hv
      repeat' (split at hv)
      all_goals first | (cases hv; rename_i e; have e := beq_iff_eq.mp e; subst e; exact ⟨by decide, rfl⟩) | cases hv) h1 h2)
  | 2, _ => exact xm_swi (t := 218) rfl rfl (o_at (G.2.2.2.2.2 1) (G.2.2.2.2.2 2) (G.2.2.2.2.2 3) G l mc ms c z hL (by
      intro j v hv
      simp only [List.lookup_cons, List.lookup_nil] at hv
      repeat' (split at hv)
      all_goals first | (cases hv; rename_i e; have e := beq_iff_eq.mp e; subst e; exact ⟨by decide, rfl⟩) | cases hv) h1 h2)
  | 3, _ => exact xm_swi (t := 261) rfl rfl (o_empty (G.2.2.2.2.2 1) G l mc ms c z hL (by
      intro j v hv
      simp only [List.lookup_cons, List.lookup_nil] at hv
      repeat' (split at hv)
      all_goals first | (cases hv; rename_i e; have e := beq_iff_eq.mp e; subst e; exact ⟨by decide, rfl⟩) | cases hv) h1 h2)
  | 4, _ => exact xm_swi (t := 284) rfl rfl (o_ways (G.2.2.2.2.2 1) (G.2.2.2.2.2 2) G l mc ms c z hL (by
      intro j v hv
      simp only [List.lookup_cons, List.lookup_nil] at hv
      repeat' (split at hv)
      all_goals first | (cases hv; rename_i e; have e := beq_iff_eq.mp e; subst e; exact ⟨by decide, rfl⟩) | cases hv) h1 h2)
  | 5, _ => exact xm_swi (t := 317) rfl rfl (o_end (G.2.2.2.2.2 1) (G.2.2.2.2.2 2) G l mc ms c z hL (by
      intro j v hv
      simp only [List.lookup_cons, List.lookup_nil] at hv
      repeat' (split at hv)
      all_goals first | (cases hv; rename_i e; have e := beq_iff_eq.mp e; subst e; exact ⟨by decide, rfl⟩) | cases hv) h1 h2)
  | 6, _ => exact xm_swi (t := 350) rfl rfl (o_divide (G.2.2.2.2.2 1) (G.2.2.2.2.2 2) (G.2.2.2.2.2 3) (G.2.2.2.2.2 4) G l mc ms c z hL (by
      intro j v hv
      simp only [List.lookup_cons, List.lookup_nil] at hv
      repeat' (split at hv)
      all_goals first | (cases hv; rename_i e; have e := beq_iff_eq.mp e; subst e; exact ⟨by decide, rfl⟩) | cases hv) h1 h2)
  | 7, _ => exact xm_swi (t := 403) rfl rfl (o_law (G.2.2.2.2.2 1) (G.2.2.2.2.2 2) (G.2.2.2.2.2 3) G l mc ms c z hL (by
      intro j v hv
      simp only [List.lookup_cons, List.lookup_nil] at hv
      repeat' (split at hv)
      all_goals first | (cases hv; rename_i e; have e := beq_iff_eq.mp e; subst e; exact ⟨by decide, rfl⟩) | cases hv) h1 h2)
  | 8, _ => exact xm_swi (t := 446) rfl rfl (o_joining (G.2.2.2.2.2 1) (G.2.2.2.2.2 2) G l mc ms c z hL (by
      intro j v hv
      simp only [List.lookup_cons, List.lookup_nil] at hv
      repeat' (split at hv)
      all_goals first | (cases hv; rename_i e; have e := beq_iff_eq.mp e; subst e; exact ⟨by decide, rfl⟩) | cases hv) h1 h2)
  | 9, _ => exact xm_swi (t := 479) rfl rfl (o_made (G.2.2.2.2.2 1) (G.2.2.2.2.2 2) G l mc ms c z hL (by
      intro j v hv
      simp only [List.lookup_cons, List.lookup_nil] at hv
      repeat' (split at hv)
      all_goals first | (cases hv; rename_i e; have e := beq_iff_eq.mp e; subst e; exact ⟨by decide, rfl⟩) | cases hv) h1 h2)
  | 10, _ => exact xm_swi (t := 512) rfl rfl (o_parts (G.2.2.2.2.2 1) (G.2.2.2.2.2 2) G l mc ms c z hL (by
      intro j v hv
      simp only [List.lookup_cons, List.lookup_nil] at hv
      repeat' (split at hv)
      all_goals first | (cases hv; rename_i e; have e := beq_iff_eq.mp e; subst e; exact ⟨by decide, rfl⟩) | cases hv) h1 h2)
  | 11, _ => exact xm_swi (t := 545) rfl rfl (o_normal (G.2.2.2.2.2 1) (G.2.2.2.2.2 2) G l mc ms c z hL (by
      intro j v hv
      simp only [List.lookup_cons, List.lookup_nil] at hv
      repeat' (split at hv)
      all_goals first | (cases hv; rename_i e; have e := beq_iff_eq.mp e; subst e; exact ⟨by decide, rfl⟩) | cases hv) h1 h2)
  | 12, _ => exact xm_swi (t := 578) rfl rfl (o_left (G.2.2.2.2.2 1) (G.2.2.2.2.2 2) (G.2.2.2.2.2 3) G l mc ms c z hL (by
      intro j v hv
      simp only [List.lookup_cons, List.lookup_nil] at hv
      repeat' (split at hv)
      all_goals first | (cases hv; rename_i e; have e := beq_iff_eq.mp e; subst e; exact ⟨by decide, rfl⟩) | cases hv) h1 h2)
  | 13, _ => exact xm_swi (t := 621) rfl rfl (o_group (G.2.2.2.2.2 1) G l mc ms c z hL (by
      intro j v hv
      simp only [List.lookup_cons, List.lookup_nil] at hv
      repeat' (split at hv)
      all_goals first | (cases hv; rename_i e; have e := beq_iff_eq.mp e; subst e; exact ⟨by decide, rfl⟩) | cases hv) h1 h2)
  | 14, _ => exact xm_swi (t := 644) rfl rfl (o_alike (G.2.2.2.2.2 1) (G.2.2.2.2.2 2) (G.2.2.2.2.2 3) G l mc ms c z hL (by
      intro j v hv
      simp only [List.lookup_cons, List.lookup_nil] at hv
      repeat' (split at hv)
      all_goals first | (cases hv; rename_i e; have e := beq_iff_eq.mp e; subst e; exact ⟨by decide, rfl⟩) | cases hv) h1 h2)
  | 15, _ => exact xm_swi (t := 703) rfl rfl (o_name (G.2.2.2.2.2 1) (G.2.2.2.2.2 2) G l mc ms c z hL (by
      intro j v hv
      simp only [List.lookup_cons, List.lookup_nil] at hv
      repeat' (split at hv)
      all_goals first | (cases hv; rename_i e; have e := beq_iff_eq.mp e; subst e; exact ⟨by decide, rfl⟩) | cases hv) h1 h2)
  | 16, _ => exact xm_swi (t := 736) rfl rfl (o_square (G.2.2.2.2.2 1) (G.2.2.2.2.2 2) G l mc ms c z hL (by
      intro j v hv
      simp only [List.lookup_cons, List.lookup_nil] at hv
      repeat' (split at hv)
      all_goals first | (cases hv; rename_i e; have e := beq_iff_eq.mp e; subst e; exact ⟨by decide, rfl⟩) | cases hv) h1 h2)
  | 17, _ => exact xm_swi (t := 769) rfl rfl (o_turn (G.2.2.2.2.2 1) (G.2.2.2.2.2 2) G l mc ms c z hL (by
      intro j v hv
      simp only [List.lookup_cons, List.lookup_nil] at hv
      repeat' (split at hv)
      all_goals first | (cases hv; rename_i e; have e := beq_iff_eq.mp e; subst e; exact ⟨by decide, rfl⟩) | cases hv) h1 h2)
  | 18, _ => exact xm_swi (t := 802) rfl rfl (o_doubled (G.2.2.2.2.2 1) (G.2.2.2.2.2 2) (G.2.2.2.2.2 3) G l mc ms c z hL (by
      intro j v hv
      simp only [List.lookup_cons, List.lookup_nil] at hv
      repeat' (split at hv)
      all_goals first | (cases hv; rename_i e; have e := beq_iff_eq.mp e; subst e; exact ⟨by decide, rfl⟩) | cases hv) h1 h2)
  | 19, _ => exact xm_swi (t := 845) rfl rfl (o_product (G.2.2.2.2.2 1) (G.2.2.2.2.2 2) (G.2.2.2.2.2 3) G l mc ms c z hL (by
      intro j v hv
      simp only [List.lookup_cons, List.lookup_nil] at hv
      repeat' (split at hv)
      all_goals first | (cases hv; rename_i e; have e := beq_iff_eq.mp e; subst e; exact ⟨by decide, rfl⟩) | cases hv) h1 h2)
  | 20, _ => exact xm_swi (t := 888) rfl rfl (o_size (G.2.2.2.2.2 1) G l mc ms c z hL (by
      intro j v hv
      simp only [List.lookup_cons, List.lookup_nil] at hv
      repeat' (split at hv)
      all_goals first | (cases hv; rename_i e; have e := beq_iff_eq.mp e; subst e; exact ⟨by decide, rfl⟩) | cases hv) h1 h2)
  | 21, _ => exact xm_swi (t := 911) rfl rfl (o_tail hL h1 h2)
  | 22, _ => exact xm_swi (t := 911) rfl rfl (o_tail hL h1 h2)
  | 23, _ => exact xm_swi (t := 911) rfl rfl (o_tail hL h1 h2)
  | 24, _ => exact xm_swi (t := 911) rfl rfl (o_tail hL h1 h2)
  | 25, _ => exact xm_swi (t := 911) rfl rfl (o_tail hL h1 h2)
  | 26, _ => exact xm_swi (t := 911) rfl rfl (o_tail hL h1 h2)
  | 27, _ => exact xm_swi (t := 911) rfl rfl (o_tail hL h1 h2)
  | 28, _ => exact xm_swi (t := 911) rfl rfl (o_tail hL h1 h2)
  | 29, _ => exact xm_swi (t := 911) rfl rfl (o_tail hL h1 h2)
  | 30, _ => exact xm_swi (t := 911) rfl rfl (o_tail hL h1 h2)
  | 31, _ => exact xm_swi (t := 911) rfl rfl (o_tail hL h1 h2)
  | j + 32, h => exact absurd h (by omega)
set_option maxRecDepth 100000 in
set_option maxHeartbeats 4000000 in
theorem whole_start {p : Program} {e : Env} {s : State} {m : MethodId} {below : List Frame} {meth : Method} {c : Code} (l : Launch) {b L : Nat} {xs : Nat → Int32} (hL : L ≤ 5) (C0 : lw_At p s m meth c b L xs) : W p l e room_1 s m #[Value.ref b] below meth c s.heap [] 0 0 (lw_Z below #[Value.ref b] s) (entryFrame m ([Value.ref b] : List Value).toArray 4) := by
  refine xm_lawstart l C0 (fun G hG => ?_)
  have g1 : G.2.2.2.2.1 = L := by rw [hG]
  refine xm_new (q := ("LatinLaws", xm_T4, 5)) rfl rfl (by decide) (by decide) ?_
  refine xm_step rfl rfl ?_
  refine xm_callI (As := []) (k := 0) (rest := [.ref 0]) (d' := 900) (mc' := 31) (ms' := 1366) rfl (c_Latin (d := 896)) rfl (by decide) (by decide) (by decide) (Nat.le_of_ble_eq_true rfl) (fun r h' hp => ?_)
  obtain ⟨rfl, rfl⟩ := hp
  refine xm_step rfl rfl ?_
  refine xm_new (q := ("LatinLawsModel", xm_T5, 7)) rfl rfl (by decide) (by decide) ?_
  refine xm_step rfl rfl ?_
  refine xm_callI (As := []) (k := 32) (rest := [.ref 32]) (d' := 900) (mc' := 6) (ms' := 40782) rfl (c_Model (d := 899)) rfl (by decide) (by decide) (by decide) (Nat.le_of_ble_eq_true rfl) (fun r h' hp => ?_)
  obtain ⟨rfl, rfl⟩ := hp
  refine xm_step rfl rfl ?_
  refine xm_step rfl rfl ?_
  refine xm_step rfl rfl ?_
  refine xm_step rfl rfl ?_
  refine xm_step rfl rfl ?_
  refine xm_slen rfl ?_
  rw [g1]
  refine xm_step rfl rfl ?_
  refine xm_step rfl rfl ?_
  by_cases h5 : L = 5
  · subst h5
    refine xm_if rfl rfl (fun q => absurd q (by show ¬ ((5 : Int32) - 5 < 0); decide)) (fun _ => ?_)
    obtain ⟨j, hj, hk⟩ := pk_andE (G.2.2.2.2.2 0) (m := 31) 5 (by decide)
    exact o_all G l g1 (by decide) (by decide) j hj hk
  · have hlt : L < 5 := by omega
    have hc : Int32.ofNat L - 5 < 0 := by
      match L, hlt with
      | 0, _ => decide
      | 1, _ => decide
      | 2, _ => decide
      | 3, _ => decide
      | 4, _ => decide
      | n + 5, h => exact absurd h (by omega)
    refine xm_if rfl rfl (fun _ => ?_) (fun q => absurd hc q)
    refine xm_step rfl rfl ?_
    exact xm_retI rfl rfl rfl (by decide) (by decide) rfl
