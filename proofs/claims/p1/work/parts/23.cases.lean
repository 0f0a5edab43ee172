/-! p1: the law's cases that the evaluator doesn't run: ways with a bound of two and more, group -/
theorem xm_sldv {G : xm_G} {l : Launch} {d mc ms cs zs pc : Nat} {ls : List (Option Value)} {st : List Value} {h : xm_H} {post : Option Value → xm_H → Prop} {len a b : Nat} {i v : Int32} (ho : xm_op xi_law pc = some (pc, .iaload, len, a, b)) (hi : vp_in i G.2.2.2.2.1) (hv : G.2.2.2.2.2 i.toNatClampNeg = v) (kk : xm_X G l xi_law d mc ms cs zs (pc + 1) ls (.int v :: st) h post) : xm_X G l xi_law d mc ms cs zs pc ls (.int i :: .float 0 :: st) h post := xm_sld ho hi (hv ▸ kk)
set_option maxRecDepth 100000 in
theorem o_tail {G : xm_G} {l : Launch} {mc ms c z : Nat} {h : xm_H} (hL : G.2.2.2.2.1 = 5) (h1 : c ≤ mc) (h2 : z ≤ ms) : xm_X G l xi_law 1000 mc ms c z 911 xp_LS [] h (fun r _ => r = some (.int 1)) := by
  refine xm_step rfl rfl ?_
  refine xm_step rfl rfl ?_
  refine xm_step rfl rfl ?_
  refine xm_step rfl rfl ?_
  refine xm_slen rfl ?_
  rw [hL]
  refine xm_step rfl rfl ?_
  refine xm_step rfl rfl ?_
  refine xm_if rfl rfl (fun _ => ?_) (fun q => absurd (show (5 : Int32) - 5 < 5 by decide) q)
  refine xm_step rfl rfl ?_
  exact xm_retI rfl rfl rfl h1 h2 rfl
set_option maxRecDepth 100000 in
set_option maxHeartbeats 4000000 in
theorem c_waysL0 {G : xm_G} {l : Launch} (x2 : Int32) (h0 : 2 ≤ x2.toInt) (h1 : x2.toInt ≤ 10000) : xm_C G l xi_L_ways 60 0 0 [.ref 0, .int 0, .int x2] (xh xp_mm) (fun r h' => r = some (.int 1) ∧ ∃ m, h' = xh m ∧ m 33 0 = 1 ∧ m 34 0 = 0) := by
  have R := xe_call_ok (G := G) (l := l) (sc := []) (N := 600) (xe_nil G) 60 xi_L_ways [.ref 0, .int 0, .int x2] (xh xp_mm) [false, false, false, false, true] (some (.int 1)) _ [] [(.lt, 0, 0, false), (.ge, 0, 4, false), (.eq, 1, 0, false), (.lt, x2, 1, false), (.le, x2, 10000, true)] rfl (List.forall_mem_cons.mpr ⟨xe_hd rfl, List.forall_mem_cons.mpr ⟨xe_hd rfl, List.forall_mem_cons.mpr ⟨xe_hd rfl, List.forall_mem_cons.mpr ⟨xe_hs (a := x2.toInt) (b2 := 1) rfl (by decide) (by simp only [xe_ci]; simp only [decide_eq_false_iff_not]; omega), List.forall_mem_cons.mpr ⟨xe_hs (a := x2.toInt) (b2 := 10000) rfl (by decide) (by simp only [xe_ci]; simp only [decide_eq_true_eq]; omega), (fun _ h => absurd h List.not_mem_nil)⟩⟩⟩⟩⟩) rfl
  refine xm_eqC (fun r h' hp => ?_) R
  obtain ⟨rfl, rfl⟩ := hp
  exact ⟨rfl, _, rfl, rfl, rfl⟩
set_option maxRecDepth 100000 in
set_option maxHeartbeats 4000000 in
theorem c_groupL0 {G : xm_G} {l : Launch} : xm_C G l xi_L_group 60 0 0 [.ref 0, .int 0] (xh xp_mm) (fun r h' => r = some (.int 1) ∧ ∃ m, h' = xh m ∧ m 33 0 = 1 ∧ m 34 0 = 0) := by
  have R := xe_call_ok (G := G) (l := l) (sc := []) (N := 600) (xe_nil G) 60 xi_L_group [.ref 0, .int 0] (xh xp_mm) [] (some (.int 1)) _ [] [] rfl (fun _ h => absurd h List.not_mem_nil) rfl
  refine xm_eqC (fun r h' hp => ?_) R
  obtain ⟨rfl, rfl⟩ := hp
  exact ⟨rfl, _, rfl, rfl, rfl⟩
set_option maxRecDepth 100000 in
theorem o_waysV0 (x2 : Int32) (h0 : 2 ≤ x2.toInt) (h01 : x2.toInt ≤ 10000) : xe_P 284 [(1, 0), (2, x2)] := by
  intro G l mc ms c z hL hsc h1 h2
  have v1 : G.2.2.2.2.2 1 = 0 := (hsc 1 _ rfl).2
  have i1 : vp_in ((0 : Int32) + 1) G.2.2.2.2.1 := by rw [hL]; unfold vp_in; decide
  have v2 : G.2.2.2.2.2 2 = x2 := (hsc 2 _ rfl).2
  have i2 : vp_in ((0 : Int32) + 2) G.2.2.2.2.1 := by rw [hL]; unfold vp_in; decide
  have g1 : (1 : Int32) ≤ x2 := by rw [Int32.le_iff_toInt_le]; show (1 : Int) ≤ _; omega
  have g2 : x2 ≤ (10000 : Int32) := by rw [Int32.le_iff_toInt_le]; show _ ≤ (10000 : Int); omega
  rw [xp_eq]
  refine xm_step rfl rfl ?_
  refine xm_step rfl rfl ?_
  refine xm_step rfl rfl ?_
  refine xm_step rfl rfl ?_
  refine xm_step rfl rfl ?_
  refine xm_sldv (v := 0) rfl i1 v1 ?_
  refine xm_step rfl rfl ?_
  refine xm_step rfl rfl ?_
  refine xm_step rfl rfl ?_
  refine xm_step rfl rfl ?_
  refine xm_sldv (v := x2) rfl i2 v2 ?_
  refine xm_callV (As := [.int 0, .int x2]) (rest := []) (d' := 60) (mc' := 0) (ms' := 0) (k := 0) (ci := 4) (N := 5) rfl rfl rfl (c_waysL0 x2 h0 h01) rfl (by decide) h1 h2 (Nat.le_of_ble_eq_true rfl) (fun r h' hp => ?_)
  obtain ⟨rfl, m, rfl, hm, hc⟩ := hp
  refine xm_step rfl rfl ?_
  refine xm_step rfl rfl ?_
  refine xm_step rfl rfl ?_
  refine xm_step rfl rfl ?_
  refine xm_step rfl rfl ?_
  refine xm_sldv (v := 0) rfl i1 v1 ?_
  refine xm_step rfl rfl ?_
  refine xm_step rfl rfl ?_
  refine xm_step rfl rfl ?_
  refine xm_step rfl rfl ?_
  refine xm_sldv (v := x2) rfl i2 v2 ?_
  refine xm_callV (As := [.int (nI 0), .int x2]) (rest := [.int 1]) (d' := 62) (mc' := 0) (ms' := 0) (k := 32) (ci := 5) (N := 7) rfl rfl rfl (c_waysM1 (d := 60) (t := 0) (by decide) hm hc x2 g1 g2) rfl (by decide) h1 h2 (Nat.le_of_ble_eq_true rfl) (fun r h' hp => ?_)
  subst hp
  refine xm_if rfl rfl (fun _ => ?_) (fun q => absurd rfl q)
  exact o_tail hL h1 h2
set_option maxRecDepth 100000 in
theorem o_groupV0 : xe_P 621 [(1, 0)] := by
  intro G l mc ms c z hL hsc h1 h2
  have v1 : G.2.2.2.2.2 1 = 0 := (hsc 1 _ rfl).2
  have i1 : vp_in ((0 : Int32) + 1) G.2.2.2.2.1 := by rw [hL]; unfold vp_in; decide
  rw [xp_eq]
  refine xm_step rfl rfl ?_
  refine xm_step rfl rfl ?_
  refine xm_step rfl rfl ?_
  refine xm_step rfl rfl ?_
  refine xm_step rfl rfl ?_
  refine xm_sldv (v := 0) rfl i1 v1 ?_
  refine xm_callV (As := [.int 0]) (rest := []) (d' := 60) (mc' := 0) (ms' := 0) (k := 0) (ci := 4) (N := 5) rfl rfl rfl c_groupL0 rfl (by decide) h1 h2 (Nat.le_of_ble_eq_true rfl) (fun r h' hp => ?_)
  obtain ⟨rfl, m, rfl, hm, hc⟩ := hp
  refine xm_step rfl rfl ?_
  refine xm_step rfl rfl ?_
  refine xm_step rfl rfl ?_
  refine xm_step rfl rfl ?_
  refine xm_step rfl rfl ?_
  refine xm_sldv (v := 0) rfl i1 v1 ?_
  refine xm_callV (As := [.int 0]) (rest := [.int 1]) (d' := 60) (mc' := 0) (ms' := 0) (k := 32) (ci := 5) (N := 7) rfl rfl rfl (c_groupM0 hm hc) rfl (by decide) h1 h2 (Nat.le_of_ble_eq_true rfl) (fun r h' hp => ?_)
  subst hp
  refine xm_if rfl rfl (fun _ => ?_) (fun q => absurd rfl q)
  exact o_tail hL h1 h2
set_option maxRecDepth 100000 in
set_option maxHeartbeats 4000000 in
theorem c_waysL1 {G : xm_G} {l : Launch} (x2 : Int32) (h0 : 2 ≤ x2.toInt) (h1 : x2.toInt ≤ 10000) : xm_C G l xi_L_ways 60 0 0 [.ref 0, .int 1, .int x2] (xh xp_mm) (fun r h' => r = some (.int 1) ∧ ∃ m, h' = xh m ∧ m 33 1 = 1 ∧ m 34 64 = 0) := by
  have R := xe_call_ok (G := G) (l := l) (sc := []) (N := 600) (xe_nil G) 60 xi_L_ways [.ref 0, .int 1, .int x2] (xh xp_mm) [false, false, false, false, true] (some (.int 1)) _ [] [(.lt, 1, 0, false), (.ge, 1, 4, false), (.eq, 1, 0, false), (.lt, x2, 1, false), (.le, x2, 10000, true)] rfl (List.forall_mem_cons.mpr ⟨xe_hd rfl, List.forall_mem_cons.mpr ⟨xe_hd rfl, List.forall_mem_cons.mpr ⟨xe_hd rfl, List.forall_mem_cons.mpr ⟨xe_hs (a := x2.toInt) (b2 := 1) rfl (by decide) (by simp only [xe_ci]; simp only [decide_eq_false_iff_not]; omega), List.forall_mem_cons.mpr ⟨xe_hs (a := x2.toInt) (b2 := 10000) rfl (by decide) (by simp only [xe_ci]; simp only [decide_eq_true_eq]; omega), (fun _ h => absurd h List.not_mem_nil)⟩⟩⟩⟩⟩) rfl
  refine xm_eqC (fun r h' hp => ?_) R
  obtain ⟨rfl, rfl⟩ := hp
  exact ⟨rfl, _, rfl, rfl, rfl⟩
set_option maxRecDepth 100000 in
set_option maxHeartbeats 4000000 in
theorem c_groupL1 {G : xm_G} {l : Launch} : xm_C G l xi_L_group 60 0 0 [.ref 0, .int 1] (xh xp_mm) (fun r h' => r = some (.int 1) ∧ ∃ m, h' = xh m ∧ m 33 1 = 1 ∧ m 34 64 = 0) := by
  have R := xe_call_ok (G := G) (l := l) (sc := []) (N := 600) (xe_nil G) 60 xi_L_group [.ref 0, .int 1] (xh xp_mm) [] (some (.int 1)) _ [] [] rfl (fun _ h => absurd h List.not_mem_nil) rfl
  refine xm_eqC (fun r h' hp => ?_) R
  obtain ⟨rfl, rfl⟩ := hp
  exact ⟨rfl, _, rfl, rfl, rfl⟩
set_option maxRecDepth 100000 in
theorem o_waysV1 (x2 : Int32) (h0 : 2 ≤ x2.toInt) (h01 : x2.toInt ≤ 10000) : xe_P 284 [(1, 1), (2, x2)] := by
  intro G l mc ms c z hL hsc h1 h2
  have v1 : G.2.2.2.2.2 1 = 1 := (hsc 1 _ rfl).2
  have i1 : vp_in ((0 : Int32) + 1) G.2.2.2.2.1 := by rw [hL]; unfold vp_in; decide
  have v2 : G.2.2.2.2.2 2 = x2 := (hsc 2 _ rfl).2
  have i2 : vp_in ((0 : Int32) + 2) G.2.2.2.2.1 := by rw [hL]; unfold vp_in; decide
  have g1 : (1 : Int32) ≤ x2 := by rw [Int32.le_iff_toInt_le]; show (1 : Int) ≤ _; omega
  have g2 : x2 ≤ (10000 : Int32) := by rw [Int32.le_iff_toInt_le]; show _ ≤ (10000 : Int); omega
  rw [xp_eq]
  refine xm_step rfl rfl ?_
  refine xm_step rfl rfl ?_
  refine xm_step rfl rfl ?_
  refine xm_step rfl rfl ?_
  refine xm_step rfl rfl ?_
  refine xm_sldv (v := 1) rfl i1 v1 ?_
  refine xm_step rfl rfl ?_
  refine xm_step rfl rfl ?_
  refine xm_step rfl rfl ?_
  refine xm_step rfl rfl ?_
  refine xm_sldv (v := x2) rfl i2 v2 ?_
  refine xm_callV (As := [.int 1, .int x2]) (rest := []) (d' := 60) (mc' := 0) (ms' := 0) (k := 0) (ci := 4) (N := 5) rfl rfl rfl (c_waysL1 x2 h0 h01) rfl (by decide) h1 h2 (Nat.le_of_ble_eq_true rfl) (fun r h' hp => ?_)
  obtain ⟨rfl, m, rfl, hm, hc⟩ := hp
  refine xm_step rfl rfl ?_
  refine xm_step rfl rfl ?_
  refine xm_step rfl rfl ?_
  refine xm_step rfl rfl ?_
  refine xm_step rfl rfl ?_
  refine xm_sldv (v := 1) rfl i1 v1 ?_
  refine xm_step rfl rfl ?_
  refine xm_step rfl rfl ?_
  refine xm_step rfl rfl ?_
  refine xm_step rfl rfl ?_
  refine xm_sldv (v := x2) rfl i2 v2 ?_
  refine xm_callV (As := [.int (nI 1), .int x2]) (rest := [.int 1]) (d' := 62) (mc' := 0) (ms' := 0) (k := 32) (ci := 5) (N := 7) rfl rfl rfl (c_waysM1 (d := 60) (t := 1) (by decide) hm hc x2 g1 g2) rfl (by decide) h1 h2 (Nat.le_of_ble_eq_true rfl) (fun r h' hp => ?_)
  subst hp
  refine xm_if rfl rfl (fun _ => ?_) (fun q => absurd rfl q)
  exact o_tail hL h1 h2
set_option maxRecDepth 100000 in
theorem o_groupV1 : xe_P 621 [(1, 1)] := by
  intro G l mc ms c z hL hsc h1 h2
  have v1 : G.2.2.2.2.2 1 = 1 := (hsc 1 _ rfl).2
  have i1 : vp_in ((0 : Int32) + 1) G.2.2.2.2.1 := by rw [hL]; unfold vp_in; decide
  rw [xp_eq]
  refine xm_step rfl rfl ?_
  refine xm_step rfl rfl ?_
  refine xm_step rfl rfl ?_
  refine xm_step rfl rfl ?_
  refine xm_step rfl rfl ?_
  refine xm_sldv (v := 1) rfl i1 v1 ?_
  refine xm_callV (As := [.int 1]) (rest := []) (d' := 60) (mc' := 0) (ms' := 0) (k := 0) (ci := 4) (N := 5) rfl rfl rfl c_groupL1 rfl (by decide) h1 h2 (Nat.le_of_ble_eq_true rfl) (fun r h' hp => ?_)
  obtain ⟨rfl, m, rfl, hm, hc⟩ := hp
  refine xm_step rfl rfl ?_
  refine xm_step rfl rfl ?_
  refine xm_step rfl rfl ?_
  refine xm_step rfl rfl ?_
  refine xm_step rfl rfl ?_
  refine xm_sldv (v := 1) rfl i1 v1 ?_
  refine xm_callV (As := [.int 1]) (rest := [.int 1]) (d' := 60) (mc' := 0) (ms' := 0) (k := 32) (ci := 5) (N := 7) rfl rfl rfl (c_groupM1 hm hc) rfl (by decide) h1 h2 (Nat.le_of_ble_eq_true rfl) (fun r h' hp => ?_)
  subst hp
  refine xm_if rfl rfl (fun _ => ?_) (fun q => absurd rfl q)
  exact o_tail hL h1 h2
set_option maxRecDepth 100000 in
set_option maxHeartbeats 4000000 in
theorem c_waysL2 {G : xm_G} {l : Launch} (x2 : Int32) (h0 : 2 ≤ x2.toInt) (h1 : x2.toInt ≤ 10000) : xm_C G l xi_L_ways 60 0 0 [.ref 0, .int 2, .int x2] (xh xp_mm) (fun r h' => r = some (.int 1) ∧ ∃ m, h' = xh m ∧ m 33 2 = 1 ∧ m 34 128 = 0) := by
  have R := xe_call_ok (G := G) (l := l) (sc := []) (N := 600) (xe_nil G) 60 xi_L_ways [.ref 0, .int 2, .int x2] (xh xp_mm) [false, false, false, false, true] (some (.int 1)) _ [] [(.lt, 2, 0, false), (.ge, 2, 4, false), (.eq, 1, 0, false), (.lt, x2, 1, false), (.le, x2, 10000, true)] rfl (List.forall_mem_cons.mpr ⟨xe_hd rfl, List.forall_mem_cons.mpr ⟨xe_hd rfl, List.forall_mem_cons.mpr ⟨xe_hd rfl, List.forall_mem_cons.mpr ⟨xe_hs (a := x2.toInt) (b2 := 1) rfl (by decide) (by simp only [xe_ci]; simp only [decide_eq_false_iff_not]; omega), List.forall_mem_cons.mpr ⟨xe_hs (a := x2.toInt) (b2 := 10000) rfl (by decide) (by simp only [xe_ci]; simp only [decide_eq_true_eq]; omega), (fun _ h => absurd h List.not_mem_nil)⟩⟩⟩⟩⟩) rfl
  refine xm_eqC (fun r h' hp => ?_) R
  obtain ⟨rfl, rfl⟩ := hp
  exact ⟨rfl, _, rfl, rfl, rfl⟩
set_option maxRecDepth 100000 in
set_option maxHeartbeats 4000000 in
theorem c_groupL2 {G : xm_G} {l : Launch} : xm_C G l xi_L_group 60 0 0 [.ref 0, .int 2] (xh xp_mm) (fun r h' => r = some (.int 1) ∧ ∃ m, h' = xh m ∧ m 33 2 = 1 ∧ m 34 128 = 0) := by
  have R := xe_call_ok (G := G) (l := l) (sc := []) (N := 600) (xe_nil G) 60 xi_L_group [.ref 0, .int 2] (xh xp_mm) [] (some (.int 1)) _ [] [] rfl (fun _ h => absurd h List.not_mem_nil) rfl
  refine xm_eqC (fun r h' hp => ?_) R
  obtain ⟨rfl, rfl⟩ := hp
  exact ⟨rfl, _, rfl, rfl, rfl⟩
set_option maxRecDepth 100000 in
theorem o_waysV2 (x2 : Int32) (h0 : 2 ≤ x2.toInt) (h01 : x2.toInt ≤ 10000) : xe_P 284 [(1, 2), (2, x2)] := by
  intro G l mc ms c z hL hsc h1 h2
  have v1 : G.2.2.2.2.2 1 = 2 := (hsc 1 _ rfl).2
  have i1 : vp_in ((0 : Int32) + 1) G.2.2.2.2.1 := by rw [hL]; unfold vp_in; decide
  have v2 : G.2.2.2.2.2 2 = x2 := (hsc 2 _ rfl).2
  have i2 : vp_in ((0 : Int32) + 2) G.2.2.2.2.1 := by rw [hL]; unfold vp_in; decide
  have g1 : (1 : Int32) ≤ x2 := by rw [Int32.le_iff_toInt_le]; show (1 : Int) ≤ _; omega
  have g2 : x2 ≤ (10000 : Int32) := by rw [Int32.le_iff_toInt_le]; show _ ≤ (10000 : Int); omega
  rw [xp_eq]
  refine xm_step rfl rfl ?_
  refine xm_step rfl rfl ?_
  refine xm_step rfl rfl ?_
  refine xm_step rfl rfl ?_
  refine xm_step rfl rfl ?_
  refine xm_sldv (v := 2) rfl i1 v1 ?_
  refine xm_step rfl rfl ?_
  refine xm_step rfl rfl ?_
  refine xm_step rfl rfl ?_
  refine xm_step rfl rfl ?_
  refine xm_sldv (v := x2) rfl i2 v2 ?_
  refine xm_callV (As := [.int 2, .int x2]) (rest := []) (d' := 60) (mc' := 0) (ms' := 0) (k := 0) (ci := 4) (N := 5) rfl rfl rfl (c_waysL2 x2 h0 h01) rfl (by decide) h1 h2 (Nat.le_of_ble_eq_true rfl) (fun r h' hp => ?_)
  obtain ⟨rfl, m, rfl, hm, hc⟩ := hp
  refine xm_step rfl rfl ?_
  refine xm_step rfl rfl ?_
  refine xm_step rfl rfl ?_
  refine xm_step rfl rfl ?_
  refine xm_step rfl rfl ?_
  refine xm_sldv (v := 2) rfl i1 v1 ?_
  refine xm_step rfl rfl ?_
  refine xm_step rfl rfl ?_
  refine xm_step rfl rfl ?_
  refine xm_step rfl rfl ?_
  refine xm_sldv (v := x2) rfl i2 v2 ?_
  refine xm_callV (As := [.int (nI 2), .int x2]) (rest := [.int 1]) (d' := 62) (mc' := 0) (ms' := 0) (k := 32) (ci := 5) (N := 7) rfl rfl rfl (c_waysM1 (d := 60) (t := 2) (by decide) hm hc x2 g1 g2) rfl (by decide) h1 h2 (Nat.le_of_ble_eq_true rfl) (fun r h' hp => ?_)
  subst hp
  refine xm_if rfl rfl (fun _ => ?_) (fun q => absurd rfl q)
  exact o_tail hL h1 h2
set_option maxRecDepth 100000 in
theorem o_groupV2 : xe_P 621 [(1, 2)] := by
  intro G l mc ms c z hL hsc h1 h2
  have v1 : G.2.2.2.2.2 1 = 2 := (hsc 1 _ rfl).2
  have i1 : vp_in ((0 : Int32) + 1) G.2.2.2.2.1 := by rw [hL]; unfold vp_in; decide
  rw [xp_eq]
  refine xm_step rfl rfl ?_
  refine xm_step rfl rfl ?_
  refine xm_step rfl rfl ?_
  refine xm_step rfl rfl ?_
  refine xm_step rfl rfl ?_
  refine xm_sldv (v := 2) rfl i1 v1 ?_
  refine xm_callV (As := [.int 2]) (rest := []) (d' := 60) (mc' := 0) (ms' := 0) (k := 0) (ci := 4) (N := 5) rfl rfl rfl c_groupL2 rfl (by decide) h1 h2 (Nat.le_of_ble_eq_true rfl) (fun r h' hp => ?_)
  obtain ⟨rfl, m, rfl, hm, hc⟩ := hp
  refine xm_step rfl rfl ?_
  refine xm_step rfl rfl ?_
  refine xm_step rfl rfl ?_
  refine xm_step rfl rfl ?_
  refine xm_step rfl rfl ?_
  refine xm_sldv (v := 2) rfl i1 v1 ?_
  refine xm_callV (As := [.int 2]) (rest := [.int 1]) (d' := 60) (mc' := 0) (ms' := 0) (k := 32) (ci := 5) (N := 7) rfl rfl rfl (c_groupM2 hm hc) rfl (by decide) h1 h2 (Nat.le_of_ble_eq_true rfl) (fun r h' hp => ?_)
  subst hp
  refine xm_if rfl rfl (fun _ => ?_) (fun q => absurd rfl q)
  exact o_tail hL h1 h2
set_option maxRecDepth 100000 in
set_option maxHeartbeats 4000000 in
theorem c_waysL3 {G : xm_G} {l : Launch} (x2 : Int32) (h0 : 2 ≤ x2.toInt) (h1 : x2.toInt ≤ 10000) : xm_C G l xi_L_ways 60 0 0 [.ref 0, .int 3, .int x2] (xh xp_mm) (fun r h' => r = some (.int 1) ∧ ∃ m, h' = xh m ∧ m 33 3 = 1 ∧ m 34 192 = 0) := by
  have R := xe_call_ok (G := G) (l := l) (sc := []) (N := 600) (xe_nil G) 60 xi_L_ways [.ref 0, .int 3, .int x2] (xh xp_mm) [false, false, false, false, true] (some (.int 1)) _ [] [(.lt, 3, 0, false), (.ge, 3, 4, false), (.eq, 1, 0, false), (.lt, x2, 1, false), (.le, x2, 10000, true)] rfl (List.forall_mem_cons.mpr ⟨xe_hd rfl, List.forall_mem_cons.mpr ⟨xe_hd rfl, List.forall_mem_cons.mpr ⟨xe_hd rfl, List.forall_mem_cons.mpr ⟨xe_hs (a := x2.toInt) (b2 := 1) rfl (by decide) (by simp only [xe_ci]; simp only [decide_eq_false_iff_not]; omega), List.forall_mem_cons.mpr ⟨xe_hs (a := x2.toInt) (b2 := 10000) rfl (by decide) (by simp only [xe_ci]; simp only [decide_eq_true_eq]; omega), (fun _ h => absurd h List.not_mem_nil)⟩⟩⟩⟩⟩) rfl
  refine xm_eqC (fun r h' hp => ?_) R
  obtain ⟨rfl, rfl⟩ := hp
  exact ⟨rfl, _, rfl, rfl, rfl⟩
set_option maxRecDepth 100000 in
set_option maxHeartbeats 4000000 in
theorem c_groupL3 {G : xm_G} {l : Launch} : xm_C G l xi_L_group 60 0 0 [.ref 0, .int 3] (xh xp_mm) (fun r h' => r = some (.int 1) ∧ ∃ m, h' = xh m ∧ m 33 3 = 1 ∧ m 34 192 = 0) := by
  have R := xe_call_ok (G := G) (l := l) (sc := []) (N := 600) (xe_nil G) 60 xi_L_group [.ref 0, .int 3] (xh xp_mm) [] (some (.int 1)) _ [] [] rfl (fun _ h => absurd h List.not_mem_nil) rfl
  refine xm_eqC (fun r h' hp => ?_) R
  obtain ⟨rfl, rfl⟩ := hp
  exact ⟨rfl, _, rfl, rfl, rfl⟩
set_option maxRecDepth 100000 in
theorem o_waysV3 (x2 : Int32) (h0 : 2 ≤ x2.toInt) (h01 : x2.toInt ≤ 10000) : xe_P 284 [(1, 3), (2, x2)] := by
  intro G l mc ms c z hL hsc h1 h2
  have v1 : G.2.2.2.2.2 1 = 3 := (hsc 1 _ rfl).2
  have i1 : vp_in ((0 : Int32) + 1) G.2.2.2.2.1 := by rw [hL]; unfold vp_in; decide
  have v2 : G.2.2.2.2.2 2 = x2 := (hsc 2 _ rfl).2
  have i2 : vp_in ((0 : Int32) + 2) G.2.2.2.2.1 := by rw [hL]; unfold vp_in; decide
  have g1 : (1 : Int32) ≤ x2 := by rw [Int32.le_iff_toInt_le]; show (1 : Int) ≤ _; omega
  have g2 : x2 ≤ (10000 : Int32) := by rw [Int32.le_iff_toInt_le]; show _ ≤ (10000 : Int); omega
  rw [xp_eq]
  refine xm_step rfl rfl ?_
  refine xm_step rfl rfl ?_
  refine xm_step rfl rfl ?_
  refine xm_step rfl rfl ?_
  refine xm_step rfl rfl ?_
  refine xm_sldv (v := 3) rfl i1 v1 ?_
  refine xm_step rfl rfl ?_
  refine xm_step rfl rfl ?_
  refine xm_step rfl rfl ?_
  refine xm_step rfl rfl ?_
  refine xm_sldv (v := x2) rfl i2 v2 ?_
  refine xm_callV (As := [.int 3, .int x2]) (rest := []) (d' := 60) (mc' := 0) (ms' := 0) (k := 0) (ci := 4) (N := 5) rfl rfl rfl (c_waysL3 x2 h0 h01) rfl (by decide) h1 h2 (Nat.le_of_ble_eq_true rfl) (fun r h' hp => ?_)
  obtain ⟨rfl, m, rfl, hm, hc⟩ := hp
  refine xm_step rfl rfl ?_
  refine xm_step rfl rfl ?_
  refine xm_step rfl rfl ?_
  refine xm_step rfl rfl ?_
  refine xm_step rfl rfl ?_
  refine xm_sldv (v := 3) rfl i1 v1 ?_
  refine xm_step rfl rfl ?_
  refine xm_step rfl rfl ?_
  refine xm_step rfl rfl ?_
  refine xm_step rfl rfl ?_
  refine xm_sldv (v := x2) rfl i2 v2 ?_
  refine xm_callV (As := [.int (nI 3), .int x2]) (rest := [.int 1]) (d' := 62) (mc' := 0) (ms' := 0) (k := 32) (ci := 5) (N := 7) rfl rfl rfl (c_waysM1 (d := 60) (t := 3) (by decide) hm hc x2 g1 g2) rfl (by decide) h1 h2 (Nat.le_of_ble_eq_true rfl) (fun r h' hp => ?_)
  subst hp
  refine xm_if rfl rfl (fun _ => ?_) (fun q => absurd rfl q)
  exact o_tail hL h1 h2
set_option maxRecDepth 100000 in
theorem o_groupV3 : xe_P 621 [(1, 3)] := by
  intro G l mc ms c z hL hsc h1 h2
  have v1 : G.2.2.2.2.2 1 = 3 := (hsc 1 _ rfl).2
  have i1 : vp_in ((0 : Int32) + 1) G.2.2.2.2.1 := by rw [hL]; unfold vp_in; decide
  rw [xp_eq]
  refine xm_step rfl rfl ?_
  refine xm_step rfl rfl ?_
  refine xm_step rfl rfl ?_
  refine xm_step rfl rfl ?_
  refine xm_step rfl rfl ?_
  refine xm_sldv (v := 3) rfl i1 v1 ?_
  refine xm_callV (As := [.int 3]) (rest := []) (d' := 60) (mc' := 0) (ms' := 0) (k := 0) (ci := 4) (N := 5) rfl rfl rfl c_groupL3 rfl (by decide) h1 h2 (Nat.le_of_ble_eq_true rfl) (fun r h' hp => ?_)
  obtain ⟨rfl, m, rfl, hm, hc⟩ := hp
  refine xm_step rfl rfl ?_
  refine xm_step rfl rfl ?_
  refine xm_step rfl rfl ?_
  refine xm_step rfl rfl ?_
  refine xm_step rfl rfl ?_
  refine xm_sldv (v := 3) rfl i1 v1 ?_
  refine xm_callV (As := [.int 3]) (rest := [.int 1]) (d' := 60) (mc' := 0) (ms' := 0) (k := 32) (ci := 5) (N := 7) rfl rfl rfl (c_groupM3 hm hc) rfl (by decide) h1 h2 (Nat.le_of_ble_eq_true rfl) (fun r h' hp => ?_)
  subst hp
  refine xm_if rfl rfl (fun _ => ?_) (fun q => absurd rfl q)
  exact o_tail hL h1 h2
