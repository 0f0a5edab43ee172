set_option maxRecDepth 100000 in
set_option maxHeartbeats 4000000 in
theorem c_waysL1 {G : xm_G} {l : Launch} (x2 : Int32) (h0 : 2 ≤ x2.toInt) (h1 : x2.toInt ≤ 10000) (hS : (∀ (j : Nat) (v : Int32), ([] : List (Nat × Int32)).lookup j = some v → j ≠ 1000000 → j < G.2.2.2.2.1 ∧ G.2.2.2.2.2 j = v) ∧ ∀ v : Int32, ([] : List (Nat × Int32)).lookup 1000000 = some v → v = Int32.ofNat G.2.2.2.2.1 ∧ (v = 5 → G.2.2.2.2.1 = 5)) : xm_C G l xi_L_ways 60 0 0 [.ref 0, .int 1, .int x2] (xh xp_mm) (fun r h' => r = some (.int 1) ∧ ∃ m, h' = xh m ∧ m 33 1 = 1 ∧ m 34 64 = 0) := by
  have R := xe_call_ok (G := G) (l := l) (sc := []) (N := 600) hS 60 xi_L_ways [.ref 0, .int 1, .int x2] (xh xp_mm) [false, false, false, false, true] (some (.int 1)) _ [] [(.lt, 1, 0, false), (.ge, 1, 4, false), (.eq, 1, 0, false), (.lt, x2, 1, false), (.le, x2, 10000, true)] rfl (List.forall_mem_cons.mpr ⟨xe_hd rfl, List.forall_mem_cons.mpr ⟨xe_hd rfl, List.forall_mem_cons.mpr ⟨xe_hd rfl, List.forall_mem_cons.mpr ⟨xe_hs (a := x2.toInt) (b2 := 1) rfl (by decide) (by simp only [xe_ci]; simp only [decide_eq_false_iff_not]; omega), List.forall_mem_cons.mpr ⟨xe_hs (a := x2.toInt) (b2 := 10000) rfl (by decide) (by simp only [xe_ci]; simp only [decide_eq_true_eq]; omega), (fun _ h => absurd h List.not_mem_nil)⟩⟩⟩⟩⟩) rfl
  refine xm_eqC (fun r h' hp => ?_) R
  obtain ⟨rfl, rfl⟩ := hp
  exact ⟨rfl, _, rfl, rfl, rfl⟩
