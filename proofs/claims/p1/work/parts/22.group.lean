/-! p1: group on a table of one element -/
def xz (t : Nat) (m : Nat → Nat → Int32) : Nat → Nat → Int32 := va_up (va_up m 33 (upd (m 33) t 1)) 34 (upd (m 34) (64 * t) 0)
theorem xz_eq {t : Nat} {m : Nat → Nat → Int32} (h1 : m 33 t = 1) (h2 : m 34 (64 * t) = 0) : xz t m = m := by
  funext k j
  unfold xz va_up upd
  by_cases e : k = 34
  · subst e
    rw [if_pos rfl]
    by_cases e2 : j = 64 * t
    · rw [if_pos e2, e2, h2]
    · rw [if_neg e2]
  · rw [if_neg e]
    by_cases e1 : k = 33
    · subst e1
      rw [if_pos rfl]
      by_cases e2 : j = t
      · rw [if_pos e2, e2, h1]
      · rw [if_neg e2]
    · rw [if_neg e1]
theorem xe_nil (G : xm_G) : (∀ (j : Nat) (v : Int32), ([] : List (Nat × Int32)).lookup j = some v → j ≠ 1000000 → j < G.2.2.2.2.1 ∧ G.2.2.2.2.2 j = v) ∧ ∀ v : Int32, ([] : List (Nat × Int32)).lookup 1000000 = some v → v = Int32.ofNat G.2.2.2.2.1 ∧ (v = 5 → G.2.2.2.2.1 = 5) := ⟨fun _ _ h => (by cases h), fun _ h => (by cases h)⟩
abbrev xf_clr (m : Nat → Nat → Int32) (i : Nat) : Nat → Nat → Int32 := va_up m 38 (fun j => if j < i then 0 else m 38 j)
theorem c_clear {G : xm_G} {l : Launch} {d : Nat} {m : Nat → Nat → Int32} {t : Int32} {post : Option Value → xm_H → Prop} (K : xm_X G l xi_M_group d 0 0 0 0 60 [some (.ref 32), some (.int t), some (.int 1), some (.int (nI 5040)), none, none, none] [] (xh (xf_clr m 5040)) post) : xm_X G l xi_M_group d 0 0 0 0 40 [some (.ref 32), some (.int t), some (.int 1), some (.int (nI 0)), none, none, none] [] (xh m) post := by
  have L : ∀ (n i : Nat), i ≤ 5040 → 5041 ≤ i + n → xm_X G l xi_M_group d 0 0 0 0 40 [some (.ref 32), some (.int t), some (.int 1), some (.int (nI i)), none, none, none] [] (xh (xf_clr m i)) post := by
    intro n
    induction n with
    | zero => intro i h1 h2; omega
    | succ n ih =>
      intro i h1 h2
      refine xm_step rfl rfl ?_
      refine xm_step rfl rfl ?_
      refine xm_if rfl rfl (fun hc => ?_) (fun hc => ?_)
      · have hc : nI 5040 ≤ nI i := hc
        have e : i = 5040 := by have := (nI_leI (by decide) (by omega)).mp hc; omega
        subst e
        exact K
      · have hc : ¬ nI 5040 ≤ nI i := hc
        have hlt : i < 5040 := by
          rcases Nat.lt_or_ge i 5040 with q | q
          · exact q
          · exact absurd (nI_le q (by omega)) hc
        refine xm_step rfl rfl ?_
        refine xm_getR (N := 7) (r := 38) rfl rfl rfl rfl ?_
        refine xm_step rfl rfl ?_
        refine xm_step rfl rfl ?_
        refine xm_zast (N := 5040) rfl rfl (vp_in_nI hlt (by decide)) ?_
        rw [nI_clamp (by omega)]
        refine xm_step rfl rfl ?_
        refine xm_step rfl rfl ?_
        have IH := ih (i + 1) (by omega) (by omega)
        rw [nI_succ] at IH
        have eh : xm_sm (xh (xf_clr m i)) 38 i (vp_nar .boolean (Int32.ofInt 0)) = xh (xf_clr m (i + 1)) := by
          have ez : vp_nar .boolean (Int32.ofInt 0) = 0 := by decide
          rw [ez]
          simp only [xm_sm, xf_clr, xh, Prod.mk.injEq, true_and]
          funext q j
          unfold va_up upd
          by_cases e : q = 38
          · subst e
            simp only [if_true]
            by_cases e2 : j = i
            · subst e2; simp
            · have e3 : j < i + 1 ↔ j < i := by omega
              simp [e2, e3]
          · simp [e]
        rw [eh]
        exact IH
  have R := L 5041 0 (by omega) (by omega)
  have e0 : xh (xf_clr m 0) = xh m := by
    simp only [xf_clr, xh, Prod.mk.injEq, true_and]
    funext q j
    unfold va_up
    by_cases e : q = 38
    · subst e; simp
    · simp [e]
  exact e0 ▸ R
set_option maxRecDepth 100000 in
set_option maxHeartbeats 4000000 in
theorem c_groupM0 {G : xm_G} {l : Launch} {m : Nat → Nat → Int32} (hm : m 33 0 = 1) (hc : m 34 0 = 0) : xm_C G l xi_M_group 60 0 0 [.ref 32, .int 0] (xh m) (fun r h' => r = some (.int 1)) := by
  have e0 : xz 0 m = m := xz_eq hm hc
  rw [← e0]
  refine xm_enter' (by decide) rfl (Nat.le_of_ble_eq_true rfl) rfl ?_
  refine xm_step rfl rfl ?_
  refine xm_callS (As := [.int 0]) (rest := []) (d' := 59) (mc' := 0) (ms' := 0) rfl (xe_call_ok (sc := []) (N := 100) (xe_nil G) 59 xi_M_isTable [.int 0] (xh (xz 0 m)) [] (some (.int 1)) _ [] [] rfl (fun _ h => absurd h List.not_mem_nil) rfl) rfl (Nat.le_refl _) (Nat.le_refl _) (Nat.le_refl _) (Nat.le_of_ble_eq_true rfl) (fun r h' hp => ?_)
  obtain ⟨rfl, rfl⟩ := hp
  refine xm_if rfl rfl (fun _ => ?_) (fun q => absurd (show ¬ (1 : Int32) = 0 by decide) q)
  refine xm_step rfl rfl ?_
  refine xm_step rfl rfl ?_
  refine xm_callV (As := [.int 0]) (rest := []) (d' := 59) (mc' := 0) (ms' := 0) (k := 32) (ci := 5) (N := 7) rfl rfl rfl (xe_call_ok (sc := []) (N := 100) (xe_nil G) 59 xi_M_isFull [.ref 32, .int 0] (xh (xz 0 m)) [] (some (.int 1)) _ [] [] rfl (fun _ h => absurd h List.not_mem_nil) rfl) rfl (Nat.le_refl _) (Nat.le_refl _) (Nat.le_refl _) (Nat.le_of_ble_eq_true rfl) (fun r h' hp => ?_)
  obtain ⟨rfl, rfl⟩ := hp
  refine xm_if rfl rfl (fun q => absurd (show (1 : Int32) = 0 from q) (by decide)) (fun _ => ?_)
  refine xm_step rfl rfl ?_
  refine xm_getR (N := 7) (r := 33) rfl rfl rfl rfl ?_
  refine xm_step rfl rfl ?_
  refine xm_iald (N := 6) rfl rfl (by unfold vp_in; decide) ?_
  refine xm_step rfl rfl ?_
  refine xm_if rfl rfl (fun _ => ?_) (fun q => absurd (show (1 : Int32) ≤ 7 by decide) q)
  refine xm_step rfl rfl ?_
  refine xm_getR (N := 7) (r := 33) rfl rfl rfl rfl ?_
  refine xm_step rfl rfl ?_
  refine xm_iald (N := 6) rfl rfl (by unfold vp_in; decide) ?_
  refine xm_step rfl rfl ?_
  refine xm_step rfl rfl ?_
  refine xm_step rfl rfl ?_
  refine c_clear (m := xz 0 m) (t := 0) ?_
  exact xm_mono (fun r h' hp => hp.1) (xe_lp_ok (sc := []) (xe_nil G) (xe_call_ok (N := 300) (xe_nil G) 59) 600 xi_M_group 60 [some (.ref 32), some (.int 0), some (.int 1), some (.int (nI 5040)), none, none, none] [] (xh (xf_clr (xz 0 m) 5040)) [] (some (.int 1)) _ [] [] rfl (fun _ h => absurd h List.not_mem_nil) (Nat.le_refl _) (Nat.le_refl _))
set_option maxRecDepth 100000 in
set_option maxHeartbeats 4000000 in
theorem c_groupM1 {G : xm_G} {l : Launch} {m : Nat → Nat → Int32} (hm : m 33 1 = 1) (hc : m 34 64 = 0) : xm_C G l xi_M_group 60 0 0 [.ref 32, .int 1] (xh m) (fun r h' => r = some (.int 1)) := by
  have e0 : xz 1 m = m := xz_eq hm hc
  rw [← e0]
  refine xm_enter' (by decide) rfl (Nat.le_of_ble_eq_true rfl) rfl ?_
  refine xm_step rfl rfl ?_
  refine xm_callS (As := [.int 1]) (rest := []) (d' := 59) (mc' := 0) (ms' := 0) rfl (xe_call_ok (sc := []) (N := 100) (xe_nil G) 59 xi_M_isTable [.int 1] (xh (xz 1 m)) [] (some (.int 1)) _ [] [] rfl (fun _ h => absurd h List.not_mem_nil) rfl) rfl (Nat.le_refl _) (Nat.le_refl _) (Nat.le_refl _) (Nat.le_of_ble_eq_true rfl) (fun r h' hp => ?_)
  obtain ⟨rfl, rfl⟩ := hp
  refine xm_if rfl rfl (fun _ => ?_) (fun q => absurd (show ¬ (1 : Int32) = 0 by decide) q)
  refine xm_step rfl rfl ?_
  refine xm_step rfl rfl ?_
  refine xm_callV (As := [.int 1]) (rest := []) (d' := 59) (mc' := 0) (ms' := 0) (k := 32) (ci := 5) (N := 7) rfl rfl rfl (xe_call_ok (sc := []) (N := 100) (xe_nil G) 59 xi_M_isFull [.ref 32, .int 1] (xh (xz 1 m)) [] (some (.int 1)) _ [] [] rfl (fun _ h => absurd h List.not_mem_nil) rfl) rfl (Nat.le_refl _) (Nat.le_refl _) (Nat.le_refl _) (Nat.le_of_ble_eq_true rfl) (fun r h' hp => ?_)
  obtain ⟨rfl, rfl⟩ := hp
  refine xm_if rfl rfl (fun q => absurd (show (1 : Int32) = 0 from q) (by decide)) (fun _ => ?_)
  refine xm_step rfl rfl ?_
  refine xm_getR (N := 7) (r := 33) rfl rfl rfl rfl ?_
  refine xm_step rfl rfl ?_
  refine xm_iald (N := 6) rfl rfl (by unfold vp_in; decide) ?_
  refine xm_step rfl rfl ?_
  refine xm_if rfl rfl (fun _ => ?_) (fun q => absurd (show (1 : Int32) ≤ 7 by decide) q)
  refine xm_step rfl rfl ?_
  refine xm_getR (N := 7) (r := 33) rfl rfl rfl rfl ?_
  refine xm_step rfl rfl ?_
  refine xm_iald (N := 6) rfl rfl (by unfold vp_in; decide) ?_
  refine xm_step rfl rfl ?_
  refine xm_step rfl rfl ?_
  refine xm_step rfl rfl ?_
  refine c_clear (m := xz 1 m) (t := 1) ?_
  exact xm_mono (fun r h' hp => hp.1) (xe_lp_ok (sc := []) (xe_nil G) (xe_call_ok (N := 300) (xe_nil G) 59) 600 xi_M_group 60 [some (.ref 32), some (.int 1), some (.int 1), some (.int (nI 5040)), none, none, none] [] (xh (xf_clr (xz 1 m) 5040)) [] (some (.int 1)) _ [] [] rfl (fun _ h => absurd h List.not_mem_nil) (Nat.le_refl _) (Nat.le_refl _))
set_option maxRecDepth 100000 in
set_option maxHeartbeats 4000000 in
theorem c_groupM2 {G : xm_G} {l : Launch} {m : Nat → Nat → Int32} (hm : m 33 2 = 1) (hc : m 34 128 = 0) : xm_C G l xi_M_group 60 0 0 [.ref 32, .int 2] (xh m) (fun r h' => r = some (.int 1)) := by
  have e0 : xz 2 m = m := xz_eq hm hc
  rw [← e0]
  refine xm_enter' (by decide) rfl (Nat.le_of_ble_eq_true rfl) rfl ?_
  refine xm_step rfl rfl ?_
  refine xm_callS (As := [.int 2]) (rest := []) (d' := 59) (mc' := 0) (ms' := 0) rfl (xe_call_ok (sc := []) (N := 100) (xe_nil G) 59 xi_M_isTable [.int 2] (xh (xz 2 m)) [] (some (.int 1)) _ [] [] rfl (fun _ h => absurd h List.not_mem_nil) rfl) rfl (Nat.le_refl _) (Nat.le_refl _) (Nat.le_refl _) (Nat.le_of_ble_eq_true rfl) (fun r h' hp => ?_)
  obtain ⟨rfl, rfl⟩ := hp
  refine xm_if rfl rfl (fun _ => ?_) (fun q => absurd (show ¬ (1 : Int32) = 0 by decide) q)
  refine xm_step rfl rfl ?_
  refine xm_step rfl rfl ?_
  refine xm_callV (As := [.int 2]) (rest := []) (d' := 59) (mc' := 0) (ms' := 0) (k := 32) (ci := 5) (N := 7) rfl rfl rfl (xe_call_ok (sc := []) (N := 100) (xe_nil G) 59 xi_M_isFull [.ref 32, .int 2] (xh (xz 2 m)) [] (some (.int 1)) _ [] [] rfl (fun _ h => absurd h List.not_mem_nil) rfl) rfl (Nat.le_refl _) (Nat.le_refl _) (Nat.le_refl _) (Nat.le_of_ble_eq_true rfl) (fun r h' hp => ?_)
  obtain ⟨rfl, rfl⟩ := hp
  refine xm_if rfl rfl (fun q => absurd (show (1 : Int32) = 0 from q) (by decide)) (fun _ => ?_)
  refine xm_step rfl rfl ?_
  refine xm_getR (N := 7) (r := 33) rfl rfl rfl rfl ?_
  refine xm_step rfl rfl ?_
  refine xm_iald (N := 6) rfl rfl (by unfold vp_in; decide) ?_
  refine xm_step rfl rfl ?_
  refine xm_if rfl rfl (fun _ => ?_) (fun q => absurd (show (1 : Int32) ≤ 7 by decide) q)
  refine xm_step rfl rfl ?_
  refine xm_getR (N := 7) (r := 33) rfl rfl rfl rfl ?_
  refine xm_step rfl rfl ?_
  refine xm_iald (N := 6) rfl rfl (by unfold vp_in; decide) ?_
  refine xm_step rfl rfl ?_
  refine xm_step rfl rfl ?_
  refine xm_step rfl rfl ?_
  refine c_clear (m := xz 2 m) (t := 2) ?_
  exact xm_mono (fun r h' hp => hp.1) (xe_lp_ok (sc := []) (xe_nil G) (xe_call_ok (N := 300) (xe_nil G) 59) 600 xi_M_group 60 [some (.ref 32), some (.int 2), some (.int 1), some (.int (nI 5040)), none, none, none] [] (xh (xf_clr (xz 2 m) 5040)) [] (some (.int 1)) _ [] [] rfl (fun _ h => absurd h List.not_mem_nil) (Nat.le_refl _) (Nat.le_refl _))
set_option maxRecDepth 100000 in
set_option maxHeartbeats 4000000 in
theorem c_groupM3 {G : xm_G} {l : Launch} {m : Nat → Nat → Int32} (hm : m 33 3 = 1) (hc : m 34 192 = 0) : xm_C G l xi_M_group 60 0 0 [.ref 32, .int 3] (xh m) (fun r h' => r = some (.int 1)) := by
  have e0 : xz 3 m = m := xz_eq hm hc
  rw [← e0]
  refine xm_enter' (by decide) rfl (Nat.le_of_ble_eq_true rfl) rfl ?_
  refine xm_step rfl rfl ?_
  refine xm_callS (As := [.int 3]) (rest := []) (d' := 59) (mc' := 0) (ms' := 0) rfl (xe_call_ok (sc := []) (N := 100) (xe_nil G) 59 xi_M_isTable [.int 3] (xh (xz 3 m)) [] (some (.int 1)) _ [] [] rfl (fun _ h => absurd h List.not_mem_nil) rfl) rfl (Nat.le_refl _) (Nat.le_refl _) (Nat.le_refl _) (Nat.le_of_ble_eq_true rfl) (fun r h' hp => ?_)
  obtain ⟨rfl, rfl⟩ := hp
  refine xm_if rfl rfl (fun _ => ?_) (fun q => absurd (show ¬ (1 : Int32) = 0 by decide) q)
  refine xm_step rfl rfl ?_
  refine xm_step rfl rfl ?_
  refine xm_callV (As := [.int 3]) (rest := []) (d' := 59) (mc' := 0) (ms' := 0) (k := 32) (ci := 5) (N := 7) rfl rfl rfl (xe_call_ok (sc := []) (N := 100) (xe_nil G) 59 xi_M_isFull [.ref 32, .int 3] (xh (xz 3 m)) [] (some (.int 1)) _ [] [] rfl (fun _ h => absurd h List.not_mem_nil) rfl) rfl (Nat.le_refl _) (Nat.le_refl _) (Nat.le_refl _) (Nat.le_of_ble_eq_true rfl) (fun r h' hp => ?_)
  obtain ⟨rfl, rfl⟩ := hp
  refine xm_if rfl rfl (fun q => absurd (show (1 : Int32) = 0 from q) (by decide)) (fun _ => ?_)
  refine xm_step rfl rfl ?_
  refine xm_getR (N := 7) (r := 33) rfl rfl rfl rfl ?_
  refine xm_step rfl rfl ?_
  refine xm_iald (N := 6) rfl rfl (by unfold vp_in; decide) ?_
  refine xm_step rfl rfl ?_
  refine xm_if rfl rfl (fun _ => ?_) (fun q => absurd (show (1 : Int32) ≤ 7 by decide) q)
  refine xm_step rfl rfl ?_
  refine xm_getR (N := 7) (r := 33) rfl rfl rfl rfl ?_
  refine xm_step rfl rfl ?_
  refine xm_iald (N := 6) rfl rfl (by unfold vp_in; decide) ?_
  refine xm_step rfl rfl ?_
  refine xm_step rfl rfl ?_
  refine xm_step rfl rfl ?_
  refine c_clear (m := xz 3 m) (t := 3) ?_
  exact xm_mono (fun r h' hp => hp.1) (xe_lp_ok (sc := []) (xe_nil G) (xe_call_ok (N := 300) (xe_nil G) 59) 600 xi_M_group 60 [some (.ref 32), some (.int 3), some (.int 1), some (.int (nI 5040)), none, none, none] [] (xh (xf_clr (xz 3 m) 5040)) [] (some (.int 1)) _ [] [] rfl (fun _ h => absurd h List.not_mem_nil) (Nat.le_refl _) (Nat.le_refl _))
