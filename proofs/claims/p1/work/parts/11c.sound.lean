/-! the evaluator is sound: runs and calls -/
theorem xm_enter' {G : xm_G} {l : Launch} {y d mc ms : Nat} {as : List Value} {h : xm_H} {post : Option Value → xm_H → Prop} {ls : List (Option Value)} (hy : y < xm_N - 1 ∧ (y ≠ 151 ∧ y ≠ 152)) (hc : as.all (fun v => v.category == 1) = true) (hn : as.length ≤ xm_mL y) (hls : xm_en as (xm_mL y) = ls) (hX : xm_X G l y d mc ms 0 0 0 ls [] h post) : xm_C G l y d mc ms as h post :=
  xm_enter hy.1 hy.2 (fun v hv => by simpa using List.all_eq_true.mp hc v hv) hn (hls ▸ hX)
set_option maxHeartbeats 4000000 in
theorem xe_lp_ok {G : xm_G} {l : Launch} {sc : List (Nat × Int32)} {call : Nat → List Value → xm_H → List Bool → Option xe_R} {d : Nat} (hsc : (∀ j v, sc.lookup j = some v → j ≠ 1000000 → j < G.2.2.2.2.1 ∧ G.2.2.2.2.2 j = v) ∧ ∀ v, sc.lookup 1000000 = some v → v = Int32.ofNat G.2.2.2.2.1 ∧ (v = 5 → G.2.2.2.2.1 = 5))
    (hcall : ∀ a as h ds r h1 d1 c1, call a as h ds = some (r, h1, d1, c1) → (∀ k ∈ c1, xe_holds k) → xe_arg a as = true → xm_C G l a d 0 0 as h (fun r' h' => r' = r ∧ h' = h1)) :
    ∀ (n y pc : Nat) (ls : List (Option Value)) (st : List Value) (h : xm_H) (ds : List Bool) (r : Option Value) (h1 : xm_H) (d1 : List Bool) (c1 : List xe_K), xe_lp sc call n y pc ls st h ds = some (r, h1, d1, c1) → (∀ k ∈ c1, xe_holds k) → ∀ {mc ms cs zs : Nat}, cs ≤ mc → zs ≤ ms → xm_X G l y (d + 1) mc ms cs zs pc ls st h (fun r' h' => r' = r ∧ h' = h1) := by
  intro n
  induction n with
  | zero => intro y pc ls st h ds r h1 d1 c1 hrun; cases hrun
  | succ n ih =>
    intro y pc ls st h ds r h1 d1 c1 hrun hcs mc ms cs zs hm1 hm2
    unfold xe_lp at hrun
    cases ho : xm_op y pc with
    | none => rw [ho] at hrun; cases hrun
    | some o =>
      rw [ho] at hrun
      dsimp only at hrun
      have e := xm_opc ho
      obtain ⟨q, ins, len, a, b⟩ := o
      dsimp only at e
      subst e
      dsimp only at hrun
      split at hrun
      · -- ireturn
        split at hrun
        · cases hr : xm_rt y with
          | none => rw [hr] at hrun; cases hrun
          | some ty =>
            rw [hr] at hrun
            dsimp only at hrun
            split at hrun
            · cases hrun
              rename_i hn
              exact xm_retI ho hr hn hm1 hm2 ⟨rfl, rfl⟩
            · cases hrun
        · cases hrun
      · -- return
        split at hrun
        · cases hr : xm_rt y with
          | some ty => rw [hr] at hrun; cases hrun
          | none =>
            rw [hr] at hrun
            cases hrun
            exact xm_retV ho hr hm1 hm2 ⟨rfl, rfl⟩
        · cases hrun
      · -- invokestatic
        split at hrun
        · split at hrun
          · rename_i ha
            subst ha
            split at hrun
            · split at hrun
              · rename_i hg
                exact xm_mmin ho (by omega) hm1 hm2 (by simpa [xe_rst] using hg) (ih y _ ls _ h ds r h1 d1 c1 hrun hcs hm1 hm2)
              · cases hrun
            · cases hrun
          split at hrun
          · rename_i ha
            subst ha
            split at hrun
            · split at hrun
              · rename_i hg
                exact xm_mmax ho (by omega) hm1 hm2 (by simpa [xe_rst] using hg) (ih y _ ls _ h ds r h1 d1 c1 hrun hcs hm1 hm2)
              · cases hrun
            · cases hrun
          cases hf : xe_fix (xm_np a) st with
          | none => rw [hf] at hrun; cases hrun
          | some w =>
            obtain ⟨as, rest⟩ := w
            rw [hf] at hrun
            dsimp only at hrun
            split at hrun
            · rename_i hg
              simp only [Bool.and_eq_true] at hg
              cases hcl : call a as h ds with
              | none => rw [hcl] at hrun; cases hrun
              | some w =>
                obtain ⟨r2, h2, d2, c2⟩ := w
                rw [hcl] at hrun
                dsimp only at hrun
                cases hl2 : xe_lp sc call n y (q + 3) ls (r2.toList ++ rest) h2 d2 with
                | none => rw [hl2] at hrun; cases hrun
                | some w =>
                  obtain ⟨r3, h3, d3, c3⟩ := w
                  rw [hl2] at hrun
                  cases hrun
                  obtain ⟨f1, f2⟩ := xe_fix_spec hf
                  subst f1
                  refine xm_callS (d' := d) (mc' := 0) (ms' := 0) ho (hcall a as h ds r2 h2 d2 c2 hcl (fun k hk => hcs k (List.mem_append_left _ hk)) hg.1) f2 (Nat.le_refl _) hm1 hm2 (by simpa [xe_rst] using hg.2) (fun r' h' hp => ?_)
                  obtain ⟨rfl, rfl⟩ := hp
                  exact ih y (q + 3) ls _ _ d2 r h1 d1 c3 hl2 (fun k hk => hcs k (List.mem_append_right _ hk)) hm1 hm2
            · cases hrun
        · cases hf : xe_fix 2 st with
          | none => rw [hf] at hrun; cases hrun
          | some w =>
            obtain ⟨as, rest⟩ := w
            rw [hf] at hrun
            dsimp only at hrun
            split at hrun
            · rename_i hg
              simp only [Bool.and_eq_true] at hg
              cases hcl : call xi_L_isBelow as h ds with
              | none => rw [hcl] at hrun; cases hrun
              | some w =>
                obtain ⟨r2, h2, d2, c2⟩ := w
                rw [hcl] at hrun
                dsimp only at hrun
                cases hl2 : xe_lp sc call n y (q + 3) ls (r2.toList ++ rest) h2 d2 with
                | none => rw [hl2] at hrun; cases hrun
                | some w =>
                  obtain ⟨r3, h3, d3, c3⟩ := w
                  rw [hl2] at hrun
                  cases hrun
                  obtain ⟨f1, f2⟩ := xe_fix_spec hf
                  subst f1
                  refine xm_callN (d' := d) ho (hcall xi_L_isBelow as h ds r2 h2 d2 c2 hcl (fun k hk => hcs k (List.mem_append_left _ hk)) hg.1) f2 (Nat.le_refl _) hm1 hm2 (by simpa [xe_rst] using hg.2) (fun r' h' hp => ?_)
                  obtain ⟨rfl, rfl⟩ := hp
                  exact ih y (q + 3) ls _ _ d2 r h1 d1 c3 hl2 (fun k hk => hcs k (List.mem_append_right _ hk)) hm1 hm2
            · cases hrun
        · rename_i hb0 hb1
          obtain ⟨b', rfl⟩ : ∃ b', b = b' + 2 := by
            rcases b with _ | _ | b'
            · first | exact absurd rfl hb0 | exact absurd rfl hb1 | simp at *
            · first | exact absurd rfl hb0 | exact absurd rfl hb1 | simp at *
            · exact ⟨b', rfl⟩
          split at hrun
          · rename_i c dp k1 sp k0 rr
            cases hk0 : h.1[k0]? with
            | none => rw [hk0] at hrun; cases hrun
            | some w =>
              obtain ⟨t0, N0⟩ := w
              rw [hk0] at hrun
              dsimp only at hrun
              cases hk1 : h.1[k1]? with
              | none => rw [hk1] at hrun; cases hrun
              | some w =>
                obtain ⟨t1, N1⟩ := w
                rw [hk1] at hrun
                dsimp only at hrun
                split at hrun
                · rename_i hg
                  obtain ⟨rfl, rfl, g3, g4, g5, g6, g7, g8⟩ := hg
                  exact xm_copy ho hk0 hk1 g3 g4 g5 g6 g7 (by omega) (by simpa [xe_rst] using g8) (ih y (q + 3) ls rr _ ds r h1 d1 c1 hrun hcs hm1 hm2)
                · cases hrun
          · cases hrun
      · -- invokevirtual
        split at hrun
        · rename_i as k rest hf
          split at hrun
          · rename_i ci N hk
            split at hrun
            · rename_i hg
              simp only [Bool.and_eq_true, decide_eq_true_eq] at hg
              cases hcl : call a (.ref k :: as) h ds with
              | none => rw [hcl] at hrun; cases hrun
              | some w =>
                obtain ⟨r2, h2, d2, c2⟩ := w
                rw [hcl] at hrun
                dsimp only at hrun
                cases hl2 : xe_lp sc call n y (q + 3) ls (r2.toList ++ rest) h2 d2 with
                | none => rw [hl2] at hrun; cases hrun
                | some w =>
                  obtain ⟨r3, h3, d3, c3⟩ := w
                  rw [hl2] at hrun
                  cases hrun
                  obtain ⟨f1, f2⟩ := xe_fix_spec hf
                  subst f1
                  refine xm_callV (d' := d) (mc' := 0) (ms' := 0) ho hk hg.2 (hcall a (.ref k :: as) h ds r2 h2 d2 c2 hcl (fun k hk => hcs k (List.mem_append_left _ hk)) hg.1.1) f2 (Nat.le_refl _) hm1 hm2 (by simpa [xe_rst] using hg.1.2) (fun r' h' hp => ?_)
                  obtain ⟨rfl, rfl⟩ := hp
                  exact ih y (q + 3) ls _ _ d2 r h1 d1 c3 hl2 (fun k hk => hcs k (List.mem_append_right _ hk)) hm1 hm2
            · cases hrun
          · cases hrun
        · cases hrun
      · -- tableswitch
        split at hrun
        · split at hrun
          · rename_i ht
            exact xm_swi ho ht (ih y _ ls _ h ds r h1 d1 c1 hrun hcs hm1 hm2)
          · cases hrun
        · cases hrun
      · -- the rest
        split at hrun
        · rename_i pc' ls' st' hst
          exact xm_step ho hst (ih y pc' ls' st' h ds r h1 d1 c1 hrun hcs hm1 hm2)
        · split at hrun
          · rename_i bb hbb
            split at hrun
            · split at hrun
              · rename_i hc
                exact xm_if ho hbb (fun _ => ih y _ ls _ h [] r h1 d1 c1 hrun hcs hm1 hm2) (fun q => absurd ((xe_cd_iff _ _ _).mp hc) q)
              · rename_i hc
                exact xm_if ho hbb (fun q => absurd ((xe_cd_iff _ _ _).mpr q) hc) (fun _ => ih y _ ls _ h [] r h1 d1 c1 hrun hcs hm1 hm2)
            · rename_i e ds'
              cases hl2 : xe_lp sc call n y (if e = true then bb.2.2.2.1 else q + 3) ls bb.2.2.2.2 h ds' with
              | none => rw [hl2] at hrun; cases hrun
              | some w =>
                obtain ⟨r3, h3, d3, c3⟩ := w
                rw [hl2] at hrun
                cases hrun
                have hh : xe_holds (bb.1, bb.2.1, bb.2.2.1, e) := hcs _ List.mem_cons_self
                have IH := ih y _ ls _ h ds' r h1 d1 c3 hl2 (fun k hk => hcs k (List.mem_cons_of_mem _ hk)) hm1 hm2
                unfold xe_holds at hh
                dsimp only at hh
                cases e with
                | true =>
                  rw [if_pos rfl] at hh
                  exact xm_if ho hbb (fun _ => IH) (fun q => absurd hh q)
                | false =>
                  rw [if_neg (by decide)] at hh
                  exact xm_if ho hbb (fun q => absurd q hh) (fun _ => IH)
          · split at hrun
            · rename_i st' h' hh
              exact xe_hp ho hh (ih y _ ls st' h' ds r h1 d1 c1 hrun hcs hm1 hm2)
            · split at hrun
              · rename_i hy
                subst hy
                split at hrun
                · rename_i i u rr
                  split at hrun
                  · rename_i hu
                    subst hu
                    split at hrun
                    · cases hrun
                    · rename_i hi
                      split at hrun
                      · cases hrun
                      · rename_i hne
                        split at hrun
                        · rename_i v hv
                          obtain ⟨s1, s2⟩ := hsc.1 _ _ hv hne
                          refine xm_sld ho (fun z => z.elim hi (fun z => by omega)) ?_
                          rw [s2]
                          exact ih xi_law (q + 1) ls _ h ds r h1 d1 c1 hrun hcs hm1 hm2
                        · split at hrun
                          · rename_i h3
                            split at hrun
                            · rename_i v hv
                              split at hrun
                              · rename_i hv5
                                have hL5 : G.2.2.2.2.1 = 5 := (hsc.2 _ hv).2 hv5
                                refine xm_sldo ho (fun z => z.elim hi (fun z => by omega)) h3 ?_
                                exact ih xi_law (q + 1) ls _ h ds r h1 d1 c1 hrun hcs hm1 hm2
                              · cases hrun
                            · cases hrun
                          · cases hrun
                  · cases hrun
                · split at hrun
                  · cases hrun
                  · rename_i hu
                    have hu9 := Decidable.not_not.mp hu
                    subst hu9
                    split at hrun
                    · rename_i v hv
                      have s2 := (hsc.2 _ hv).1
                      refine xm_slen ho ?_
                      rw [← s2]
                      exact ih xi_law (q + 1) ls _ h ds r h1 d1 c1 hrun hcs hm1 hm2
                    · cases hrun
                · cases hrun
              · cases hrun
theorem xe_call_ok {G : xm_G} {l : Launch} {sc : List (Nat × Int32)} {N : Nat} (hsc : (∀ j v, sc.lookup j = some v → j ≠ 1000000 → j < G.2.2.2.2.1 ∧ G.2.2.2.2.2 j = v) ∧ ∀ v, sc.lookup 1000000 = some v → v = Int32.ofNat G.2.2.2.2.1 ∧ (v = 5 → G.2.2.2.2.1 = 5)) : ∀ (d a : Nat) (as : List Value) (h : xm_H) (ds : List Bool) (r : Option Value) (h1 : xm_H) (d1 : List Bool) (c1 : List xe_K), xe_call sc N d a as h ds = some (r, h1, d1, c1) → (∀ k ∈ c1, xe_holds k) → xe_arg a as = true → xm_C G l a d 0 0 as h (fun r' h' => r' = r ∧ h' = h1) := by
  intro d
  induction d with
  | zero => intro a as h ds r h1 d1 c1 hrun; cases hrun
  | succ d ih =>
    intro a as h ds r h1 d1 c1 hrun hcs ha
    simp only [xe_arg, Bool.and_eq_true, decide_eq_true_eq] at ha
    exact xm_enter' ha.1.1 ha.1.2 ha.2 rfl (xe_lp_ok hsc ih N a 0 _ [] h ds r h1 d1 c1 hrun hcs (Nat.le_refl _) (Nat.le_refl _))
theorem xm_dm {G : xm_G} {l : Launch} {y d d' mc ms cs zs pc : Nat} {ls : List (Option Value)} {st : List Value} {h : xm_H} {post : Option Value → xm_H → Prop} (hd : d ≤ d') (k : xm_X G l y d mc ms cs zs pc ls st h post) : xm_X G l y d' mc ms cs zs pc ls st h post := by
  intro p e R s m args below meth c H locs base lsA Q hS hmc hms hL hW hF hk
  obtain ⟨g1, g2, ⟨g3, g4, g5⟩, g6⟩ := hS
  exact k p e R s m args below meth c H locs base lsA Q ⟨g1, g2, ⟨by omega, by omega, g5⟩, g6⟩ hmc hms hL hW hF hk
