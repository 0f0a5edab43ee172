/-! CORE, fifth part: contracts, calls, ends, new cells, the copy of arrays -/
def xm_Q (G : xm_G) (base : Nat × Nat × Int32) (post : Option Value → xm_H → Prop) : Array Value → State → Outcome → State → Prop := fun _ st oc t => ∃ (r : Option Value) (h' : xm_H), oc = .returned (r.map (xm_v base)) ∧ post r h' ∧ xm_W G base h' t.heap ∧ ∀ q : Nat, q < base.1 → t.heap[q]? = st.heap[q]?
def xm_ws (y : Nat) : List Cond := .code (xm_nm y) (xm_by y) (xm_mL y) (xm_rt y) :: xm_tb
def xm_rm (d mc ms : Nat) : Room := { frames := d, cells := mc, slots := ms, locals := d * 60 }
def xm_Pc (G : xm_G) (base : Nat × Nat × Int32) (as : List Value) (h : xm_H) : Array Value → State → Prop := va_Pc (as.map (xm_v base)) (fun U => xm_W G base h U.heap ∧ xm_K G U)
def xm_C (G : xm_G) (l : Launch) (y d mc ms : Nat) (as : List Value) (h : xm_H) (post : Option Value → xm_H → Prop) : Prop :=
  ∀ base : Nat × Nat × Int32, Met l (xm_nm y) (xm_ws y) (xm_rm d mc ms) (xm_Pc G base as h) (xm_Q G base post) mc ms (fun q => base.1 ≤ q)
theorem xm_go {p : Program} {l : Launch} {e : Env} {R : Room} {s : State} {m : MethodId} {args : Array Value} {below : List Frame} {meth : Method} {c : Code} {H : Heap} {locs : List Loc} {cells slots mc ms pc : Nat} {base : Nat × Nat × Int32} {Q : State → Prop} {ls : Array Slot} {st0 rest : List Value} {a : Array Value} {G : xm_G} {post : Option Value → xm_H → Prop}
    (hr : va_Run p l e R s m args below meth c H locs cells slots mc ms (F0 m pc ls st0) rest (xm_Q G base post a) (fun q => base.1 ≤ q)) (hF : xm_F base s H locs)
    (kk : ∀ (r : Option Value) (h' : xm_H) (H1 : Heap) (locs1 : List Loc), post r h' → xm_W G base h' H1 → xm_F base s H1 locs1 → W p l e R s m args below meth c H1 locs1 (cells + mc) (slots + ms) Q (F0 m (pc + 3) ls ((r.map (xm_v base)).toList ++ rest))) : W p l e R s m args below meth c H locs cells slots Q (F0 m pc ls st0) := by
  intro T hT X
  obtain ⟨v, st₀, t, T', L, h0, X', hL, e1, e2, ⟨r, h', hv, hp, hw, hq⟩, st⟩ := hr T hT X
  cases hv
  rw [h0] at hq
  obtain ⟨t2, a1, b1⟩ := kk r h' T'.heap (locs ++ L) hp (by rw [e1]; exact hw) ⟨fun q hb => by rw [e1, hq q hb]; exact hF.1 q hb, fun q hq' => by
    rcases List.mem_append.mp hq' with h | h
    · exact hF.2 q h
    · exact hL q h⟩ T' rfl X'
  exact ⟨t2, st t2 a1, b1⟩
theorem xm_good {y : Nat} (hc : xm_in (.code (xm_nm y) (xm_by y) (xm_mL y) (xm_rt y)) = true) : GoodIn xm_tb (xm_ws y) := by
  intro w hw
  rcases List.mem_cons.mp hw with h | h
  · subst h
    have hc := xm_in_t hc
    exact ⟨List.mem_filter.mpr hc, good_of_word hc.2⟩
  · exact ⟨h, good_of_word (List.mem_filter.mp h).2⟩
theorem xm_blind {G : xm_G} {base : Nat × Nat × Int32} {as : List Value} {h : xm_H} : FrameBlind (xm_Pc G base as h) := fun a U g mk q => ⟨q.1, q.2.1, xm_K.calling q.2.2⟩
theorem xm_sum {base : Nat × Nat × Int32} {rest : List Value} (h : (rest.map fun v => v.category).sum ≤ 8) : ((rest.map (xm_v base)).map fun v => v.category).sum ≤ 8 := by
  have e : ((rest.map (xm_v base)).map fun v => v.category) = rest.map fun v => v.category := by
    rw [List.map_map]
    exact List.map_congr_left (fun v _ => xm_v_cat base v)
  rw [e]
  exact h
theorem xm_mfacts {y : Nat} (hy : y < xm_N - 1) : xm_in (.code (xm_nm y) (xm_by y) (xm_mL y) (xm_rt y)) = true ∧ xm_in (.initialized (xm_nm y).cls) = true ∧ xm_np y ≤ 30 ∧ ((xm_nm y).cls ≠ "java/lang/invoke/MethodHandle" ∧ (xm_nm y).cls ≠ "java/lang/invoke/VarHandle" ∧ (parseMethodDescriptor (xm_nm y).desc).map (fun d => d.parameters.length) = some (xm_np y)) ∧ xm_mL y ≤ 30 ∧ (match xm_kd y with
  | 0 => xm_in (.static (xm_nm y))
  | 1 => xm_in (.instanceMethod (xm_nm y)) && xm_in (.selects (xm_nm y).cls (xm_nm y) (xm_nm y))
  | _ => xm_in (.instanceMethod (xm_nm y)) && decide ((xm_nm y).name = "<init>") && decide (xm_rt y = none)) = true := by
  have h := xm_mall y hy
  unfold xm_mchk at h
  simp only [Bool.and_eq_true, decide_eq_true_eq] at h
  obtain ⟨⟨⟨⟨⟨⟨⟨h1, h2⟩, h3⟩, h4⟩, h5⟩, h6⟩, h7⟩, h8⟩ := h
  exact ⟨h1, h2, h3, ⟨h4, h5, h6⟩, h7, h8⟩
/-- a static method is called -/
theorem xm_callS {G : xm_G} {l : Launch} {y d mc ms cs zs pc : Nat} {ls : List (Option Value)} {h : xm_H} {post post' : Option Value → xm_H → Prop} {i len a d' mc' ms' : Nat} {As rest : List Value} (ho : xm_op y pc = some (pc, .invokestatic i, len, a, 0)) (hC : xm_C G l a d' mc' ms' As h post') (hn : As.length = xm_np a) (hd' : d' + 1 ≤ d) (hc1 : cs + mc' ≤ mc) (hc2 : zs + ms' ≤ ms) (hrs : (rest.map fun v => v.category).sum ≤ 8) (kk : ∀ r h', post' r h' → xm_X G l y d mc ms (cs + mc') (zs + ms') (pc + 3) ls (r.toList ++ rest) h' post) : xm_X G l y d mc ms cs zs pc ls (As.reverse ++ rest) h post := by
  intro p e R s m args below meth c H locs base lsA Q hS hmc hms hL hW hF hK9
  have hS' := hS
  obtain ⟨⟨hx, hb, hr, hml, hown⟩, ⟨hts, hK, hlk, hnm⟩, ⟨hfr, hlo, hy⟩, hbs⟩ := hS
  obtain ⟨e1, hd, hln⟩ := xm_dec hy ho
  have hln : (decide (a < xm_N - 1) && decide (xm_kd a = 0) && xm_in (.methodLink (xm_nm y).cls i (xm_nm a))) = true := hln
  simp only [Bool.and_eq_true, decide_eq_true_eq] at hln
  obtain ⟨⟨ha, hkd⟩, hlink⟩ := hln
  obtain ⟨m1, m2, m3, m4, m5, m6⟩ := xm_mfacts ha
  rw [hkd] at m6
  refine xm_go (va_runS (As := As.map (xm_v base)) (rest := rest.map (xm_v base)) ⟨hx, hb, hml, hown, hts⟩ (hC base) ⟨callB_of (xm_np a) hts (xm_good m1) rfl rfl rfl (xm_wd hts m2) (xm_wd hts hlink) m4 ⟨?_, ?_⟩, xm_wd hts m6⟩ ⟨xm_blind, fun U hU hW9 => ⟨rfl, by rw [hU]; exact hW, xm_K.warm hW9 hK⟩⟩ rfl (by rw [List.length_map]; exact hn) hL.1 ?_ (lv_room (xm_sum hrs)) hd ⟨by omega, by omega⟩) hF (fun r h' H1 locs1 hp hw hf => ?_)
  · show d' + 1 ≤ R.frames
    omega
  · show 8 + (xm_mL a + 11) + d' * 60 ≤ R.locals
    omega
  · show (As.reverse ++ rest).map (xm_v base) = (As.map (xm_v base)).reverse ++ rest.map (xm_v base)
    rw [List.map_append, List.map_reverse]
  · have K := kk r h' hp p e R s m args below meth c H1 locs1 base lsA Q hS' hmc hms hL hw hf hK9
    have e2 : (r.toList ++ rest).map (xm_v base) = (r.map (xm_v base)).toList ++ rest.map (xm_v base) := by
      rw [List.map_append]
      cases r <;> rfl
    rw [e2] at K
    exact K
/-- a private static method of a nest mate is called -/
theorem xm_callN {G : xm_G} {l : Launch} {y d mc ms cs zs pc : Nat} {ls : List (Option Value)} {h : xm_H} {post post' : Option Value → xm_H → Prop} {i len a d' : Nat} {As rest : List Value} (ho : xm_op y pc = some (pc, .invokestatic i, len, a, 1)) (hC : xm_C G l xi_L_isBelow d' 0 0 As h post') (hn : As.length = 2) (hd' : d' + 1 ≤ d) (hc1 : cs ≤ mc) (hc2 : zs ≤ ms) (hrs : (rest.map fun v => v.category).sum ≤ 8) (kk : ∀ r h', post' r h' → xm_X G l y d mc ms cs zs (pc + 3) ls (r.toList ++ rest) h' post) : xm_X G l y d mc ms cs zs pc ls (As.reverse ++ rest) h post := by
  intro p e R s m args below meth c H locs base lsA Q hS hmc hms hL hW hF hK9
  have hS' := hS
  obtain ⟨⟨hx, hb, hr, hml, hown⟩, ⟨hts, hK, hlk, hnm⟩, ⟨hfr, hlo, hy⟩, hbs⟩ := hS
  obtain ⟨e1, hd, hln⟩ := xm_dec hy ho
  have hln : (decide (a = xi_L_isBelow) && (decide ((xm_nm y).cls = "LatinLaws$Turns" ∧ i = 74) || decide ((xm_nm y).cls = "LatinLaws$Renamings" ∧ i = 62))) = true := hln
  simp only [Bool.and_eq_true, Bool.or_eq_true, decide_eq_true_eq] at hln
  obtain ⟨-, hor⟩ := hln
  obtain ⟨m1, m2, m3, m4, m5, m6⟩ := xm_mfacts (y := xi_L_isBelow) (by decide)
  have hkd : xm_kd xi_L_isBelow = 0 := rfl
  rw [hkd] at m6
  have hlink : va_Nw (.methodLinkNest (xm_nm y).cls i (xm_nm xi_L_isBelow) "LatinLaws") s := by
    rcases hor with ⟨g1, g2⟩ | ⟨g1, g2⟩
    · rw [g1, g2]; exact hK.2.1
    · rw [g1, g2]; exact hK.2.2.1
  refine xm_go (va_runSN (host := "LatinLaws") (As := As.map (xm_v base)) (rest := rest.map (xm_v base)) ⟨hx, hb, hml, hown, hts⟩ (hC base) ⟨va_cnB (xm_np xi_L_isBelow) hts (xm_good m1) rfl rfl rfl hlink (xm_wd hts m2) m4 ⟨?_, ?_⟩, xm_wd hts m6, trivial⟩ ⟨xm_blind, fun U hU hW9 => ⟨rfl, by rw [hU]; exact hW, xm_K.warm hW9 hK⟩⟩ rfl (by rw [List.length_map]; exact hn) hL.1 ?_ (lv_room (xm_sum hrs)) hd ⟨by omega, by omega⟩) hF (fun r h' H1 locs1 hp hw hf => ?_)
  · show d' + 1 ≤ R.frames
    omega
  · show 8 + (xm_mL xi_L_isBelow + 11) + d' * 60 ≤ R.locals
    omega
  · show (As.reverse ++ rest).map (xm_v base) = (As.map (xm_v base)).reverse ++ rest.map (xm_v base)
    rw [List.map_append, List.map_reverse]
  · have K := kk r h' hp p e R s m args below meth c H1 locs1 base lsA Q hS' hmc hms hL hw hf hK9
    have e2 : (r.toList ++ rest).map (xm_v base) = (r.map (xm_v base)).toList ++ rest.map (xm_v base) := by
      rw [List.map_append]
      cases r <;> rfl
    rw [e2] at K
    exact K
/-- a method of an object is called -/
theorem xm_callV {G : xm_G} {l : Launch} {y d mc ms cs zs pc : Nat} {ls : List (Option Value)} {h : xm_H} {post post' : Option Value → xm_H → Prop} {i len a b d' mc' ms' k ci N : Nat} {As rest : List Value} (ho : xm_op y pc = some (pc, .invokevirtual i, len, a, b)) (hk : h.1[k]? = some (ci + 3, N)) (hcl : (xm_cl[ci]?).map (fun q => q.1) = some (xm_nm a).cls) (hC : xm_C G l a d' mc' ms' (.ref k :: As) h post') (hn : As.length = xm_np a) (hd' : d' + 1 ≤ d) (hc1 : cs + mc' ≤ mc) (hc2 : zs + ms' ≤ ms) (hrs : (rest.map fun v => v.category).sum ≤ 8) (kk : ∀ r h', post' r h' → xm_X G l y d mc ms (cs + mc') (zs + ms') (pc + 3) ls (r.toList ++ rest) h' post) : xm_X G l y d mc ms cs zs pc ls (As.reverse ++ .ref k :: rest) h post := by
  intro p e R s m args below meth c H locs base lsA Q hS hmc hms hL hW hF hK9
  have hS' := hS
  obtain ⟨⟨hx, hb, hr, hml, hown⟩, ⟨hts, hK, hlk, hnm⟩, ⟨hfr, hlo, hy⟩, hbs⟩ := hS
  obtain ⟨e1, hd, hln⟩ := xm_dec hy ho
  have hln : (decide (a < xm_N - 1) && decide (xm_kd a = 1) && xm_in (.methodLink (xm_nm y).cls i (xm_nm a))) = true := hln
  simp only [Bool.and_eq_true, decide_eq_true_eq] at hln
  obtain ⟨⟨ha, hkd⟩, hlink⟩ := hln
  obtain ⟨m1, m2, m3, m4, m5, m6⟩ := xm_mfacts ha
  rw [hkd] at m6
  simp only [Bool.and_eq_true] at m6
  obtain ⟨-, cell, g1, g2, g3, -⟩ : (∃ r : vw_C, xm_cl[ci]? = some r ∧ r.2.2 = N) ∧ t_OB (base.1 + k) (G.1.1 ci) N (G.1.2 ci) H (xm_fv base h k ci) := hW.2 k _ hk
  obtain ⟨q, hq1, hq2⟩ := Option.map_eq_some_iff.mp hcl
  have hfc : s.vm.findClass (xm_nm a).cls = some cell.cls := by rw [← hq2, g2]; exact (hK.1.1 ci q hq1).2.1
  refine xm_go (va_runV (C := (xm_nm a).cls) (b := base.1 + k) (As := As.map (xm_v base)) (rest := rest.map (xm_v base)) ⟨hx, hb, hml, hown, hts⟩ (hC base) ⟨callB_of (xm_np a) hts (xm_good m1) rfl rfl rfl (xm_wd hts m2) (xm_wd hts hlink) m4 ⟨?_, ?_⟩, xm_wd hts m6.1, xm_wd hts m6.2⟩ ⟨xm_blind, ⟨cell, g1, by rw [g3]; rfl, hfc⟩, fun U hU hW9 => ⟨rfl, by rw [hU]; exact hW, xm_K.warm hW9 hK⟩⟩ rfl (by rw [List.length_map]; exact hn) hL.1 ?_ (lv_room (xm_sum hrs)) hd ⟨by omega, by omega⟩) hF (fun r h' H1 locs1 hp hw hf => ?_)
  · show d' + 1 ≤ R.frames
    omega
  · show 8 + (xm_mL a + 11) + d' * 60 ≤ R.locals
    omega
  · show (As.reverse ++ .ref k :: rest).map (xm_v base) = (As.map (xm_v base)).reverse ++ .ref (base.1 + k) :: rest.map (xm_v base)
    rw [List.map_append, List.map_reverse]
    rfl
  · have K := kk r h' hp p e R s m args below meth c H1 locs1 base lsA Q hS' hmc hms hL hw hf hK9
    have e2 : (r.toList ++ rest).map (xm_v base) = (r.map (xm_v base)).toList ++ rest.map (xm_v base) := by
      rw [List.map_append]
      cases r <;> rfl
    rw [e2] at K
    exact K
/-- a constructor is called -/
theorem xm_callI {G : xm_G} {l : Launch} {y d mc ms cs zs pc : Nat} {ls : List (Option Value)} {h : xm_H} {post post' : Option Value → xm_H → Prop} {i len a d' mc' ms' k : Nat} {As rest : List Value} (ho : xm_op y pc = some (pc, .invokespecial i, len, a, 0)) (hC : xm_C G l a d' mc' ms' (.ref k :: As) h post') (hn : As.length = xm_np a) (hd' : d' + 1 ≤ d) (hc1 : cs + mc' ≤ mc) (hc2 : zs + ms' ≤ ms) (hrs : (rest.map fun v => v.category).sum ≤ 8) (kk : ∀ r h', post' r h' → xm_X G l y d mc ms (cs + mc') (zs + ms') (pc + 3) ls (r.toList ++ rest) h' post) : xm_X G l y d mc ms cs zs pc ls (As.reverse ++ .ref k :: rest) h post := by
  intro p e R s m args below meth c H locs base lsA Q hS hmc hms hL hW hF hK9
  have hS' := hS
  obtain ⟨⟨hx, hb, hr, hml, hown⟩, ⟨hts, hK, hlk, hnm⟩, ⟨hfr, hlo, hy⟩, hbs⟩ := hS
  obtain ⟨e1, hd, hln⟩ := xm_dec hy ho
  have hln : (decide (a < xm_N - 1) && decide (xm_kd a = 2) && xm_in (.methodLink (xm_nm y).cls i (xm_nm a))) = true := hln
  simp only [Bool.and_eq_true, decide_eq_true_eq] at hln
  obtain ⟨⟨ha, hkd⟩, hlink⟩ := hln
  obtain ⟨m1, m2, m3, m4, m5, m6⟩ := xm_mfacts ha
  rw [hkd] at m6
  simp only [Bool.and_eq_true, decide_eq_true_eq] at m6
  have m1' := m1
  rw [m6.2] at m1'
  refine xm_go (va_runI (b := base.1 + k) (As := As.map (xm_v base)) (rest := rest.map (xm_v base)) ⟨hx, hb, hml, hown, hts⟩ (hC base) ⟨callB_of (xm_np a) hts (xm_good m1) (by show xm_ws a = _; unfold xm_ws; rw [m6.2]) rfl rfl (xm_wd hts m2) (xm_wd hts hlink) m4 ⟨?_, ?_⟩, m6.1.2, xm_wd hts m6.1.1⟩ ⟨xm_blind, fun U hU hW9 => ⟨rfl, by rw [hU]; exact hW, xm_K.warm hW9 hK⟩⟩ rfl (by rw [List.length_map]; exact hn) hL.1 ?_ (lv_room (xm_sum hrs)) hd ⟨by omega, by omega⟩) hF (fun r h' H1 locs1 hp hw hf => ?_)
  · show d' + 1 ≤ R.frames
    omega
  · show 8 + (xm_mL a + 11) + d' * 60 ≤ R.locals
    omega
  · show (As.reverse ++ .ref k :: rest).map (xm_v base) = (As.map (xm_v base)).reverse ++ .ref (base.1 + k) :: rest.map (xm_v base)
    rw [List.map_append, List.map_reverse]
    rfl
  · have K := kk r h' hp p e R s m args below meth c H1 locs1 base lsA Q hS' hmc hms hL hw hf hK9
    have e2 : (r.toList ++ rest).map (xm_v base) = (r.map (xm_v base)).toList ++ rest.map (xm_v base) := by
      rw [List.map_append]
      cases r <;> rfl
    rw [e2] at K
    exact K
