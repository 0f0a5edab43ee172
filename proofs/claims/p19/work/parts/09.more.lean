/-! CORE, sixth part: new cells, the copy of an array, ends, entries, the script -/
theorem xm_dv {ci : Nat} {q : vw_C} (h : xm_cl[ci]? = some q) : ∀ j, j < q.2.2 → defaultValue (xm_ty ci j) = if xm_isI ci j = true then .int 0 else .null := by
  match ci, h with
  | 0, h => cases h; exact (by decide +kernel : ∀ j, j < 2 → defaultValue (xm_ty 0 j) = if xm_isI 0 j = true then .int 0 else .null)
  | 1, h => cases h; exact (by decide +kernel : ∀ j, j < 8 → defaultValue (xm_ty 1 j) = if xm_isI 1 j = true then .int 0 else .null)
  | 2, h => cases h; exact (by decide +kernel : ∀ j, j < 7 → defaultValue (xm_ty 2 j) = if xm_isI 2 j = true then .int 0 else .null)
  | 3, h => cases h; exact (by decide +kernel : ∀ j, j < 5 → defaultValue (xm_ty 3 j) = if xm_isI 3 j = true then .int 0 else .null)
  | 4, h => cases h; exact (by decide +kernel : ∀ j, j < 5 → defaultValue (xm_ty 4 j) = if xm_isI 4 j = true then .int 0 else .null)
  | 5, h => cases h; exact (by decide +kernel : ∀ j, j < 7 → defaultValue (xm_ty 5 j) = if xm_isI 5 j = true then .int 0 else .null)
  | n + 6, h => simp [xm_cl] at h
abbrev xm_psh (h : xm_H) (q : Nat × Nat) : xm_H := (h.1 ++ [q], va_up h.2.1 h.1.length (fun _ => none), va_up h.2.2 h.1.length (fun _ => 0))
theorem xm_W.push {G : xm_G} {base : Nat × Nat × Int32} {q : Nat × Nat} {h : xm_H} {H H1 : Heap} (hW : xm_W G base h H) (hz : H1.size = H.size + 1) (o1 : ∀ j : Nat, j < H.size → H1[j]? = H[j]?) (he : xm_ce G base h.1.length q (xm_psh h q) H1) : xm_W G base (xm_psh h q) H1 := by
  refine ⟨by rw [hz, hW.1]; simp; omega, fun j r hj => ?_⟩
  by_cases e : j < h.1.length
  · have hj' : h.1[j]? = some r := by
      have : (h.1 ++ [q])[j]? = some r := hj
      rwa [List.getElem?_append_left e] at this
    have hne : ¬ j = h.1.length := by omega
    have hc := hW.2 j r hj'
    exact xm_ce.kept (h := h) (by simp [va_up, hne]) (by simp [va_up, hne]) (o1 _ hc.lt) hc
  · have hj' : (h.1 ++ [q])[j]? = some r := hj
    rw [List.getElem?_append_right (by omega)] at hj'
    have hz2 : j - h.1.length < 1 := (List.getElem?_eq_some_iff.mp hj').1
    have e2 : j = h.1.length := by omega
    subst e2
    rw [Nat.sub_self] at hj'
    cases hj'
    exact he
theorem xm_F.push {base : Nat × Nat × Int32} {s : State} {H H1 : Heap} {locs : List Loc} (hF : xm_F base s H locs) (hb : base.1 ≤ H.size) (o1 : ∀ j : Nat, j < H.size → H1[j]? = H[j]?) : xm_F base s H1 locs := ⟨fun q hq => (o1 q (by omega)).trans (hF.1 q hq), hF.2⟩
theorem xm_new {G : xm_G} {l : Launch} {y d mc ms cs zs pc : Nat} {ls : List (Option Value)} {st : List Value} {h : xm_H} {post : Option Value → xm_H → Prop} {i len a b : Nat} {q : vw_C} (ho : xm_op y pc = some (pc, .new i, len, a, b)) (hq : xm_cl[a]? = some q) (hc1 : cs + 1 ≤ mc) (hc2 : zs + q.2.2 ≤ ms) (kk : xm_X G l y d mc ms (cs + 1) (zs + q.2.2) (pc + 3) ls (.ref h.1.length :: st) (xm_psh h (a + 3, q.2.2)) post) : xm_X G l y d mc ms cs zs pc ls st h post := by
  intro p e R s m args below meth c H locs base lsA Q hS hmc hms hL hW hF hK9
  have hS' := hS
  obtain ⟨⟨hx, hb, hr, hml, hown⟩, ⟨hts, hK, hlk, hnm⟩, ⟨hfr, hlo, hy⟩, hbs⟩ := hS
  obtain ⟨e1, hd, hln⟩ := xm_dec hy ho
  unfold xm_lnk at hln
  dsimp only at hln
  rw [hq] at hln
  simp only [Bool.and_eq_true] at hln
  have hKn := hK.1.1 a q hq
  refine W.newcK hx hb hown (xm_wd hts hln.1.1) (xm_wd hts hln.1.2) (xm_wd hts hln.2) rfl hd (by omega) (by omega) hKn.2.1 hW.1 fun H1 kC hkC g1 g2 g3 => ?_
  have g3' : ∀ j : Nat, j < H.size → H1[j]? = H[j]? := fun j hj => g3 j (by rw [← hW.1]; exact hj)
  refine kk p e R s m args below meth c H1 locs base lsA Q hS' hmc hms hL (hW.push (by rw [g2, hW.1]) g3' ?_) (hF.push (by rw [hW.1]; omega) g3') hK9
  refine ⟨⟨q, hq, rfl⟩, (u_born (xm_ty a) hts (xm_cls hq) hKn hkC g1 (xm_pty hq)).to (fun j hj => ?_)⟩
  rw [xm_dv hq j hj]
  unfold xm_fv
  simp [va_up, va_rf]
theorem xm_newI {G : xm_G} {l : Launch} {y d mc ms cs zs pc : Nat} {ls : List (Option Value)} {st : List Value} {h : xm_H} {post : Option Value → xm_H → Prop} {len a b N : Nat} {n : Int32} (ho : xm_op y pc = some (pc, .newarray .int, len, a, b)) (hn : ¬ n < 0) (hN : n.toNatClampNeg = N) (hN2 : N ≤ 100000) (hc1 : cs + 1 ≤ mc) (hc2 : zs + N ≤ ms) (kk : xm_X G l y d mc ms (cs + 1) (zs + N) (pc + 2) ls (.ref h.1.length :: st) (xm_psh h (0, N)) post) : xm_X G l y d mc ms cs zs pc ls (.int n :: st) h post := by
  intro p e R s m args below meth c H locs base lsA Q hS hmc hms hL hW hF hK9
  have hS' := hS
  obtain ⟨⟨hx, hb, hr, hml, hown⟩, ⟨hts, hK, hlk, hnm⟩, ⟨hfr, hlo, hy⟩, hbs⟩ := hS
  obtain ⟨e1, hd, hln⟩ := xm_dec hy ho
  have hln : xm_in (.arrayClass .int) = true := by
    unfold xm_lnk at hln
    simpa using hln
  refine va_newaK hx hb (atype := .int) (xm_wd hts hln) rfl hd rfl hn hN (by show N * 4 ≤ 536870912; omega) (by omega) (by omega) hW.1 fun H1 cA g1 g2 g3 g4 g5 => ?_
  have hcA : cA = G.2.1 := Option.some.inj (g5.symm.trans (hK.1.2 0 (G.2.1, .int) rfl).2)
  subst hcA
  have g3' : ∀ j : Nat, j < H.size → H1[j]? = H[j]? := fun j hj => g3 j (by rw [← hW.1]; exact hj)
  refine kk p e R s m args below meth c H1 locs base lsA Q hS' hmc hms hL (hW.push (by rw [g2, hW.1]) g3' ?_) (hF.push (by rw [hW.1]; omega) g3') hK9
  show H1[base.1 + h.1.length]? = some (arrV G.2.1 N _)
  rw [g1]
  simp [va_up]
  rfl
theorem xm_newZ {G : xm_G} {l : Launch} {y d mc ms cs zs pc : Nat} {ls : List (Option Value)} {st : List Value} {h : xm_H} {post : Option Value → xm_H → Prop} {len a b N : Nat} {n : Int32} (ho : xm_op y pc = some (pc, .newarray .boolean, len, a, b)) (hn : ¬ n < 0) (hN : n.toNatClampNeg = N) (hN2 : N ≤ 100000) (hc1 : cs + 1 ≤ mc) (hc2 : zs + N ≤ ms) (kk : xm_X G l y d mc ms (cs + 1) (zs + N) (pc + 2) ls (.ref h.1.length :: st) (xm_psh h (1, N)) post) : xm_X G l y d mc ms cs zs pc ls (.int n :: st) h post := by
  intro p e R s m args below meth c H locs base lsA Q hS hmc hms hL hW hF hK9
  have hS' := hS
  obtain ⟨⟨hx, hb, hr, hml, hown⟩, ⟨hts, hK, hlk, hnm⟩, ⟨hfr, hlo, hy⟩, hbs⟩ := hS
  obtain ⟨e1, hd, hln⟩ := xm_dec hy ho
  have hln : xm_in (.arrayClass .boolean) = true := by
    unfold xm_lnk at hln
    simpa using hln
  refine va_newaK hx hb (atype := .boolean) (xm_wd hts hln) rfl hd rfl hn hN (by show N * 1 ≤ 536870912; omega) (by omega) (by omega) hW.1 fun H1 cA g1 g2 g3 g4 g5 => ?_
  have hcA : cA = G.2.2.1 := Option.some.inj (g5.symm.trans (hK.1.2 1 (G.2.2.1, .boolean) rfl).2)
  subst hcA
  have g3' : ∀ j : Nat, j < H.size → H1[j]? = H[j]? := fun j hj => g3 j (by rw [← hW.1]; exact hj)
  refine kk p e R s m args below meth c H1 locs base lsA Q hS' hmc hms hL (hW.push (by rw [g2, hW.1]) g3' ?_) (hF.push (by rw [hW.1]; omega) g3') hK9
  show H1[base.1 + h.1.length]? = some (arrV G.2.2.1 N _)
  rw [g1]
  simp [va_up]
  rfl
theorem xm_newQ {G : xm_G} {l : Launch} {y d mc ms cs zs pc : Nat} {ls : List (Option Value)} {st : List Value} {h : xm_H} {post : Option Value → xm_H → Prop} {i len a b N : Nat} {n : Int32} (ho : xm_op y pc = some (pc, .anewarray i, len, a, b)) (hn : ¬ n < 0) (hN : n.toNatClampNeg = N) (hN2 : N ≤ 100000) (hc1 : cs + 1 ≤ mc) (hc2 : zs + N ≤ ms) (kk : xm_X G l y d mc ms (cs + 1) (zs + N) (pc + 3) ls (.ref h.1.length :: st) (xm_psh h (2, N)) post) : xm_X G l y d mc ms cs zs pc ls (.int n :: st) h post := by
  intro p e R s m args below meth c H locs base lsA Q hS hmc hms hL hW hF hK9
  have hS' := hS
  obtain ⟨⟨hx, hb, hr, hml, hown⟩, ⟨hts, hK, hlk, hnm⟩, ⟨hfr, hlo, hy⟩, hbs⟩ := hS
  obtain ⟨e1, hd, hln⟩ := xm_dec hy ho
  subst hN
  refine W.anew hx hb hown (xm_wd hts hln) (va_AO.use hK.2.2.2) rfl hd rfl hn (by omega) (by omega) (by omega) fun cA kA comp f1 f2 f3 f4 => ?_
  have hcA : cA = G.2.2.2.1 := by
    obtain ⟨_, _, _, _, _, k4⟩ := (hK.1.2 2 (G.2.2.2.1, .object "LatinLaws$Table") rfl).2
    exact Option.some.inj (f1.symm.trans k4)
  subst hcA
  generalize hH1 : H.push ({ cls := G.2.2.2.1, slots := Array.replicate n.toNatClampNeg .null, vm := .none } : Cell) = H1
  have z1 : H1.size = H.size + 1 := by rw [← hH1, Array.size_push]
  have e1 : H1[H.size]? = some (arrV G.2.2.2.1 n.toNatClampNeg (fun _ => .null)) := by rw [← hH1, Array.getElem?_push_size, ← arrV_new]
  have o1 : ∀ q : Nat, q < H.size → H1[q]? = H[q]? := fun q hq => by rw [← hH1, Array.getElem?_push, if_neg (Nat.ne_of_lt hq)]
  have K := kk p e R s m args below meth c H1 locs base lsA Q hS' hmc hms hL (hW.push z1 o1 (by
    show H1[base.1 + h.1.length]? = some (arrV G.2.2.2.1 n.toNatClampNeg _)
    rw [← hW.1, e1]
    simp [va_up, va_rf])) (hF.push (by rw [hW.1]; omega) o1) hK9
  have e9 : ((Value.ref h.1.length :: st).map (xm_v base)) = .ref H.size :: st.map (xm_v base) := by rw [hW.1]; rfl
  rw [e9] at K
  exact K
theorem xm_objI {G : xm_G} {l : Launch} {y d mc ms cs zs pc : Nat} {ls : List (Option Value)} {st : List Value} {h : xm_H} {post : Option Value → xm_H → Prop} {i len a b k : Nat} (ho : xm_op y pc = some (pc, .invokespecial i, len, a, b + 1)) (hd1 : 1 ≤ d) (hrs : (st.map fun v => v.category).sum ≤ 8) (kk : xm_X G l y d mc ms cs zs (pc + 3) ls st h post) : xm_X G l y d mc ms cs zs pc ls (.ref k :: st) h post := by
  intro p e R s m args below meth c H locs base lsA Q hS hmc hms hL hW hF hK9
  have K := kk p e R s m args below meth c H locs base lsA Q hS hmc hms hL hW hF hK9
  obtain ⟨⟨hx, hb, hr, hml, hown⟩, ⟨hts, hK, hlk, hnm⟩, ⟨hfr, hlo, hy⟩, hbs⟩ := hS
  obtain ⟨e1, hd, hln⟩ := xm_dec hy ho
  have hln : (xm_in (.methodLink (xm_nm y).cls i objectInit) && xm_in (.instanceMethod objectInit) && xm_in (.code objectInit ⟨#[0xb1]⟩ 1 none)) = true := hln
  simp only [Bool.and_eq_true] at hln
  refine W.objInit hx hb hown (xm_wd hts hln.1.1) (xm_wd hts hln.1.2) (xm_wd hts hln.2) rfl (hL.1.trans hml.symm) rfl hd (by omega) ?_ K
  have := xm_sum (base := base) hrs
  show 2 * 0 + _ + 12 ≤ R.locals
  omega
theorem xm_retI {G : xm_G} {l : Launch} {y d mc ms cs zs pc : Nat} {ls : List (Option Value)} {h : xm_H} {post : Option Value → xm_H → Prop} {len a b : Nat} {v : Int32} {ty : FieldType} (ho : xm_op y pc = some (pc, .ireturn, len, a, b)) (hty : xm_rt y = some ty) (hn : narrow ty (.int v) = .int v) (hc1 : cs ≤ mc) (hc2 : zs ≤ ms) (hp : post (some (.int v)) h) : xm_X G l y d mc ms cs zs pc ls [.int v] h post := by
  intro p e R s m args below meth c H locs base lsA Q hS hmc hms hL hW hF hK9
  obtain ⟨e1, hd, hln⟩ := xm_dec hS.2.2.1.2.2 ho
  exact hK9 pc lsA H locs cs zs (some (.int v)) h ⟨hd, ty, hty, hn⟩ hc1 hc2 hp hW hF
theorem xm_retV {G : xm_G} {l : Launch} {y d mc ms cs zs pc : Nat} {ls : List (Option Value)} {h : xm_H} {post : Option Value → xm_H → Prop} {len a b : Nat} (ho : xm_op y pc = some (pc, .return_, len, a, b)) (hty : xm_rt y = none) (hc1 : cs ≤ mc) (hc2 : zs ≤ ms) (hp : post none h) : xm_X G l y d mc ms cs zs pc ls [] h post := by
  intro p e R s m args below meth c H locs base lsA Q hS hmc hms hL hW hF hK9
  obtain ⟨e1, hd, hln⟩ := xm_dec hS.2.2.1.2.2 ho
  exact hK9 pc lsA H locs cs zs none h ⟨hty, hd⟩ hc1 hc2 hp hW hF
theorem xm_sl : ∀ (vs : List Value), (∀ v ∈ vs, v.category = 1) → (lg_sl vs).length = vs.length
  | [], _ => rfl
  | v :: vs, h => by
    have h1 := xm_sl vs (fun w hw => h w (List.mem_cons_of_mem _ hw))
    have h2 := h v List.mem_cons_self
    unfold lg_sl at h1 ⊢
    rw [List.flatMap_cons, List.length_append, h1, if_neg (by omega)]
    simp; omega
theorem xm_ar : ∀ (vs : List Value) (k : Nat), (∀ v ∈ vs, v.category = 1) → ∀ (i : Nat) (v : Value), vs[i]? = some v → (k + i, v) ∈ lv_args k vs
  | [], _, _, i, v, hi => by simp at hi
  | w :: vs, k, h, i, v, hi => by
    have h2 := h w List.mem_cons_self
    unfold lv_args
    rw [if_neg (by omega)]
    cases i with
    | zero => simp at hi; subst hi; exact List.mem_cons_self
    | succ i =>
      have h3 := xm_ar vs (k + 1) (fun w hw => h w (List.mem_cons_of_mem _ hw)) i v (by simpa using hi)
      rw [show k + (i + 1) = k + 1 + i by omega]
      exact List.mem_cons_of_mem _ h3
def xm_en (as : List Value) (n : Nat) : List (Option Value) := as.map some ++ List.replicate (n - as.length) none
theorem xm_enL {base : Nat × Nat × Int32} {as : List Value} {n : Nat} (hc : ∀ v ∈ as, v.category = 1) (hn : as.length ≤ n) : xm_L base (xm_en as n) ((lg_sl (as.map (xm_v base)) ++ List.replicate (n - (lg_sl (as.map (xm_v base))).length) Slot.unset).toArray) n := by
  have hc2 : ∀ v ∈ as.map (xm_v base), v.category = 1 := fun v hv => by
    obtain ⟨w, hw, rfl⟩ := List.mem_map.mp hv
    exact (xm_v_cat base w).trans (hc w hw)
  have hlen := xm_sl _ hc2
  rw [List.length_map] at hlen
  have hl := lv_entry (as.map (xm_v base)) (n := n) (by rw [hlen]; exact hn)
  refine ⟨hl.1, hl.2.1, by simp [xm_en]; omega, fun i v hi => ?_⟩
  have hi2 : as[i]? = some v := by
    unfold xm_en at hi
    by_cases h : i < as.length
    · rw [List.getElem?_append_left (by simpa using h), List.getElem?_map] at hi
      cases hx : as[i]? with
      | none => rw [hx] at hi; simp at hi
      | some w => rw [hx] at hi; simp at hi; rw [hi]
    · rw [List.getElem?_append_right (by simpa using h), List.getElem?_replicate] at hi
      split at hi <;> simp at hi
  have hmem := xm_ar _ 0 hc2 i (xm_v base v) (by rw [List.getElem?_map, hi2]; rfl)
  rw [Nat.zero_add] at hmem
  exact ⟨hc v (List.mem_of_getElem? hi2), hl.2.2 _ hmem⟩
/-- a method's contract out of the walk of its body -/
theorem xm_enter {G : xm_G} {l : Launch} {y d mc ms : Nat} {as : List Value} {h : xm_H} {post : Option Value → xm_H → Prop} (hy : y < xm_N - 1) (hpl : y ≠ 151 ∧ y ≠ 152) (hc : ∀ v ∈ as, v.category = 1) (hn : as.length ≤ xm_mL y) (hX : xm_X G l y d mc ms 0 0 0 (xm_en as (xm_mL y)) [] h post) : xm_C G l y d mc ms as h post := by
  intro base
  obtain ⟨m1, m2, m3, m4, m5, m6⟩ := xm_mfacts hy
  refine Met.ofW (cc := xm_by y) (maxL := xm_mL y) (ret := xm_rt y) (xm_plain y hy hpl.1 hpl.2) rfl ?_
  intro p e s m args below meth c s₁ B hml hv
  obtain ⟨rfl, hW, hK⟩ := hv
  have hts := atoms_spec (ws := xm_ws y) B.pre
  have hts' : ∀ w ∈ xm_tb, w.before (as.map (xm_v base)).toArray s = true := fun w hw => hts w (List.mem_cons_of_mem _ hw)
  rw [lg_entry_eq]
  have hy2 : ¬ y = xi_law := by
    have e1 : xm_N - 1 = xi_law := rfl
    omega
  refine hX p e _ s m _ below meth c s.heap [] base _ _ ⟨⟨B.exec, B.bytes, B.returns, hml, findClass_of_methodNamed B.named⟩, ⟨hts', hK, B.notSynchronized, fun hnm => (name_of_methodNamed B.named B.method).1.trans hnm⟩, ⟨Nat.le_refl _, Nat.le_refl _, by omega⟩, ⟨by rw [hW.1]; omega, fun h => absurd h hy2⟩⟩ (Nat.le_refl _) (Nat.le_refl _) (xm_enL hc hn) hW ⟨fun _ _ => rfl, fun _ h => by cases h⟩ ?_
  intro pc' lsA' H' locs' cs' zs' r h' hend hcs hzs hp hw hf
  refine W.widen (k := mc) (n := ms) hcs hzs ?_
  match r, hend, hp with
  | none, hend, hp =>
    exact W.vret B.exec B.bytes (B.returns.trans hend.1) (fun t ht hWm => ⟨none, h', rfl, hp, by rw [ht]; exact hw, fun q hq => by rw [ht]; exact hf.1 q hq⟩) hf.2 hend.2 B.notSynchronized
  | some (.int v), hend, hp =>
    obtain ⟨hdg, ty, hty, hna⟩ := hend
    exact W.zret B.exec B.bytes (B.returns.trans hty) hna (fun t ht hWm => ⟨some (.int v), h', rfl, hp, by rw [ht]; exact hw, fun q hq => by rw [ht]; exact hf.1 q hq⟩) hf.2 hdg B.notSynchronized
/-! the law reads its script -/
theorem xm_sld {G : xm_G} {l : Launch} {d mc ms cs zs pc : Nat} {ls : List (Option Value)} {st : List Value} {h : xm_H} {post : Option Value → xm_H → Prop} {len a b : Nat} {i : Int32} (ho : xm_op xi_law pc = some (pc, .iaload, len, a, b)) (hi : vp_in i G.2.2.2.2.1) (kk : xm_X G l xi_law d mc ms cs zs (pc + 1) ls (.int (G.2.2.2.2.2 i.toNatClampNeg) :: st) h post) : xm_X G l xi_law d mc ms cs zs pc ls (.int i :: .float 0 :: st) h post := by
  intro p e R s m args below meth c H locs base lsA Q hS hmc hms hL hW hF hK9
  have K := kk p e R s m args below meth c H locs base lsA Q hS hmc hms hL hW hF hK9
  obtain ⟨⟨hx, hb, hr, hml, hown⟩, ⟨hts, hK, hlk, hnm⟩, ⟨hfr, hlo, hy⟩, hbs, hsc⟩ := hS
  obtain ⟨e1, hd, hln⟩ := xm_dec hy ho
  obtain ⟨hX, hb2, hop⟩ := hsc rfl
  obtain ⟨scr, h1, h2, h3, h4, h5⟩ := hX
  have hlt : i.toNatClampNeg < G.2.2.2.2.1 := Nat.not_le.mp fun q => hi (Or.inr q)
  exact W.iald (v := .int (G.2.2.2.2.2 i.toNatClampNeg)) hx hb (by rw [hF.1 base.2.1 hb2]; exact h1) h2 h3 (by rw [h4]; exact hi) (h5 _ hlt) rfl rfl hd K
theorem xm_sldo {G : xm_G} {l : Launch} {d mc ms cs zs pc : Nat} {ls : List (Option Value)} {st : List Value} {h : xm_H} {post : Option Value → xm_H → Prop} {len a b : Nat} {i : Int32} (ho : xm_op xi_law pc = some (pc, .iaload, len, a, b)) (hi : vp_in i G.2.2.2.2.1) (h3 : i.toNatClampNeg = 3) (kk : xm_X G l xi_law d mc ms cs zs (pc + 1) ls (.float 1 :: st) h post) : xm_X G l xi_law d mc ms cs zs pc ls (.int i :: .float 0 :: st) h post := by
  intro p e R s m args below meth c H locs base lsA Q hS hmc hms hL hW hF hK9
  have K := kk p e R s m args below meth c H locs base lsA Q hS hmc hms hL hW hF hK9
  obtain ⟨⟨hx, hb, hr, hml, hown⟩, ⟨hts, hK, hlk, hnm⟩, ⟨hfr, hlo, hy⟩, hbs, hsc⟩ := hS
  obtain ⟨e1, hd, hln⟩ := xm_dec hy ho
  obtain ⟨hX, hb2, hop⟩ := hsc rfl
  obtain ⟨scr, h1, h2, h3', h4, h5⟩ := hX
  have hlt : i.toNatClampNeg < G.2.2.2.2.1 := Nat.not_le.mp fun q => hi (Or.inr q)
  have e9 : (Value.float 1 :: st).map (xm_v base) = .int (G.2.2.2.2.2 i.toNatClampNeg) :: st.map (xm_v base) := by
    rw [h3, ← hop]
    rfl
  rw [e9] at K
  exact W.iald (v := .int (G.2.2.2.2.2 i.toNatClampNeg)) hx hb (by rw [hF.1 base.2.1 hb2]; exact h1) h2 h3' (by rw [h4]; exact hi) (h5 _ hlt) rfl rfl hd K
theorem xm_slen {G : xm_G} {l : Launch} {d mc ms cs zs pc : Nat} {ls : List (Option Value)} {st : List Value} {h : xm_H} {post : Option Value → xm_H → Prop} {len a b : Nat} (ho : xm_op xi_law pc = some (pc, .arraylength, len, a, b)) (kk : xm_X G l xi_law d mc ms cs zs (pc + 1) ls (.int (Int32.ofNat G.2.2.2.2.1) :: st) h post) : xm_X G l xi_law d mc ms cs zs pc ls (.float 0 :: st) h post := by
  intro p e R s m args below meth c H locs base lsA Q hS hmc hms hL hW hF hK9
  have K := kk p e R s m args below meth c H locs base lsA Q hS hmc hms hL hW hF hK9
  obtain ⟨⟨hx, hb, hr, hml, hown⟩, ⟨hts, hK, hlk, hnm⟩, ⟨hfr, hlo, hy⟩, hbs, hsc⟩ := hS
  obtain ⟨e1, hd, hln⟩ := xm_dec hy ho
  obtain ⟨hX, hb2, hop⟩ := hsc rfl
  obtain ⟨scr, h1, h2, h3, h4, h5⟩ := hX
  exact W.alen (n := Int32.ofNat G.2.2.2.2.1) hx hb (by rw [hF.1 base.2.1 hb2]; exact h1) h2 (by rw [h4] <;> rfl) rfl rfl hd K
/-! System.arraycopy of ints -/
theorem xm_nfw : nativeFrameWords "java/lang/System" "arraycopy" 5 ≤ 40 := by decide +kernel
theorem xm_copy {G : xm_G} {l : Launch} {y d mc ms cs zs pc : Nat} {ls : List (Option Value)} {st : List Value} {h : xm_H} {post : Option Value → xm_H → Prop} {i len a b k0 k1 N0 N1 : Nat} {sp dp n : Int32} (ho : xm_op y pc = some (pc, .invokestatic i, len, a, b + 2)) (hk0 : h.1[k0]? = some (0, N0)) (hk1 : h.1[k1]? = some (0, N1)) (h1 : ¬ sp < 0) (h2 : ¬ dp < 0) (h3 : ¬ n < 0) (h4 : sp.toNatClampNeg + n.toNatClampNeg ≤ N0) (h5 : dp.toNatClampNeg + n.toNatClampNeg ≤ N1) (hd1 : 1 ≤ d) (hrs : (st.map fun v => v.category).sum ≤ 8) (kk : xm_X G l y d mc ms cs zs (pc + 3) ls st (h.1, h.2.1, va_up h.2.2 k1 (va_cpy (h.2.2 k0) (h.2.2 k1) sp.toNatClampNeg dp.toNatClampNeg n.toNatClampNeg)) post) : xm_X G l y d mc ms cs zs pc ls (.int n :: .int dp :: .ref k1 :: .int sp :: .ref k0 :: st) h post := by
  intro p e R s m args below meth c H locs base lsA Q hS hmc hms hL hW hF hK9
  have hS' := hS
  obtain ⟨⟨hx, hb, hr, hml, hown⟩, ⟨hts, hK, hlk, hnm⟩, ⟨hfr, hlo, hy⟩, hbs⟩ := hS
  obtain ⟨e1, hd, hln⟩ := xm_dec hy ho
  have hln : (xm_in (.methodLink (xm_nm y).cls i arraycopyName) && xm_in (.native arraycopyName) && xm_in (.static arraycopyName) && xm_in (.initialized "java/lang/System")) = true := hln
  simp only [Bool.and_eq_true] at hln
  have nn : ∀ z : Int32, ¬ z < 0 → z.toInt = (z.toNatClampNeg : Int) := by
    intro z hz
    have hz0 : (0 : Int) ≤ z.toInt := by
      have := Int32.not_lt.mp hz
      simpa using Int32.le_iff_toInt_le.mp this
    show z.toInt = ((z.toInt.toNat : Nat) : Int)
    omega
  have hc0 : H[base.1 + k0]? = some (arrV G.2.1 N0 (fun j => .int (h.2.2 k0 j))) := hW.2 k0 _ hk0
  have hc1 : H[base.1 + k1]? = some (arrV G.2.1 N1 (fun j => .int (h.2.2 k1 j))) := hW.2 k1 _ hk1
  obtain ⟨-, kA, hkA, cm, hkk⟩ := xm_tI hK N0 (fun j => .int (h.2.2 k0 j))
  have hsum := xm_sum (base := base) hrs
  have hnf := xm_nfw
  intro T hT X
  obtain ⟨vm', X', step⟩ := X.arraycopy hx hown (xm_wd hts hln.1.1.1) (xm_wd hts hln.1.1.2) (xm_wd hts hln.1.2) (xm_wd hts hln.2) (src := base.1 + k0) (dst := base.1 + k1) (cs := arrV G.2.1 N0 (fun j => .int (h.2.2 k0 j))) (cd := arrV G.2.1 N1 (fun j => .int (h.2.2 k1 j))) (srcPos := sp) (destPos := dp) (n := n) (by rw [hT]; exact hc0) (by rw [hT]; exact hc1)
    (fun _ h => by cases h) (fun _ h => by cases h) (fun h => by cases h) (fun h => by cases h) hkA hkA hkk hkk (by decide) h1 h2 h3
    (by rw [nn sp h1, nn n h3, arrV_size]; omega)
    (by rw [nn dp h2, nn n h3, arrV_size]; omega)
    (fun vm₁ _ i hi => by
      have e : (arrV G.2.1 N0 (fun j => .int (h.2.2 k0 j))).slots.getD (sp.toNatClampNeg + i) .null = .int (h.2.2 k0 (sp.toNatClampNeg + i)) := by
        rw [Array.getD_eq_getD_getElem?, arrV_read _ _ (by omega)]
        rfl
      refine ⟨?_, ?_⟩
      · rw [e]; rfl
      · rw [e]; exact trivial)
    (g := F0 m pc lsA (.int n :: .int dp :: .ref (base.1 + k1) :: .int sp :: .ref (base.1 + k0) :: st.map (xm_v base))) rfl (by rw [hml]; exact hL.1) (rest := st.map (xm_v base)) rfl (by rw [hb]; exact hd) (by omega) (by show 2 * 0 + _ + _ ≤ _; omega)
  have e1 : copied (arrV G.2.1 N0 (fun j => .int (h.2.2 k0 j))) (arrV G.2.1 N1 (fun j => .int (h.2.2 k1 j))) sp dp n = arrV G.2.1 N1 (fun j => .int (va_cpy (h.2.2 k0) (h.2.2 k1) sp.toNatClampNeg dp.toNatClampNeg n.toNatClampNeg j)) := va_copied (fun z => .int z) G.2.1 G.2.1 (h.2.2 k0) (h.2.2 k1) h4
  rw [e1] at X' step
  have hl : base.1 + k1 < H.size := (Array.getElem?_eq_some_iff.mp hc1).1
  generalize hcell : arrV G.2.1 N1 (fun j => .int (va_cpy (h.2.2 k0) (h.2.2 k1) sp.toNatClampNeg dp.toNatClampNeg n.toNatClampNeg j)) = cell at X' step
  have hheap : ((T.setVm vm').setCell (base.1 + k1) cell).heap = H.setIfInBounds (base.1 + k1) cell := by rw [← hT]; rfl
  have oq : ∀ q : Nat, q ≠ base.1 + k1 → (H.setIfInBounds (base.1 + k1) cell)[q]? = H[q]? := fun q hq => by simp [Array.getElem?_setIfInBounds, Ne.symm hq]
  obtain ⟨t, a1, b1⟩ := kk p e R s m args below meth c (H.setIfInBounds (base.1 + k1) cell) _ base lsA Q hS' hmc hms hL (hW.one hk1 rfl (fun _ _ => rfl) (fun j hj => by simp [va_up, hj]) (by simp) oq (by
    show (H.setIfInBounds (base.1 + k1) cell)[base.1 + k1]? = some (arrV G.2.1 N1 _)
    rw [← hcell]
    simp [Array.getElem?_setIfInBounds, hl, va_up])) ⟨fun q hq => by rw [oq q (by omega)]; exact hF.1 q hq, fun q hq => by
      rcases List.mem_append.mp hq with h | h
      · exact hF.2 q h
      · obtain ⟨z, -, hz⟩ := List.mem_map.mp h
        rw [← hz]
        exact Nat.le_add_right _ _⟩ hK9 _ hheap X'
  exact ⟨t, step t a1, b1⟩
/-! Math.min and Math.max: the machine has them by rows of their own -/
theorem xm_mnE : xm_nm 151 = Lib.Math.min.name ∧ xm_by 151 = Lib.Math.min.code ∧ xm_nm 152 = Lib.Math.max.name ∧ xm_by 152 = Lib.Math.max.code := by decide +kernel
theorem xm_lnkS {y pc i len a : Nat} (h : xm_lnk y (pc, .invokestatic i, len, a, 0) = true) : (decide (a < xm_N - 1) && decide (xm_kd a = 0) && xm_in (.methodLink (xm_nm y).cls i (xm_nm a))) = true := h
theorem xm_mmin {G : xm_G} {l : Launch} {y d mc ms cs zs pc : Nat} {ls : List (Option Value)} {st : List Value} {h : xm_H} {post : Option Value → xm_H → Prop} {i len : Nat} {u w : Int32} (ho : xm_op y pc = some (pc, .invokestatic i, len, 151, 0)) (hd1 : 1 ≤ d) (hc1 : cs ≤ mc) (hc2 : zs ≤ ms) (hrs : (st.map fun v => v.category).sum ≤ 8) (kk : xm_X G l y d mc ms cs zs (pc + 3) ls (.int (if w < u then w else u) :: st) h post) : xm_X G l y d mc ms cs zs pc ls (.int w :: .int u :: st) h post := by
  intro p e R s m args below meth c H locs base lsA Q hS hmc hms hL hW hF hK9
  have K := kk p e R s m args below meth c H locs base lsA Q hS hmc hms hL hW hF hK9
  obtain ⟨⟨hx, hb, hr, hml, hown⟩, ⟨hts, hK, hlk, hnm⟩, ⟨hfr, hlo, hy⟩, hbs⟩ := hS
  obtain ⟨e1, hd, hln⟩ := xm_dec hy ho
  have hln : (decide (151 < xm_N - 1) && decide (xm_kd 151 = 0) && xm_in (.methodLink (xm_nm y).cls i (xm_nm 151))) = true := xm_lnkS hln
  simp only [Bool.and_eq_true] at hln
  obtain ⟨m1, m2, m3, m4, m5, m6⟩ := xm_mfacts (y := 151) (by decide)
  have hkd : xm_kd 151 = 0 := rfl
  rw [hkd] at m6
  have hl := xm_wd hts hln.2
  have w1 := xm_wd hts m1
  have w2 := xm_wd hts m2
  have w6 := xm_wd hts m6
  rw [xm_mnE.2.1] at w1
  rw [xm_mnE.1] at hl w1 w6
  have hsum := xm_sum (base := base) hrs
  exact va_mmin hx hb (hml.trans hL.1.symm) hown hl w6 w2 w1 (by omega) (by omega) (by omega) (by omega) hd K
theorem xm_mmax {G : xm_G} {l : Launch} {y d mc ms cs zs pc : Nat} {ls : List (Option Value)} {st : List Value} {h : xm_H} {post : Option Value → xm_H → Prop} {i len : Nat} {u w : Int32} (ho : xm_op y pc = some (pc, .invokestatic i, len, 152, 0)) (hd1 : 1 ≤ d) (hc1 : cs ≤ mc) (hc2 : zs ≤ ms) (hrs : (st.map fun v => v.category).sum ≤ 8) (kk : xm_X G l y d mc ms cs zs (pc + 3) ls (.int (if u < w then w else u) :: st) h post) : xm_X G l y d mc ms cs zs pc ls (.int w :: .int u :: st) h post := by
  intro p e R s m args below meth c H locs base lsA Q hS hmc hms hL hW hF hK9
  have K := kk p e R s m args below meth c H locs base lsA Q hS hmc hms hL hW hF hK9
  obtain ⟨⟨hx, hb, hr, hml, hown⟩, ⟨hts, hK, hlk, hnm⟩, ⟨hfr, hlo, hy⟩, hbs⟩ := hS
  obtain ⟨e1, hd, hln⟩ := xm_dec hy ho
  have hln : (decide (152 < xm_N - 1) && decide (xm_kd 152 = 0) && xm_in (.methodLink (xm_nm y).cls i (xm_nm 152))) = true := xm_lnkS hln
  simp only [Bool.and_eq_true] at hln
  obtain ⟨m1, m2, m3, m4, m5, m6⟩ := xm_mfacts (y := 152) (by decide)
  have hkd : xm_kd 152 = 0 := rfl
  rw [hkd] at m6
  have hl := xm_wd hts hln.2
  have w1 := xm_wd hts m1
  have w2 := xm_wd hts m2
  have w6 := xm_wd hts m6
  rw [xm_mnE.2.2.2] at w1
  rw [xm_mnE.2.2.1] at hl w1 w6
  have hsum := xm_sum (base := base) hrs
  exact va_mmax hx hb (hml.trans hL.1.symm) hown hl w6 w2 w1 (by omega) (by omega) (by omega) (by omega) hd K
