/-! CORE, fourth part: fields and arrays are written, cells are made -/
theorem xm_put {G : xm_G} {l : Launch} {y d mc ms cs zs pc : Nat} {ls : List (Option Value)} {st : List Value} {h h1 : xm_H} {post : Option Value → xm_H → Prop} {i len a b k N : Nat} {v : Value} (ho : xm_op y pc = some (pc, .putfield i, len, a, b)) (hk : h.1[k]? = some (a + 3, N)) (hs : h1.1 = h.1) (hr1 : ∀ j, j ≠ k → h1.2.1 j = h.2.1 j) (hm1 : ∀ j, j ≠ k → h1.2.2 j = h.2.2 j) (hv : ∀ (base : Nat × Nat × Int32) (j : Nat), xm_fv base h1 k a j = if j = b then xm_v base v else xm_fv base h k a j) (hn : ∀ base : Nat × Nat × Int32, narrow (xm_ty a b) (xm_v base v) = xm_v base v ∧ fits (xm_ty a b) (xm_v base v) = true) (kk : xm_X G l y d mc ms cs zs (pc + 3) ls st h1 post) : xm_X G l y d mc ms cs zs pc ls (v :: .ref k :: st) h post := by
  intro p e R s m args below meth c H locs base lsA Q hS hmc hms hL hW hF hK9
  have hS' := hS
  obtain ⟨⟨hx, hb, hr, hml, hown⟩, ⟨hts, hK, hlk, hnm⟩, ⟨hfr, hlo, hy⟩, hbs⟩ := hS
  obtain ⟨e1, hd, hln⟩ := xm_dec hy ho
  have hln : (xm_fld y i a b && xm_fin y a b) = true := hln
  obtain ⟨⟨q, hq1, hq2⟩, hob⟩ : (∃ r : vw_C, xm_cl[a]? = some r ∧ r.2.2 = N) ∧ t_OB (base.1 + k) (G.1.1 a) N (G.1.2 a) H (xm_fv base h k a) := hW.2 k _ hk
  unfold xm_fld xm_fin at hln
  rw [hq1] at hln
  simp only [Bool.and_eq_true, decide_eq_true_eq] at hln
  obtain ⟨⟨hbN, hlink⟩, hfin⟩ := hln
  subst hq2
  have hin := xm_cls hq1
  have hap := va_apart (own := (xm_nm y).cls) hts hin (xm_ty a) (xm_pty hq1) (xm_nne hq1) hK.1 hq1
  obtain ⟨cell, q1, q2, q3, q4⟩ := hob
  obtain ⟨hSl, hfc, kC, hkC, hkind⟩ := hK.1.1 a _ hq1
  obtain ⟨cf, kf, fi, f, hi, hsl⟩ := hSl b hbN
  have hlay := hts _ (hin _ (u_in_lay hbN))
  unfold u_lay at hlay
  have hst := (u_facts hfc hkC (u_lays hts hin hbN) hi).1
  have hpt := xm_pty hq1 b hbN
  have fin : ∀ H' : Heap, H'[base.1 + k]? = some (cell.setSlot f.slot (xm_v base v)) → H'.size = H.size → (∀ j, j ≠ base.1 + k → H'[j]? = H[j]?) → W p l e R s m args below meth c H' (locs ++ [⟨base.1 + k, f.slot⟩]) cs zs Q (F0 m (pc + 3) lsA (st.map (xm_v base))) := by
    intro H' g1 g2 g3
    refine kk p e R s m args below meth c H' _ base lsA Q hS' hmc hms hL (hW.one hk hs hr1 hm1 g2 g3 ?_) (hF.one (by omega) g3) hK9
    refine ⟨⟨q, hq1, rfl⟩, ?_⟩
    rw [hsl] at g1
    refine t_OB.to (V := updV (xm_fv base h k a) b (xm_v base v)) ⟨_, g1, q2, q3, t_set q4 hap hbN (xm_v base v)⟩ (fun j _ => ?_)
    rw [hv base j]
    rfl
  cases hfb : (q.2.1 b).2.2.2 with
  | false =>
    rw [if_neg (by rw [hfb]; decide)] at hlay
    have h6 := u_store hfc hkC hkind hlay hi hpt (hn base).1 (hn base).2
    exact W.putK hx hb (f := f) ⟨hown, xm_wd hts hlink, ⟨_, _, _, hi⟩, hst⟩ (by rw [q2]; exact h6) q1 q3 (by rw [hsl]; exact k2_hasslot (q4 b hbN)) rfl rfl hd fin
  | true =>
    rw [if_pos hfb] at hlay
    rw [hfb] at hfin
    simp only [Bool.not_true, Bool.false_or, Bool.and_eq_true, decide_eq_true_eq] at hfin
    have hcf : m.cls = cf := by
      obtain ⟨_, _, c', _, _, _, -, -, hf', -, -, -, hown2, -⟩ := Cond.laysFinal_spec hlay
      have e1 : c' = cf := by have := hi.symm.trans hf'; simp at this; exact this.1.symm
      rw [hfin.2] at hown2
      rw [← e1]; exact Option.some.inj (hown.symm.trans hown2)
    have h6 := u_fits hfc hkC hkind (Or.inr hlay) hi hpt (hn base).1 (hn base).2
    exact W.putFinK hx hb hown (xm_wd hts hlink) hi hst hcf (hnm hfin.1) (by rw [q2]; exact h6) q1 q3 (by rw [hsl]; exact k2_hasslot (q4 b hbN)) rfl rfl hd fin
abbrev xm_sm (h : xm_H) (k j : Nat) (x : Int32) : xm_H := (h.1, h.2.1, va_up h.2.2 k (upd (h.2.2 k) j x))
abbrev xm_sr (h : xm_H) (k j : Nat) (r : Option Nat) : xm_H := (h.1, va_up h.2.1 k (va_up (h.2.1 k) j r), h.2.2)
theorem xm_putI {G : xm_G} {l : Launch} {y d mc ms cs zs pc : Nat} {ls : List (Option Value)} {st : List Value} {h : xm_H} {post : Option Value → xm_H → Prop} {i len a b k N : Nat} {x : Int32} (ho : xm_op y pc = some (pc, .putfield i, len, a, b)) (hk : h.1[k]? = some (a + 3, N)) (hI : xm_isI a b = true) (kk : xm_X G l y d mc ms cs zs (pc + 3) ls st (xm_sm h k b x) post) : xm_X G l y d mc ms cs zs pc ls (.int x :: .ref k :: st) h post := by
  have hty : xm_ty a b = .int := by simpa [xm_isI] using hI
  refine xm_put (h1 := xm_sm h k b x) ho hk rfl (fun _ _ => rfl) (fun j hj => ?_) (fun (base : Nat × Nat × Int32) (j : Nat) => ?_) (fun (base : Nat × Nat × Int32) => ?_) kk
  · simp [va_up, hj]
  · unfold xm_fv
    by_cases hj : j = b
    · subst hj
      rw [if_pos hI, if_pos rfl]
      simp [va_up, upd, xm_v]
    · rw [if_neg hj]
      simp [va_up, upd, hj]
  · rw [hty]
    exact ⟨rfl, rfl⟩
theorem xm_putR {G : xm_G} {l : Launch} {y d mc ms cs zs pc : Nat} {ls : List (Option Value)} {st : List Value} {h : xm_H} {post : Option Value → xm_H → Prop} {i len a b k N r : Nat} (ho : xm_op y pc = some (pc, .putfield i, len, a, b)) (hk : h.1[k]? = some (a + 3, N)) (hI : xm_isI a b = false) (hn : ∀ q : Nat, narrow (xm_ty a b) (.ref q) = .ref q ∧ fits (xm_ty a b) (.ref q) = true) (kk : xm_X G l y d mc ms cs zs (pc + 3) ls st (xm_sr h k b (some r)) post) : xm_X G l y d mc ms cs zs pc ls (.ref r :: .ref k :: st) h post := by
  refine xm_put (h1 := xm_sr h k b (some r)) ho hk rfl (fun j hj => ?_) (fun _ _ => rfl) (fun (base : Nat × Nat × Int32) (j : Nat) => ?_) (fun (base : Nat × Nat × Int32) => hn _) kk
  · simp [va_up, hj]
  · unfold xm_fv
    by_cases hj : j = b
    · subst hj
      rw [if_neg (by rw [hI]; decide), if_pos rfl]
      simp [va_up, xm_v, va_rf]
    · rw [if_neg hj]
      simp [va_up, hj]
theorem xm_obj {G : xm_G} {base : Nat × Nat × Int32} {k ci N : Nat} {h : xm_H} {H : Heap} (hq : xm_ce G base k (ci + 3, N) h H) : (∃ r : vw_C, xm_cl[ci]? = some r ∧ r.2.2 = N) ∧ t_OB (base.1 + k) (G.1.1 ci) N (G.1.2 ci) H (xm_fv base h k ci) := hq
/-! arrays -/
theorem xm_tI {G : xm_G} {s : State} (hK : xm_K G s) : ArrOfT s G.2.1 .int := (hK.1.2 0 (G.2.1, .int) rfl).1
theorem xm_tZ {G : xm_G} {s : State} (hK : xm_K G s) : ArrOfT s G.2.2.1 .boolean := (hK.1.2 1 (G.2.2.1, .boolean) rfl).1
theorem xm_iald {G : xm_G} {l : Launch} {y d mc ms cs zs pc : Nat} {ls : List (Option Value)} {st : List Value} {h : xm_H} {post : Option Value → xm_H → Prop} {len a b k N : Nat} {i : Int32} (ho : xm_op y pc = some (pc, .iaload, len, a, b)) (hk : h.1[k]? = some (0, N)) (hi : vp_in i N) (kk : xm_X G l y d mc ms cs zs (pc + 1) ls (.int (h.2.2 k i.toNatClampNeg) :: st) h post) : xm_X G l y d mc ms cs zs pc ls (.int i :: .ref k :: st) h post := by
  intro p e R s m args below meth c H locs base lsA Q hS hmc hms hL hW hF hK9
  have K := kk p e R s m args below meth c H locs base lsA Q hS hmc hms hL hW hF hK9
  obtain ⟨⟨hx, hb, hr, hml, hown⟩, ⟨hts, hK, hlk, hnm⟩, ⟨hfr, hlo, hy⟩, hbs⟩ := hS
  obtain ⟨e1, hd, hln⟩ := xm_dec hy ho
  have hc : H[base.1 + k]? = some (arrV G.2.1 N (fun j => .int (h.2.2 k j))) := hW.2 k _ hk
  have hlt : i.toNatClampNeg < N := Nat.not_le.mp fun q => hi (Or.inr q)
  exact W.iald (v := .int (h.2.2 k i.toNatClampNeg)) hx hb hc (xm_tI hK N _) (fun q => by cases q) (by rw [arrV_size]; exact hi) (by rw [arrV_read _ _ hlt]) rfl rfl hd K
theorem xm_zald {G : xm_G} {l : Launch} {y d mc ms cs zs pc : Nat} {ls : List (Option Value)} {st : List Value} {h : xm_H} {post : Option Value → xm_H → Prop} {len a b k N : Nat} {i : Int32} (ho : xm_op y pc = some (pc, .baload, len, a, b)) (hk : h.1[k]? = some (1, N)) (hi : vp_in i N) (kk : xm_X G l y d mc ms cs zs (pc + 1) ls (.int (h.2.2 k i.toNatClampNeg) :: st) h post) : xm_X G l y d mc ms cs zs pc ls (.int i :: .ref k :: st) h post := by
  intro p e R s m args below meth c H locs base lsA Q hS hmc hms hL hW hF hK9
  have K := kk p e R s m args below meth c H locs base lsA Q hS hmc hms hL hW hF hK9
  obtain ⟨⟨hx, hb, hr, hml, hown⟩, ⟨hts, hK, hlk, hnm⟩, ⟨hfr, hlo, hy⟩, hbs⟩ := hS
  obtain ⟨e1, hd, hln⟩ := xm_dec hy ho
  have hc : H[base.1 + k]? = some (arrV G.2.2.1 N (fun j => .int (h.2.2 k j))) := hW.2 k _ hk
  have hlt : i.toNatClampNeg < N := Nat.not_le.mp fun q => hi (Or.inr q)
  exact W.zald (v := .int (h.2.2 k i.toNatClampNeg)) hx hb hc (xm_tZ hK N _) (fun q => by cases q) (by rw [arrV_size]; exact hi) (by rw [arrV_read _ _ hlt]) rfl rfl hd K
theorem xm_aald {G : xm_G} {l : Launch} {y d mc ms cs zs pc : Nat} {ls : List (Option Value)} {st : List Value} {h : xm_H} {post : Option Value → xm_H → Prop} {len a b k N r : Nat} {i : Int32} (ho : xm_op y pc = some (pc, .aaload, len, a, b)) (hk : h.1[k]? = some (2, N)) (hi : vp_in i N) (hr9 : h.2.1 k i.toNatClampNeg = some r) (kk : xm_X G l y d mc ms cs zs (pc + 1) ls (.ref r :: st) h post) : xm_X G l y d mc ms cs zs pc ls (.int i :: .ref k :: st) h post := by
  intro p e R s m args below meth c H locs base lsA Q hS hmc hms hL hW hF hK9
  have K := kk p e R s m args below meth c H locs base lsA Q hS hmc hms hL hW hF hK9
  obtain ⟨⟨hx, hb, hr, hml, hown⟩, ⟨hts, hK, hlk, hnm⟩, ⟨hfr, hlo, hy⟩, hbs⟩ := hS
  obtain ⟨e1, hd, hln⟩ := xm_dec hy ho
  have hc : H[base.1 + k]? = some (arrV G.2.2.2.1 N (fun j => va_rf ((h.2.1 k j).map (fun r => base.1 + r)))) := hW.2 k _ hk
  have hlt : i.toNatClampNeg < N := Nat.not_le.mp fun q => hi (Or.inr q)
  exact W.aald (v := .ref (base.1 + r)) (ty := .object "LatinLaws$Table") hx hb hc ((hK.1.2 2 (G.2.2.2.1, .object "LatinLaws$Table") rfl).1 N _) rfl (fun q => by cases q) (by rw [arrV_size]; exact hi) (by rw [arrV_read _ _ hlt, hr9]; rfl) rfl rfl hd K
theorem xm_alen {G : xm_G} {l : Launch} {y d mc ms cs zs pc : Nat} {ls : List (Option Value)} {st : List Value} {h : xm_H} {post : Option Value → xm_H → Prop} {len a b k N : Nat} (ho : xm_op y pc = some (pc, .arraylength, len, a, b)) (hk : h.1[k]? = some (0, N)) (kk : xm_X G l y d mc ms cs zs (pc + 1) ls (.int (Int32.ofNat N) :: st) h post) : xm_X G l y d mc ms cs zs pc ls (.ref k :: st) h post := by
  intro p e R s m args below meth c H locs base lsA Q hS hmc hms hL hW hF hK9
  have K := kk p e R s m args below meth c H locs base lsA Q hS hmc hms hL hW hF hK9
  obtain ⟨⟨hx, hb, hr, hml, hown⟩, ⟨hts, hK, hlk, hnm⟩, ⟨hfr, hlo, hy⟩, hbs⟩ := hS
  obtain ⟨e1, hd, hln⟩ := xm_dec hy ho
  have hc : H[base.1 + k]? = some (arrV G.2.1 N (fun j => .int (h.2.2 k j))) := hW.2 k _ hk
  exact W.alen (n := Int32.ofNat N) hx hb hc (xm_tI hK N _) (by rw [arrV_size] <;> rfl) rfl rfl hd K
theorem xm_iast {G : xm_G} {l : Launch} {y d mc ms cs zs pc : Nat} {ls : List (Option Value)} {st : List Value} {h : xm_H} {post : Option Value → xm_H → Prop} {len a b k N : Nat} {i x : Int32} (ho : xm_op y pc = some (pc, .iastore, len, a, b)) (hk : h.1[k]? = some (0, N)) (hi : vp_in i N) (kk : xm_X G l y d mc ms cs zs (pc + 1) ls st (xm_sm h k i.toNatClampNeg x) post) : xm_X G l y d mc ms cs zs pc ls (.int x :: .int i :: .ref k :: st) h post := by
  intro p e R s m args below meth c H locs base lsA Q hS hmc hms hL hW hF hK9
  have hS' := hS
  obtain ⟨⟨hx, hb, hr, hml, hown⟩, ⟨hts, hK, hlk, hnm⟩, ⟨hfr, hlo, hy⟩, hbs⟩ := hS
  obtain ⟨e1, hd, hln⟩ := xm_dec hy ho
  have hc : H[base.1 + k]? = some (arrV G.2.1 N (fun j => .int (h.2.2 k j))) := hW.2 k _ hk
  refine W.iast hx hb hc (xm_tI hK N _) (fun q => by cases q) (by rw [arrV_size]; exact hi) rfl rfl hd fun H1 g1 g2 g3 => ?_
  refine kk p e R s m args below meth c H1 _ base lsA Q hS' hmc hms hL (hW.one hk rfl (fun _ _ => rfl) (fun j hj => by simp [va_up, hj]) g2 g3 ?_) (hF.one (by omega) g3) hK9
  show H1[base.1 + k]? = some (arrV G.2.1 N _)
  rw [g1, arrV_store]
  congr 2
  funext q
  by_cases hq : q = i.toNatClampNeg
  · subst hq
    simp [updV, upd, va_up]
  · simp [updV, upd, va_up, hq]
theorem xm_zast {G : xm_G} {l : Launch} {y d mc ms cs zs pc : Nat} {ls : List (Option Value)} {st : List Value} {h : xm_H} {post : Option Value → xm_H → Prop} {len a b k N : Nat} {i x : Int32} (ho : xm_op y pc = some (pc, .bastore, len, a, b)) (hk : h.1[k]? = some (1, N)) (hi : vp_in i N) (kk : xm_X G l y d mc ms cs zs (pc + 1) ls st (xm_sm h k i.toNatClampNeg (vp_nar .boolean x)) post) : xm_X G l y d mc ms cs zs pc ls (.int x :: .int i :: .ref k :: st) h post := by
  intro p e R s m args below meth c H locs base lsA Q hS hmc hms hL hW hF hK9
  have hS' := hS
  obtain ⟨⟨hx, hb, hr, hml, hown⟩, ⟨hts, hK, hlk, hnm⟩, ⟨hfr, hlo, hy⟩, hbs⟩ := hS
  obtain ⟨e1, hd, hln⟩ := xm_dec hy ho
  have hc : H[base.1 + k]? = some (arrV G.2.2.1 N (fun j => .int (h.2.2 k j))) := hW.2 k _ hk
  refine W.zast hx hb hc (xm_tZ hK N _) (fun q => by cases q) (by rw [arrV_size]; exact hi) rfl rfl hd fun H1 g1 g2 g3 => ?_
  refine kk p e R s m args below meth c H1 _ base lsA Q hS' hmc hms hL (hW.one hk rfl (fun _ _ => rfl) (fun j hj => by simp [va_up, hj]) g2 g3 ?_) (hF.one (by omega) g3) hK9
  show H1[base.1 + k]? = some (arrV G.2.2.1 N _)
  rw [g1, arrV_store]
  congr 2
  funext q
  by_cases hq : q = i.toNatClampNeg
  · subst hq
    simp [updV, upd, va_up, vp_nar]
    try rfl
  · simp [updV, upd, va_up, hq]
theorem xm_aast {G : xm_G} {l : Launch} {y d mc ms cs zs pc : Nat} {ls : List (Option Value)} {st : List Value} {h : xm_H} {post : Option Value → xm_H → Prop} {len a b k N N2 r : Nat} {i : Int32} (ho : xm_op y pc = some (pc, .aastore, len, a, b)) (hk : h.1[k]? = some (2, N)) (hkr : h.1[r]? = some (3, N2)) (hi : vp_in i N) (kk : xm_X G l y d mc ms cs zs (pc + 1) ls st (xm_sr h k i.toNatClampNeg (some r)) post) : xm_X G l y d mc ms cs zs pc ls (.ref r :: .int i :: .ref k :: st) h post := by
  intro p e R s m args below meth c H locs base lsA Q hS hmc hms hL hW hF hK9
  have hS' := hS
  obtain ⟨⟨hx, hb, hr, hml, hown⟩, ⟨hts, hK, hlk, hnm⟩, ⟨hfr, hlo, hy⟩, hbs⟩ := hS
  obtain ⟨e1, hd, hln⟩ := xm_dec hy ho
  have hc : H[base.1 + k]? = some (arrV G.2.2.2.1 N (fun j => va_rf ((h.2.1 k j).map (fun r => base.1 + r)))) := hW.2 k _ hk
  have hlt : i.toNatClampNeg < N := Nat.not_le.mp fun q => hi (Or.inr q)
  have h0 : ¬ i < 0 := fun q => hi (Or.inl q)
  have hq0 : xm_ce G base r (0 + 3, N2) h H := hW.2 r (3, N2) hkr
  obtain ⟨-, cellV, g1, g2, g3, -⟩ : (∃ r : vw_C, xm_cl[0]? = some r ∧ r.2.2 = N2) ∧ t_OB (base.1 + r) (G.1.1 0) N2 (G.1.2 0) H (xm_fv base h r 0) := xm_obj hq0
  have hcls := (hK.1.1 0 ("LatinLaws$Table", xm_T0, 2) rfl).2
  obtain ⟨kA, comp, k1, k2, k3, -⟩ := (hK.1.2 2 (G.2.2.2.1, .object "LatinLaws$Table") rfl).2
  have hcomp : comp = G.1.1 0 := Option.some.inj (k3.symm.trans hcls.1)
  subst hcomp
  obtain ⟨kC, hkC, -⟩ := hcls.2
  refine W.aast hx hb hc (fun q h => by cases h) (fun h => by cases h) k1 k2 rfl hkC ⟨h0, by rw [arrV_size]; exact hlt⟩ g1 (fun q h => by rw [g3] at h; cases h) (by rw [g2]; exact hkC) (by rw [g2]; exact va_assign hcls) rfl rfl hd fun H1 e1 e2 e3 => ?_
  refine kk p e R s m args below meth c H1 _ base lsA Q hS' hmc hms hL (hW.one hk rfl (fun j hj => by simp [va_up, hj]) (fun _ _ => rfl) e2 e3 ?_) (hF.one (by omega) e3) hK9
  show H1[base.1 + k]? = some (arrV G.2.2.2.1 N _)
  rw [e1, arrV_store]
  congr 2
  funext q
  by_cases hq : q = i.toNatClampNeg
  · subst hq
    simp [updV, va_up, va_rf]
  · simp [updV, va_up, hq]
