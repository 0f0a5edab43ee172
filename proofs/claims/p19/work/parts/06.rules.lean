/-! CORE, third part: branches, the heap's instructions -/
def xm_cd (c : ClassFile.Cond) (x y : Int32) : Prop := match c with
  | .eq => x = y
  | .ne => ¬ x = y
  | .lt => x < y
  | .ge => y ≤ x
  | .gt => y < x
  | .le => x ≤ y
def xm_br (o : xm_Op) (st : List Value) : Option (ClassFile.Cond × Int32 × Int32 × Nat × List Value) := match o.2.1 with
  | .ifCond c f => match st with
    | .int x :: r => match (o.1 : Int) + f with
      | .ofNat t => some (c, x, 0, t, r)
      | _ => none
    | _ => none
  | .if_icmp c f => match st with
    | .int y :: .int x :: r => match (o.1 : Int) + f with
      | .ofNat t => some (c, x, y, t, r)
      | _ => none
    | _ => none
  | _ => none
set_option maxHeartbeats 4000000 in
theorem xm_if {G : xm_G} {l : Launch} {y d mc ms cs zs pc : Nat} {ls : List (Option Value)} {st : List Value} {h : xm_H} {post : Option Value → xm_H → Prop} {o : xm_Op} {b : ClassFile.Cond × Int32 × Int32 × Nat × List Value} (ho : xm_op y pc = some o) (hst : xm_br o st = some b) (kt : xm_cd b.1 b.2.1 b.2.2.1 → xm_X G l y d mc ms cs zs b.2.2.2.1 ls b.2.2.2.2 h post) (kf : ¬ xm_cd b.1 b.2.1 b.2.2.1 → xm_X G l y d mc ms cs zs (pc + 3) ls b.2.2.2.2 h post) : xm_X G l y d mc ms cs zs pc ls st h post := by
  intro p e R s m args below meth c H locs base lsA Q hS hmc hms hL hW hF hk
  have KT : xm_cd b.1 b.2.1 b.2.2.1 → W p l e R s m args below meth c H locs cs zs Q (F0 m b.2.2.2.1 lsA (b.2.2.2.2.map (xm_v base))) := fun q => kt q p e R s m args below meth c H locs base lsA Q hS hmc hms hL hW hF hk
  have KF : ¬ xm_cd b.1 b.2.1 b.2.2.1 → W p l e R s m args below meth c H locs cs zs Q (F0 m (pc + 3) lsA (b.2.2.2.2.map (xm_v base))) := fun q => kf q p e R s m args below meth c H locs base lsA Q hS hmc hms hL hW hF hk
  obtain ⟨⟨hx, hb, hr, hml, hown⟩, ⟨hts, hK, hlk, hnm⟩, ⟨hfr, hlo, hy⟩, hbs⟩ := hS
  obtain ⟨e1, hd, hln⟩ := xm_dec hy ho
  clear kt kf hk ho
  obtain ⟨q, ins, len, a, b9⟩ := o
  dsimp only at e1 hd hln
  subst e1
  cases ins with
  | ifCond cnd f =>
    simp only [xm_br] at hst
    split at hst
    · split at hst
      · cases hst
        rename_i t ht
        cases cnd with
        | eq => exact lv_if_eq hx hb hd ht KT KF
        | ne => exact lv_if_ne hx hb hd ht KT (fun q => KF (fun n => n q))
        | lt => exact lv_if_lt hx hb hd ht KT KF
        | ge => exact lv_if_ge hx hb hd ht KT KF
        | gt => exact lv_if_gt hx hb hd ht KT KF
        | le => exact lv_if_le hx hb hd ht KT KF
      · cases hst
    · cases hst
  | if_icmp cnd f =>
    simp only [xm_br] at hst
    split at hst
    · split at hst
      · cases hst
        rename_i t ht
        cases cnd with
        | eq => exact lv_icmp_eq hx hb hd ht KT KF
        | ne => exact lv_icmp_ne hx hb hd ht KT (fun q => KF (fun n => n q))
        | lt => exact lv_icmp_lt hx hb hd ht KT KF
        | ge => exact lv_icmp_ge hx hb hd ht KT KF
        | gt => exact lv_icmp_gt hx hb hd ht KT KF
        | le => exact lv_icmp_le hx hb hd ht KT KF
      · cases hst
    · cases hst
  | _ => cases hst
theorem xm_idiv {G : xm_G} {l : Launch} {y d mc ms cs zs pc : Nat} {ls : List (Option Value)} {st : List Value} {h : xm_H} {post : Option Value → xm_H → Prop} {len a b : Nat} {u w : Int32} (ho : xm_op y pc = some (pc, .idiv, len, a, b)) (hz : ¬ w = 0) (k : xm_X G l y d mc ms cs zs (pc + 1) ls (.int (u / w) :: st) h post) : xm_X G l y d mc ms cs zs pc ls (.int w :: .int u :: st) h post := by
  intro p e R s m args below meth c H locs base lsA Q hS hmc hms hL hW hF hk
  have hS' := hS
  obtain ⟨⟨hx, hb, hr, hml, hown⟩, ⟨hts, hK, hlk, hnm⟩, ⟨hfr, hlo, hy⟩, hbs⟩ := hS
  obtain ⟨e1, hd, hln⟩ := xm_dec hy ho
  exact lv_idiv hx hb hd hz (k p e R s m args below meth c H locs base lsA Q hS' hmc hms hL hW hF hk)
theorem xm_irem {G : xm_G} {l : Launch} {y d mc ms cs zs pc : Nat} {ls : List (Option Value)} {st : List Value} {h : xm_H} {post : Option Value → xm_H → Prop} {len a b : Nat} {u w : Int32} (ho : xm_op y pc = some (pc, .irem, len, a, b)) (hz : ¬ w = 0) (k : xm_X G l y d mc ms cs zs (pc + 1) ls (.int (u - u / w * w) :: st) h post) : xm_X G l y d mc ms cs zs pc ls (.int w :: .int u :: st) h post := by
  intro p e R s m args below meth c H locs base lsA Q hS hmc hms hL hW hF hk
  have hS' := hS
  obtain ⟨⟨hx, hb, hr, hml, hown⟩, ⟨hts, hK, hlk, hnm⟩, ⟨hfr, hlo, hy⟩, hbs⟩ := hS
  obtain ⟨e1, hd, hln⟩ := xm_dec hy ho
  exact lv_irem hx hb hd hz (k p e R s m args below meth c H locs base lsA Q hS' hmc hms hL hW hF hk)
def xm_sw (pc : Nat) (df lo hi : Int) (offs : Array Int) (x : Int32) : Option Nat :=
  match (if x.toInt < lo ∨ hi < x.toInt then some df else offs[(x.toInt - lo).toNat]?) with
  | some f => match (pc : Int) + f with
    | .ofNat t => some t
    | _ => none
  | none => none
theorem xm_swi {G : xm_G} {l : Launch} {y d mc ms cs zs pc : Nat} {ls : List (Option Value)} {st : List Value} {h : xm_H} {post : Option Value → xm_H → Prop} {len a b : Nat} {df lo hi : Int} {offs : Array Int} {x : Int32} {t : Nat} (ho : xm_op y pc = some (pc, .tableswitch df lo hi offs, len, a, b)) (ht : xm_sw pc df lo hi offs x = some t) (k : xm_X G l y d mc ms cs zs t ls st h post) : xm_X G l y d mc ms cs zs pc ls (.int x :: st) h post := by
  intro p e R s m args below meth c H locs base lsA Q hS hmc hms hL hW hF hk
  have K := k p e R s m args below meth c H locs base lsA Q hS hmc hms hL hW hF hk
  obtain ⟨⟨hx, hb, hr, hml, hown⟩, ⟨hts, hK, hlk, hnm⟩, ⟨hfr, hlo, hy⟩, hbs⟩ := hS
  obtain ⟨e1, hd, hln⟩ := xm_dec hy ho
  unfold xm_sw at ht
  by_cases hc : x.toInt < lo ∨ hi < x.toInt
  · rw [if_pos hc] at ht
    dsimp only at ht
    split at ht
    · cases ht
      rename_i t' ht'
      exact lv_tableOut hx hb hd hc ht' K
    · cases ht
  · rw [if_neg hc] at ht
    cases ho2 : offs[(x.toInt - lo).toNat]? with
    | none => rw [ho2] at ht; cases ht
    | some f =>
      rw [ho2] at ht
      dsimp only at ht
      split at ht
      · cases ht
        rename_i t' ht'
        exact lv_tableIn hx hb hd (fun q => hc (Or.inl q)) (fun q => hc (Or.inr q)) ho2 ht' K
      · cases ht
/-! a field is read -/
theorem xm_cls {ci : Nat} {q : vw_C} (h : xm_cl[ci]? = some q) : ∀ w ∈ u_ws q.1 q.2.1 q.2.2, w ∈ xm_tb := by
  have key : ∀ {q' : vw_C}, (∀ w ∈ u_ws q'.1 q'.2.1 q'.2.2, w ∈ lw_tbl ∧ goodWord w = true) → ∀ w ∈ u_ws q'.1 q'.2.1 q'.2.2, w ∈ xm_tb := fun hq w hw => List.mem_filter.mpr (hq w hw)
  match ci, h with
  | 0, h => cases h; exact key xm_i0
  | 1, h => cases h; exact key xm_i1
  | 2, h => cases h; exact key xm_i2
  | 3, h => cases h; exact key xm_i3
  | 4, h => cases h; exact key xm_i4
  | 5, h => cases h; exact key xm_i5
  | n + 6, h => simp [xm_cl] at h
theorem xm_pty {ci : Nat} {q : vw_C} (h : xm_cl[ci]? = some q) : ∀ k, k < q.2.2 → parseFieldDescriptor (q.2.1 k).2.2.1 = some (xm_ty ci k) := by
  match ci, h with
  | 0, h => cases h; exact xm_p0
  | 1, h => cases h; exact xm_p1
  | 2, h => cases h; exact xm_p2
  | 3, h => cases h; exact xm_p3
  | 4, h => cases h; exact xm_p4
  | 5, h => cases h; exact xm_p5
  | n + 6, h => simp [xm_cl] at h
theorem xm_nne {ci : Nat} {q : vw_C} (h : xm_cl[ci]? = some q) : ∀ a, a < q.2.2 → ∀ b, b < q.2.2 → a ≠ b → (q.2.1 a).2.1 ≠ (q.2.1 b).2.1 := by
  match ci, h with
  | 0, h => cases h; exact xm_n0
  | 1, h => cases h; exact xm_n1
  | 2, h => cases h; exact xm_n2
  | 3, h => cases h; exact xm_n3
  | 4, h => cases h; exact xm_n4
  | 5, h => cases h; exact xm_n5
  | n + 6, h => simp [xm_cl] at h
theorem xm_get {G : xm_G} {l : Launch} {y d mc ms cs zs pc : Nat} {ls : List (Option Value)} {st : List Value} {h : xm_H} {post : Option Value → xm_H → Prop} {i len a b k N : Nat} {v : Value} (ho : xm_op y pc = some (pc, .getfield i, len, a, b)) (hk : h.1[k]? = some (a + 3, N)) (hv : ∀ base : Nat × Nat × Int32, xm_fv base h k a b = xm_v base v) (kk : xm_X G l y d mc ms cs zs (pc + 3) ls (v :: st) h post) : xm_X G l y d mc ms cs zs pc ls (.ref k :: st) h post := by
  intro p e R s m args below meth c H locs base lsA Q hS hmc hms hL hW hF hK9
  have K := kk p e R s m args below meth c H locs base lsA Q hS hmc hms hL hW hF hK9
  obtain ⟨⟨hx, hb, hr, hml, hown⟩, ⟨hts, hK, hlk, hnm⟩, ⟨hfr, hlo, hy⟩, hbs⟩ := hS
  obtain ⟨e1, hd, hln⟩ := xm_dec hy ho
  have hln : xm_fld y i a b = true := hln
  obtain ⟨⟨q, hq1, hq2⟩, hob⟩ : (∃ r : vw_C, xm_cl[a]? = some r ∧ r.2.2 = N) ∧ t_OB (base.1 + k) (G.1.1 a) N (G.1.2 a) H (xm_fv base h k a) := hW.2 k _ hk
  unfold xm_fld at hln
  rw [hq1] at hln
  simp only [Bool.and_eq_true, decide_eq_true_eq] at hln
  obtain ⟨hbN, hlink⟩ := hln
  subst hq2
  have hP : va_P G.1 xm_cl [(base.1 + k, .inr (a, (List.range q.2.2).map (xm_fv base h k a)))] H := by
    intro j x hj
    match j, hj with
    | 0, hj =>
      cases hj
      refine ⟨q, hq1, hob.to (fun j hj => ?_)⟩
      simp [vp_V, hj]
    | n + 1, hj => simp at hj
  refine va_get (D := G.1) (ws := [(base.1 + k, .inr (a, (List.range q.2.2).map (xm_fv base h k a)))]) (C := q.1) (T := q.2.1) (N := q.2.2) (v := xm_v base v) hx hb hts (xm_cls hq1) hown hK.1 hP 0 rfl hq1 b hbN (xm_wd hts hlink) (fun _ h9 => h9) ?_ hd K
  rw [← hv base]
  simp [hbN]
theorem xm_getI {G : xm_G} {l : Launch} {y d mc ms cs zs pc : Nat} {ls : List (Option Value)} {st : List Value} {h : xm_H} {post : Option Value → xm_H → Prop} {i len a b k N : Nat} (ho : xm_op y pc = some (pc, .getfield i, len, a, b)) (hk : h.1[k]? = some (a + 3, N)) (hI : xm_isI a b = true) (kk : xm_X G l y d mc ms cs zs (pc + 3) ls (.int (h.2.2 k b) :: st) h post) : xm_X G l y d mc ms cs zs pc ls (.ref k :: st) h post :=
  xm_get ho hk (fun (base : Nat × Nat × Int32) => by unfold xm_fv; rw [if_pos hI]; rfl) kk
theorem xm_getR {G : xm_G} {l : Launch} {y d mc ms cs zs pc : Nat} {ls : List (Option Value)} {st : List Value} {h : xm_H} {post : Option Value → xm_H → Prop} {i len a b k N r : Nat} (ho : xm_op y pc = some (pc, .getfield i, len, a, b)) (hk : h.1[k]? = some (a + 3, N)) (hI : xm_isI a b = false) (hr : h.2.1 k b = some r) (kk : xm_X G l y d mc ms cs zs (pc + 3) ls (.ref r :: st) h post) : xm_X G l y d mc ms cs zs pc ls (.ref k :: st) h post :=
  xm_get ho hk (fun (base : Nat × Nat × Int32) => by unfold xm_fv; rw [if_neg (by rw [hI]; decide), hr]; rfl) kk
