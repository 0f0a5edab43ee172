/-! set -/
def tSt (n : Nat) (c : tC) (a b w : Nat) (k : Nat) : Bool := (!decide (k = b) && decide (c a k = w)) || (!decide (k = a) && decide (c k b = w))
theorem qM_stands {M : zM} {t n a b w : Nat} {c : tC} (ht : t < 6) (h : rT M t n c) (h8 : n ≤ 8) (ha : a < n) (hb : b < n) (hw : w < 8) : zf_M_stands [.ref 32, .int (nI t), .int (nI a), .int (nI b), .int (nI w)] M = some (some (zb (zany (tSt n c a b w) n)), M) := by
  have R := zwh_up (c := zc_M_stands_1) (s := zs_M_stands_1) (fun j => [some (Value.ref (32)), some (Value.int (nI t)), some (Value.int (nI a)), some (Value.int (nI b)), some (Value.int (nI w)), some (Value.int (zb (zany (tSt n c a b w) j))), some (Value.int (nI j))]) (fun _ => M) (n := n) n 0 (by omega) ?_ ?_ ?_
  · have e0 : zb (zany (tSt n c a b w) 0) = nI 0 := rfl
    rw [e0] at R
    simp (disch := omega) [zf_M_stands, zmeth, xm_en, zret, zretz, zretv, zseq, zst, zinc, zkl, zskip, zk, zi, za, zbin, zdiv, zrem, zgi, zgr, zld, zldr, zlen, zn, zc, zcall, zcallv, zrcv, zdo, zdov, zpf, zpfc, zas, zasc, zmin, zmax, zcmp, zcz, zand_e, zor_e, zite_e, zbite_e, zif_e, znot_e, z_add, z_sub, z_mul, z_and, z_or, z_xor, z_shl, z_shr, zcpy, -List.getElem?_cons_succ, zg_0, zg_1, zg_2, zg_3, zg_4, zg_5, zg_6, zg_7, zg_8, zg_9, R, zb_01]
  · intro j _ h2
    simp (disch := omega) [zc_M_stands_1, zmeth, xm_en, zret, zretz, zretv, zseq, zst, zinc, zkl, zskip, zk, zi, za, zbin, zdiv, zrem, zgi, zgr, zld, zldr, zlen, zn, zc, zcall, zcallv, zrcv, zdo, zdov, zpf, zpfc, zas, zasc, zmin, zmax, zcmp, zcz, zand_e, zor_e, zite_e, zbite_e, zif_e, znot_e, z_add, z_sub, z_mul, z_and, z_or, z_xor, z_shl, z_shr, zcpy, -List.getElem?_cons_succ, zg_0, zg_1, zg_2, zg_3, zg_4, zg_5, zg_6, zg_7, zg_8, zg_9, zc_lt, zc_le, zc_gt, zc_ge, zc_eq, zc_ne, zc_lt0, zc_ge0, zc_gt0, zc_eq0, zc_ne0, zb_ne, zb_eq, zb_01, z_00, z_01, z_11, zb_f, zb_T, zb_F, zbm1, zbm2, zbm5, zbm6, zbm3, zbm4, nI_clamp, zmod_n, pk_div, nI_ne0, pk_mul, nI_add, nI_1, zt_0, zt_12, zt_20, zt_26, zt_32, zf_0_0, zf_0_1, zf_0_2, zf_0_3, zf_0_4, zf_12_0, zf_12_1, zf_12_2, zf_12_4, zf_12_5, zf_20_1, zf_20_2, zf_20_3, zf_20_4, zf_20_6, zf_26_0, zf_26_1, zf_26_2, zf_26_3, zf_32_0, zf_32_1, zf_32_3, zf_32_4, zf_32_5, zf_32_6, zi_33, h.1, h2]
  · intro j _ h2
    have e : zany (tSt n c a b w) (j + 1) = (zany (tSt n c a b w) j || tSt n c a b w j) := rfl
    simp (disch := omega) [zs_M_stands_1, zmeth, xm_en, zret, zretz, zretv, zseq, zst, zinc, zkl, zskip, zk, zi, za, zbin, zdiv, zrem, zgi, zgr, zld, zldr, zlen, zn, zc, zcall, zcallv, zrcv, zdo, zdov, zpf, zpfc, zas, zasc, zmin, zmax, zcmp, zcz, zand_e, zor_e, zite_e, zbite_e, zif_e, znot_e, z_add, z_sub, z_mul, z_and, z_or, z_xor, z_shl, z_shr, zcpy, -List.getElem?_cons_succ, zg_0, zg_1, zg_2, zg_3, zg_4, zg_5, zg_6, zg_7, zg_8, zg_9, zc_lt, zc_le, zc_gt, zc_ge, zc_eq, zc_ne, zc_lt0, zc_ge0, zc_gt0, zc_eq0, zc_ne0, zb_ne, zb_eq, zb_01, z_00, z_01, z_11, zb_f, zb_T, zb_F, zbm1, zbm2, zbm5, zbm6, zbm3, zbm4, nI_clamp, zmod_n, pk_div, nI_ne0, pk_mul, nI_add, nI_1, zt_0, zt_12, zt_20, zt_26, zt_32, zf_0_0, zf_0_1, zf_0_2, zf_0_3, zf_0_4, zf_12_0, zf_12_1, zf_12_2, zf_12_4, zf_12_5, zf_20_1, zf_20_2, zf_20_3, zf_20_4, zf_20_6, zf_26_0, zf_26_1, zf_26_2, zf_26_3, zf_32_0, zf_32_1, zf_32_3, zf_32_4, zf_32_5, zf_32_6, qM_rcell ht h h8 ha h2, qM_rcell ht h h8 h2 hb, zcl_eq4 hw, e, tSt, Bool.or_assoc]
  · simp (disch := omega) [zc_M_stands_1, zmeth, xm_en, zret, zretz, zretv, zseq, zst, zinc, zkl, zskip, zk, zi, za, zbin, zdiv, zrem, zgi, zgr, zld, zldr, zlen, zn, zc, zcall, zcallv, zrcv, zdo, zdov, zpf, zpfc, zas, zasc, zmin, zmax, zcmp, zcz, zand_e, zor_e, zite_e, zbite_e, zif_e, znot_e, z_add, z_sub, z_mul, z_and, z_or, z_xor, z_shl, z_shr, zcpy, -List.getElem?_cons_succ, zg_0, zg_1, zg_2, zg_3, zg_4, zg_5, zg_6, zg_7, zg_8, zg_9, zc_lt, zc_le, zc_gt, zc_ge, zc_eq, zc_ne, zc_lt0, zc_ge0, zc_gt0, zc_eq0, zc_ne0, zb_ne, zb_eq, zb_01, z_00, z_01, z_11, zb_f, zb_T, zb_F, zbm1, zbm2, zbm5, zbm6, zbm3, zbm4, nI_clamp, zmod_n, pk_div, nI_ne0, pk_mul, nI_add, nI_1, zt_0, zt_12, zt_20, zt_26, zt_32, zf_0_0, zf_0_1, zf_0_2, zf_0_3, zf_0_4, zf_12_0, zf_12_1, zf_12_2, zf_12_4, zf_12_5, zf_20_1, zf_20_2, zf_20_3, zf_20_4, zf_20_6, zf_26_0, zf_26_1, zf_26_2, zf_26_3, zf_32_0, zf_32_1, zf_32_3, zf_32_4, zf_32_5, zf_32_6, zi_33, h.1]
def cset (c : tC) (a b v : Nat) : tC := fun x y => if x = a ∧ y = b then v else c x y
theorem kT_cset {M : zM} {k n a b v : Nat} {c : tC} (h8 : n ≤ 8) (ha : a < n) (hb : b < n) (h : kT M k n c) : kT (zup M (k + 1) (8 * a + b) (zcl (-1) v)) k n (cset c a b v) := by
  refine ⟨by rw [zup_e, if_neg (by omega)]; exact h.1, fun x y hx hy => ?_⟩
  rw [zup_e]
  unfold cset
  by_cases g : x = a ∧ y = b
  · rw [if_pos g, if_pos (by omega)]
  · rw [if_neg g, if_neg (by omega)]
    exact h.2 x y hx hy
theorem rT_cset {M : zM} {t n a b v : Nat} {c : tC} (h8 : n ≤ 8) (ha : a < n) (hb : b < n) (h : rT M t n c) : rT (zup M 34 (64 * t + 8 * a + b) (zcl (-4) v)) t n (cset c a b v) := by
  refine ⟨by rw [zup_e, if_neg (by omega)]; exact h.1, fun x y hx hy => ?_⟩
  rw [zup_e]
  unfold cset
  by_cases g : x = a ∧ y = b
  · rw [if_pos g, if_pos (by omega)]
  · rw [if_neg g, if_neg (by omega)]
    exact h.2 x y hx hy
theorem tO_cset {n a b v : Nat} {c : tC} (h : tO n c) (ha : 1 ≤ a ∧ a < n) (hb : 1 ≤ b ∧ b < n) (hv : v = 8 ∨ (v < n ∧ ∀ x, x < n → c a x ≠ v ∧ c x b ≠ v)) : tO n (cset c a b v) := by
  obtain ⟨h1, h2, h3, h4, h5⟩ := h
  refine ⟨h1, fun x hx => ?_, fun x y hx hy => ?_, fun x y z hx hy hz g1 g2 => ?_, fun x y z hx hy hz g1 g2 => ?_⟩
  · unfold cset
    rw [if_neg (by omega), if_neg (by omega)]
    exact h2 x hx
  · unfold cset
    split
    · rcases hv with g | g
      · exact Or.inr g
      · exact Or.inl g.1
    · exact h3 x y hx hy
  · unfold cset at g1 g2
    by_cases e1 : x = a ∧ y = b
    · rw [if_pos e1] at g1 g2
      by_cases e2 : x = a ∧ z = b
      · omega
      · rw [if_neg e2] at g1
        rcases hv with g | g
        · omega
        · exact absurd g1.symm (by rw [e1.1]; exact (g.2 z hz).1)
    · rw [if_neg e1] at g1 g2
      by_cases e2 : x = a ∧ z = b
      · rw [if_pos e2] at g1
        rcases hv with g | g
        · omega
        · exact absurd g1 (by rw [e2.1]; exact (g.2 y hy).1)
      · rw [if_neg e2] at g1
        exact h4 x y z hx hy hz g1 g2
  · unfold cset at g1 g2
    by_cases e1 : x = a ∧ z = b
    · rw [if_pos e1] at g1 g2
      by_cases e2 : y = a ∧ z = b
      · omega
      · rw [if_neg e2] at g1
        rcases hv with g | g
        · omega
        · exact absurd g1.symm (by rw [e1.2]; exact (g.2 y hy).2)
    · rw [if_neg e1] at g1 g2
      by_cases e2 : y = a ∧ z = b
      · rw [if_pos e2] at g1
        rcases hv with g | g
        · omega
        · exact absurd g1 (by rw [e2.2]; exact (g.2 x hx).2)
      · rw [if_neg e2] at g1
        exact h5 x y z hx hy hz g1 g2
/-- v stands in row a or column b -/
def tIn (n : Nat) (c : tC) (a b v : Nat) : Bool := decide (zidx (fun x => decide (c a x = v) || decide (c x b = v)) 0 n < n)
theorem tIn_iff {n a b v : Nat} {c : tC} : tIn n c a b v = true ↔ ∃ x, x < n ∧ (c a x = v ∨ c x b = v) := by
  unfold tIn
  rw [decide_eq_true_eq]
  constructor
  · intro h
    have := zidx_lt (p := fun x => decide (c a x = v) || decide (c x b = v)) n 0 (by omega)
    simp only [Bool.or_eq_true, decide_eq_true_eq] at this
    exact ⟨_, h, this⟩
  · rintro ⟨x, hx, h⟩
    rcases Nat.lt_or_ge (zidx (fun x => decide (c a x = v) || decide (c x b = v)) 0 n) n with g | g
    · exact g
    · have := zidx_no (p := fun x => decide (c a x = v) || decide (c x b = v)) n 0 x (by omega) (by omega)
      simp only [Bool.or_eq_false_iff, decide_eq_false_iff_not] at this
      rcases h with h | h
      · exact absurd h this.1
      · exact absurd h this.2
theorem tSt_in {n a b v : Nat} {c : tC} (h : tO n c) (ha : a < n) (hb : b < n) (hv : v < n) : zany (tSt n c a b v) n = (tIn n c a b v && !decide (c a b = v)) := by
  have h8 := h.1.2
  rw [Bool.eq_iff_iff, Bool.and_eq_true, zany_t, tIn_iff]
  simp only [tSt, Bool.or_eq_true, Bool.and_eq_true, Bool.not_eq_true', decide_eq_false_iff_not, decide_eq_true_eq]
  constructor
  · rintro ⟨i, hi, g | g⟩
    · refine ⟨⟨i, hi, Or.inl g.2⟩, fun e => g.1 ?_⟩
      exact h.2.2.2.1 a i b ha hi hb (g.2.trans e.symm) (by omega)
    · refine ⟨⟨i, hi, Or.inr g.2⟩, fun e => g.1 ?_⟩
      exact h.2.2.2.2 i a b hi ha hb (g.2.trans e.symm) (by omega)
  · rintro ⟨⟨i, hi, g | g⟩, e⟩
    · exact ⟨i, hi, Or.inl ⟨fun q => e (by rw [← q]; exact g), g⟩⟩
    · exact ⟨i, hi, Or.inr ⟨fun q => e (by rw [← q]; exact g), g⟩⟩
def okSet (T : tS) (x y z v : Int32) : Bool := zlt x 4 && ((!decide (y = nI 0) && zlt y (T x.toNatClampNeg).1) && ((!decide (z = nI 0) && zlt z (T x.toNatClampNeg).1) && (decide (v = -1) || zlt v (T x.toNatClampNeg).1)))
def sSet1 (T : tS) (t a b : Nat) (v : Int32) : tS := if v = -1 then tset T t (T t).1 (cset (T t).2 a b 8) else bif tIn (T t).1 (T t).2 a b v.toNatClampNeg then T else tset T t (T t).1 (cset (T t).2 a b v.toNatClampNeg)
def sSet (T : tS) (x y z v : Int32) : tS := bif okSet T x y z v then sSet1 T x.toNatClampNeg y.toNatClampNeg z.toNatClampNeg v else T
theorem ze0 (y : Int32) : xe_cd .eq y 0 = decide (y = nI 0) := by rw [nI_0]; rfl
theorem zem (v : Int32) : xe_cd .ne v (-1) = !decide (v = -1) := rfl
theorem zinm (x : Int32) {m : Nat} (hm : m < 2 ^ 30) : (xe_cd .ge x (-1) && xe_cd .le x (nI m)) = (decide (x = -1) || zlt x (m + 1)) := by
  rw [zlt_i x (by omega), Bool.eq_iff_iff]
  have e1 : (-1 : Int32).toInt = -1 := by decide
  simp only [xe_cd, Bool.and_eq_true, Bool.or_eq_true, decide_eq_true_eq, Int32.le_iff_toInt_le, nI_toInt (n := m) (by omega), e1, ← Int32.toInt_inj]
  omega
theorem CS_cset {T : tS} {M : zM} {t a b v : Nat} (hT : TO T) (ht : t < 4) (ha : a < (T t).1) (hb : b < (T t).1) (hC : CS T M) : CS (tset T t (T t).1 (cset (T t).2 a b v)) (zup M (2 + 2 * t + 1) (8 * a + b) (zcl (-1) v)) := by
  intro u hu
  unfold tset
  by_cases h : u = t
  · subst h
    simp only [if_true]
    exact kT_cset (hT u hu).1.2 ha hb (hC u hu)
  · rw [if_neg h]
    exact (hC u hu).same (fun j => by rw [zup_e, if_neg (by omega)]) (fun j => by rw [zup_e, if_neg (by omega)])
theorem RS_cset {T : tS} {M : zM} {t a b v : Nat} (hT : TO T) (ht : t < 4) (ha : a < (T t).1) (hb : b < (T t).1) (hR : RS T M) : RS (tset T t (T t).1 (cset (T t).2 a b v)) (zup M 34 (64 * t + 8 * a + b) (zcl (-4) v)) := by
  intro u hu
  have h8 := (hT t ht).1.2
  unfold tset
  by_cases h : u = t
  · subst h
    simp only [if_true]
    exact rT_cset h8 ha hb (hR u hu)
  · rw [if_neg h]
    exact (hR u hu).same (hT u hu).1.2 (by rw [zup_e, if_neg (by omega)]) (fun j g1 g2 => by rw [zup_e, if_neg (by omega)])
theorem qL_set {T : tS} {M : zM} (x y z v : Int32) (hC : CS T M) (hT : TO T) : ∃ r M', zf_L_set [.ref 0, .int x, .int y, .int z, .int v] M = some (some r, M') ∧ CS (sSet T x y z v) M' ∧ zhi M M' := by
  rcases z3 x (n := 4) (by decide) with h | ⟨t, ht, rfl⟩
  · refine ⟨-1, M, ?_, by simpa [sSet, okSet, h] using hC, zhi.refl M⟩
    simp [zf_L_set, zmeth, xm_en, zret, zretz, zretv, zseq, zst, zinc, zkl, zskip, zk, zi, za, zbin, zdiv, zrem, zgi, zgr, zld, zldr, zlen, zn, zc, zcall, zcallv, zrcv, zdo, zdov, zpf, zpfc, zas, zasc, zmin, zmax, zcmp, zcz, zand_e, zor_e, zite_e, zbite_e, zif_e, znot_e, z_add, z_sub, z_mul, z_and, z_or, z_xor, z_shl, z_shr, zcpy, -List.getElem?_cons_succ, zg_0, zg_1, zg_2, zg_3, zg_4, zg_5, zg_6, zg_7, zg_8, zg_9, qL_isTable, zb_ne, h]
  · have e := zlt_y ht (by decide)
    have h8 := (hT t ht).1.2
    have ct : (nI t).toNatClampNeg = t := nI_clamp (by omega)
    have bad : okSet T (nI t) y z v = false → CS (sSet T (nI t) y z v) M := fun h => by simpa [sSet, h] using hC
    cases hy : decide (y = nI 0) with
    | true =>
      refine ⟨-1, M, ?_, bad (by simp [okSet, hy]), zhi.refl M⟩
      simp [zf_L_set, zmeth, xm_en, zret, zretz, zretv, zseq, zst, zinc, zkl, zskip, zk, zi, za, zbin, zdiv, zrem, zgi, zgr, zld, zldr, zlen, zn, zc, zcall, zcallv, zrcv, zdo, zdov, zpf, zpfc, zas, zasc, zmin, zmax, zcmp, zcz, zand_e, zor_e, zite_e, zbite_e, zif_e, znot_e, z_add, z_sub, z_mul, z_and, z_or, z_xor, z_shl, z_shr, zcpy, -List.getElem?_cons_succ, zg_0, zg_1, zg_2, zg_3, zg_4, zg_5, zg_6, zg_7, zg_8, zg_9, qL_isTable, zb_ne, e, ze0, hy]
    | false =>
    cases hz : decide (z = nI 0) with
    | true =>
      refine ⟨-1, M, ?_, bad (by simp [okSet, hz]), zhi.refl M⟩
      simp [zf_L_set, zmeth, xm_en, zret, zretz, zretv, zseq, zst, zinc, zkl, zskip, zk, zi, za, zbin, zdiv, zrem, zgi, zgr, zld, zldr, zlen, zn, zc, zcall, zcallv, zrcv, zdo, zdov, zpf, zpfc, zas, zasc, zmin, zmax, zcmp, zcz, zand_e, zor_e, zite_e, zbite_e, zif_e, znot_e, z_add, z_sub, z_mul, z_and, z_or, z_xor, z_shl, z_shr, zcpy, -List.getElem?_cons_succ, zg_0, zg_1, zg_2, zg_3, zg_4, zg_5, zg_6, zg_7, zg_8, zg_9, qL_isTable, zb_ne, e, ze0, hy, hz]
    | false =>
    rcases z3 y (n := (T t).1) (by omega) with h1 | ⟨a, ha, rfl⟩
    · refine ⟨-1, M, ?_, bad (by simp [okSet, ct, h1]), zhi.refl M⟩
      simp [zf_L_set, zmeth, xm_en, zret, zretz, zretv, zseq, zst, zinc, zkl, zskip, zk, zi, za, zbin, zdiv, zrem, zgi, zgr, zld, zldr, zlen, zn, zc, zcall, zcallv, zrcv, zdo, zdov, zpf, zpfc, zas, zasc, zmin, zmax, zcmp, zcz, zand_e, zor_e, zite_e, zbite_e, zif_e, znot_e, z_add, z_sub, z_mul, z_and, z_or, z_xor, z_shl, z_shr, zcpy, -List.getElem?_cons_succ, zg_0, zg_1, zg_2, zg_3, zg_4, zg_5, zg_6, zg_7, zg_8, zg_9, zt_0, zt_12, zt_20, zt_26, zt_32, zf_0_0, zf_0_1, zf_0_2, zf_0_3, zf_0_4, zf_12_0, zf_12_1, zf_12_2, zf_12_4, zf_12_5, zf_20_1, zf_20_2, zf_20_3, zf_20_4, zf_20_6, zf_26_0, zf_26_1, zf_26_2, zf_26_3, zf_32_0, zf_32_1, zf_32_3, zf_32_4, zf_32_5, zf_32_6, qL_isTable, zb_ne, e, ze0, hy, hz, qL_isElement hC ht, h1]
    · have e1 := zlt_y ha (by omega)
      rcases z3 z (n := (T t).1) (by omega) with h2 | ⟨b, hb, rfl⟩
      · refine ⟨-1, M, ?_, bad (by simp [okSet, ct, h2]), zhi.refl M⟩
        simp [zf_L_set, zmeth, xm_en, zret, zretz, zretv, zseq, zst, zinc, zkl, zskip, zk, zi, za, zbin, zdiv, zrem, zgi, zgr, zld, zldr, zlen, zn, zc, zcall, zcallv, zrcv, zdo, zdov, zpf, zpfc, zas, zasc, zmin, zmax, zcmp, zcz, zand_e, zor_e, zite_e, zbite_e, zif_e, znot_e, z_add, z_sub, z_mul, z_and, z_or, z_xor, z_shl, z_shr, zcpy, -List.getElem?_cons_succ, zg_0, zg_1, zg_2, zg_3, zg_4, zg_5, zg_6, zg_7, zg_8, zg_9, zt_0, zt_12, zt_20, zt_26, zt_32, zf_0_0, zf_0_1, zf_0_2, zf_0_3, zf_0_4, zf_12_0, zf_12_1, zf_12_2, zf_12_4, zf_12_5, zf_20_1, zf_20_2, zf_20_3, zf_20_4, zf_20_6, zf_26_0, zf_26_1, zf_26_2, zf_26_3, zf_32_0, zf_32_1, zf_32_3, zf_32_4, zf_32_5, zf_32_6, qL_isTable, zb_ne, e, ze0, hy, hz, qL_isElement hC ht, e1, h2]
      · have e2 := zlt_y hb (by omega)
        have ca : (nI a).toNatClampNeg = a := nI_clamp (by omega)
        have cb : (nI b).toNatClampNeg = b := nI_clamp (by omega)
        have hn := (hC t ht).1
        cases hv : decide (v = -1) with
        | true =>
          have hv1 : v = -1 := by simpa using hv
          have hok : okSet T (nI t) (nI a) (nI b) v = true := by simp [okSet, ct, e, e1, e2, hy, hz, hv]
          refine ⟨zcl (-4) ((T t).2 a b), zup M (2 + 2 * t + 1) (8 * a + b) (zcl (-1) 8), ?_, ?_, fun k j hk => by rw [zup_e, if_neg (by omega)]⟩
          · have ez : zcl (-1) 8 = v := by rw [hv1]; rfl
            rw [ez]
            simp (disch := omega) [zf_L_set, zmeth, xm_en, zret, zretz, zretv, zseq, zst, zinc, zkl, zskip, zk, zi, za, zbin, zdiv, zrem, zgi, zgr, zld, zldr, zlen, zn, zc, zcall, zcallv, zrcv, zdo, zdov, zpf, zpfc, zas, zasc, zmin, zmax, zcmp, zcz, zand_e, zor_e, zite_e, zbite_e, zif_e, znot_e, z_add, z_sub, z_mul, z_and, z_or, z_xor, z_shl, z_shr, zcpy, -List.getElem?_cons_succ, zg_0, zg_1, zg_2, zg_3, zg_4, zg_5, zg_6, zg_7, zg_8, zg_9, zt_0, zt_12, zt_20, zt_26, zt_32, zf_0_0, zf_0_1, zf_0_2, zf_0_3, zf_0_4, zf_12_0, zf_12_1, zf_12_2, zf_12_4, zf_12_5, zf_20_1, zf_20_2, zf_20_3, zf_20_4, zf_20_6, zf_26_0, zf_26_1, zf_26_2, zf_26_3, zf_32_0, zf_32_1, zf_32_3, zf_32_4, zf_32_5, zf_32_6, qL_isTable, zb_ne, e, ze0, zem, hy, hz, qL_isElement hC ht, e1, e2, hv, zi_1, zf_1, nI_clamp, ztb_tag (tb4 ht), qT_cell (tb4 ht) (hC t ht) h8 ha hb, qT_put (tb4 ht) hn h8 ha hb, qL_orNone]
          · simp only [sSet, hok, cond_true, ct, ca, cb, sSet1, if_pos hv1]
            exact CS_cset hT ht ha hb hC
        | false =>
          have hv1 : ¬ v = -1 := by simpa using hv
          rcases z3 v (n := (T t).1) (by omega) with h3 | ⟨w, hw, rfl⟩
          · refine ⟨-1, M, ?_, bad (by simp [okSet, ct, h3, hv]), zhi.refl M⟩
            simp [zf_L_set, zmeth, xm_en, zret, zretz, zretv, zseq, zst, zinc, zkl, zskip, zk, zi, za, zbin, zdiv, zrem, zgi, zgr, zld, zldr, zlen, zn, zc, zcall, zcallv, zrcv, zdo, zdov, zpf, zpfc, zas, zasc, zmin, zmax, zcmp, zcz, zand_e, zor_e, zite_e, zbite_e, zif_e, znot_e, z_add, z_sub, z_mul, z_and, z_or, z_xor, z_shl, z_shr, zcpy, -List.getElem?_cons_succ, zg_0, zg_1, zg_2, zg_3, zg_4, zg_5, zg_6, zg_7, zg_8, zg_9, zt_0, zt_12, zt_20, zt_26, zt_32, zf_0_0, zf_0_1, zf_0_2, zf_0_3, zf_0_4, zf_12_0, zf_12_1, zf_12_2, zf_12_4, zf_12_5, zf_20_1, zf_20_2, zf_20_3, zf_20_4, zf_20_6, zf_26_0, zf_26_1, zf_26_2, zf_26_3, zf_32_0, zf_32_1, zf_32_3, zf_32_4, zf_32_5, zf_32_6, qL_isTable, zb_ne, e, ze0, zem, hy, hz, qL_isElement hC ht, e1, e2, h3, hv]
          · have e3 := zlt_y hw (by omega)
            have cw : (nI w).toNatClampNeg = w := nI_clamp (by omega)
            have hok : okSet T (nI t) (nI a) (nI b) (nI w) = true := by simp [okSet, ct, e, e1, e2, e3, hy, hz]
            cases hin : tIn (T t).1 (T t).2 a b w with
            | true =>
              refine ⟨-2, M, ?_, ?_, zhi.refl M⟩
              · have hin2 := hin
                unfold tIn at hin2
                simp (disch := omega) [zf_L_set, zmeth, xm_en, zret, zretz, zretv, zseq, zst, zinc, zkl, zskip, zk, zi, za, zbin, zdiv, zrem, zgi, zgr, zld, zldr, zlen, zn, zc, zcall, zcallv, zrcv, zdo, zdov, zpf, zpfc, zas, zasc, zmin, zmax, zcmp, zcz, zand_e, zor_e, zite_e, zbite_e, zif_e, znot_e, z_add, z_sub, z_mul, z_and, z_or, z_xor, z_shl, z_shr, zcpy, -List.getElem?_cons_succ, zg_0, zg_1, zg_2, zg_3, zg_4, zg_5, zg_6, zg_7, zg_8, zg_9, zt_0, zt_12, zt_20, zt_26, zt_32, zf_0_0, zf_0_1, zf_0_2, zf_0_3, zf_0_4, zf_12_0, zf_12_1, zf_12_2, zf_12_4, zf_12_5, zf_20_1, zf_20_2, zf_20_3, zf_20_4, zf_20_6, zf_26_0, zf_26_1, zf_26_2, zf_26_3, zf_32_0, zf_32_1, zf_32_3, zf_32_4, zf_32_5, zf_32_6, qL_isTable, zb_ne, e, ze0, zem, hy, hz, qL_isElement hC ht, e1, e2, e3, hv, zi_1, zf_1, nI_clamp, ztb_tag (tb4 ht), qT_hasInLines (tb4 ht) (hC t ht) h8 ha hb (show w < 8 by omega), hin2]
              · simp only [sSet, hok, cond_true, ct, ca, cb, cw, sSet1, if_neg hv1, hin]
                exact hC
            | false =>
              refine ⟨zcl (-4) ((T t).2 a b), zup M (2 + 2 * t + 1) (8 * a + b) (zcl (-1) w), ?_, ?_, fun k j hk => by rw [zup_e, if_neg (by omega)]⟩
              · have hin2 := hin
                unfold tIn at hin2
                rw [zcl_lt (show w < 8 by omega)]
                simp (disch := omega) [zf_L_set, zmeth, xm_en, zret, zretz, zretv, zseq, zst, zinc, zkl, zskip, zk, zi, za, zbin, zdiv, zrem, zgi, zgr, zld, zldr, zlen, zn, zc, zcall, zcallv, zrcv, zdo, zdov, zpf, zpfc, zas, zasc, zmin, zmax, zcmp, zcz, zand_e, zor_e, zite_e, zbite_e, zif_e, znot_e, z_add, z_sub, z_mul, z_and, z_or, z_xor, z_shl, z_shr, zcpy, -List.getElem?_cons_succ, zg_0, zg_1, zg_2, zg_3, zg_4, zg_5, zg_6, zg_7, zg_8, zg_9, zt_0, zt_12, zt_20, zt_26, zt_32, zf_0_0, zf_0_1, zf_0_2, zf_0_3, zf_0_4, zf_12_0, zf_12_1, zf_12_2, zf_12_4, zf_12_5, zf_20_1, zf_20_2, zf_20_3, zf_20_4, zf_20_6, zf_26_0, zf_26_1, zf_26_2, zf_26_3, zf_32_0, zf_32_1, zf_32_3, zf_32_4, zf_32_5, zf_32_6, qL_isTable, zb_ne, e, ze0, zem, hy, hz, qL_isElement hC ht, e1, e2, e3, hv, zi_1, zf_1, nI_clamp, ztb_tag (tb4 ht), qT_hasInLines (tb4 ht) (hC t ht) h8 ha hb (show w < 8 by omega), hin2, qT_cell (tb4 ht) (hC t ht) h8 ha hb, qT_put (tb4 ht) hn h8 ha hb, qL_orNone]
              · simp only [sSet, hok, cond_true, ct, ca, cb, cw, sSet1, if_neg hv1, hin, cond_false]
                exact CS_cset hT ht ha hb hC
theorem zup_id {M : zM} {k j : Nat} {x : Int32} (h : M k j = x) : zup M k j x = M := by
  funext q i
  rw [zup_e]
  split
  · rename_i g
    rw [g.1, g.2, h]
  · rfl
theorem qM_set {T : tS} {M : zM} (x y z v : Int32) (hR : RS T M) (hT : TO T) : ∃ r M', zf_M_set [.ref 32, .int x, .int y, .int z, .int v] M = some (some r, M') ∧ RS (sSet T x y z v) M' ∧ TO (sSet T x y z v) ∧ zlo M M' := by
  rcases z3 x (n := 4) (by decide) with h | ⟨t, ht, rfl⟩
  · refine ⟨-1, M, ?_, by simpa [sSet, okSet, h] using hR, by simpa [sSet, okSet, h] using hT, zlo.refl M⟩
    simp [zf_M_set, zmeth, xm_en, zret, zretz, zretv, zseq, zst, zinc, zkl, zskip, zk, zi, za, zbin, zdiv, zrem, zgi, zgr, zld, zldr, zlen, zn, zc, zcall, zcallv, zrcv, zdo, zdov, zpf, zpfc, zas, zasc, zmin, zmax, zcmp, zcz, zand_e, zor_e, zite_e, zbite_e, zif_e, znot_e, z_add, z_sub, z_mul, z_and, z_or, z_xor, z_shl, z_shr, zcpy, -List.getElem?_cons_succ, zg_0, zg_1, zg_2, zg_3, zg_4, zg_5, zg_6, zg_7, zg_8, zg_9, qM_isTable, zb_ne, h]
  · have e := zlt_y ht (by decide)
    have h8 := (hT t ht).1.2
    have h18 := (hT t ht).1.1
    have en : (T t).1 - 1 + 1 = (T t).1 := by omega
    have hsz := (hR t ht).1
    have ct : (nI t).toNatClampNeg = t := nI_clamp (by omega)
    have bad : okSet T (nI t) y z v = false → RS (sSet T (nI t) y z v) M ∧ TO (sSet T (nI t) y z v) ∧ zlo M M := fun h => ⟨by simpa [sSet, h] using hR, by simpa [sSet, h] using hT, zlo.refl M⟩
    have b1 : ∀ q : Int32, zf_M_in [.int q, .int (nI 1), .int (nI ((T t).1 - 1))] M = some (some (zb (zlt q (T t).1 && !decide (q = nI 0))), M) := fun q => by rw [qM_in, zin1 q (by omega), en]
    have b2 : ∀ q : Int32, zf_M_in [.int q, .int (-1), .int (nI ((T t).1 - 1))] M = some (some (zb (decide (q = -1) || zlt q (T t).1)), M) := fun q => by rw [qM_in, zinm q (by omega), en]
    cases hok : okSet T (nI t) y z v with
    | false =>
      refine ⟨-1, M, ?_, bad hok⟩
      unfold okSet at hok
      rw [e, ct, Bool.true_and] at hok
      cases p1 : zlt y (T t).1 && !decide (y = nI 0) with
      | false => simp (disch := omega) [zf_M_set, zmeth, xm_en, zret, zretz, zretv, zseq, zst, zinc, zkl, zskip, zk, zi, za, zbin, zdiv, zrem, zgi, zgr, zld, zldr, zlen, zn, zc, zcall, zcallv, zrcv, zdo, zdov, zpf, zpfc, zas, zasc, zmin, zmax, zcmp, zcz, zand_e, zor_e, zite_e, zbite_e, zif_e, znot_e, z_add, z_sub, z_mul, z_and, z_or, z_xor, z_shl, z_shr, zcpy, -List.getElem?_cons_succ, zg_0, zg_1, zg_2, zg_3, zg_4, zg_5, zg_6, zg_7, zg_8, zg_9, zt_0, zt_12, zt_20, zt_26, zt_32, zf_0_0, zf_0_1, zf_0_2, zf_0_3, zf_0_4, zf_12_0, zf_12_1, zf_12_2, zf_12_4, zf_12_5, zf_20_1, zf_20_2, zf_20_3, zf_20_4, zf_20_6, zf_26_0, zf_26_1, zf_26_2, zf_26_3, zf_32_0, zf_32_1, zf_32_3, zf_32_4, zf_32_5, zf_32_6, qM_isTable, zb_ne, e, zi_33, nI_clamp, hsz, nI_m1, b1, b2, p1]
      | true =>
        cases p2 : zlt z (T t).1 && !decide (z = nI 0) with
        | false => simp (disch := omega) [zf_M_set, zmeth, xm_en, zret, zretz, zretv, zseq, zst, zinc, zkl, zskip, zk, zi, za, zbin, zdiv, zrem, zgi, zgr, zld, zldr, zlen, zn, zc, zcall, zcallv, zrcv, zdo, zdov, zpf, zpfc, zas, zasc, zmin, zmax, zcmp, zcz, zand_e, zor_e, zite_e, zbite_e, zif_e, znot_e, z_add, z_sub, z_mul, z_and, z_or, z_xor, z_shl, z_shr, zcpy, -List.getElem?_cons_succ, zg_0, zg_1, zg_2, zg_3, zg_4, zg_5, zg_6, zg_7, zg_8, zg_9, zt_0, zt_12, zt_20, zt_26, zt_32, zf_0_0, zf_0_1, zf_0_2, zf_0_3, zf_0_4, zf_12_0, zf_12_1, zf_12_2, zf_12_4, zf_12_5, zf_20_1, zf_20_2, zf_20_3, zf_20_4, zf_20_6, zf_26_0, zf_26_1, zf_26_2, zf_26_3, zf_32_0, zf_32_1, zf_32_3, zf_32_4, zf_32_5, zf_32_6, qM_isTable, zb_ne, e, zi_33, nI_clamp, hsz, nI_m1, b1, b2, p1, p2]
        | true =>
          have p3 : (decide (v = -1) || zlt v (T t).1) = false := by
            rw [Bool.and_comm (!decide (y = nI 0)), p1, Bool.and_comm (!decide (z = nI 0)), p2] at hok
            simpa using hok
          simp (disch := omega) [zf_M_set, zmeth, xm_en, zret, zretz, zretv, zseq, zst, zinc, zkl, zskip, zk, zi, za, zbin, zdiv, zrem, zgi, zgr, zld, zldr, zlen, zn, zc, zcall, zcallv, zrcv, zdo, zdov, zpf, zpfc, zas, zasc, zmin, zmax, zcmp, zcz, zand_e, zor_e, zite_e, zbite_e, zif_e, znot_e, z_add, z_sub, z_mul, z_and, z_or, z_xor, z_shl, z_shr, zcpy, -List.getElem?_cons_succ, zg_0, zg_1, zg_2, zg_3, zg_4, zg_5, zg_6, zg_7, zg_8, zg_9, zt_0, zt_12, zt_20, zt_26, zt_32, zf_0_0, zf_0_1, zf_0_2, zf_0_3, zf_0_4, zf_12_0, zf_12_1, zf_12_2, zf_12_4, zf_12_5, zf_20_1, zf_20_2, zf_20_3, zf_20_4, zf_20_6, zf_26_0, zf_26_1, zf_26_2, zf_26_3, zf_32_0, zf_32_1, zf_32_3, zf_32_4, zf_32_5, zf_32_6, qM_isTable, zb_ne, e, zi_33, nI_clamp, hsz, nI_m1, b1, b2, p1, p2, p3]
    | true =>
      have hok0 := hok
      unfold okSet at hok
      rw [e, ct, Bool.true_and] at hok
      simp only [Bool.and_eq_true] at hok
      obtain ⟨⟨g1, g2⟩, ⟨g3, g4⟩, g5⟩ := hok
      obtain ⟨a, ha, rfl⟩ := zlt_t (by omega) g2
      obtain ⟨b, hb, rfl⟩ := zlt_t (by omega) g4
      have ca : (nI a).toNatClampNeg = a := nI_clamp (by omega)
      have cb : (nI b).toNatClampNeg = b := nI_clamp (by omega)
      have ha1 : 1 ≤ a := by
        rcases Nat.eq_zero_or_pos a with q | q
        · rw [q] at g1; simp at g1
        · exact q
      have hb1 : 1 ≤ b := by
        rcases Nat.eq_zero_or_pos b with q | q
        · rw [q] at g3; simp at g3
        · exact q
      cases hv : decide (v = -1) with
      | true =>
        have hv1 : v = -1 := by simpa using hv
        subst hv1
        have es : sSet T (nI t) (nI a) (nI b) (-1) = tset T t (T t).1 (cset (T t).2 a b 8) := by simp only [sSet, hok0, cond_true, ct, ca, cb, sSet1, if_true]
        rw [es]
        refine ⟨zcl (-4) ((T t).2 a b), zup M 34 (64 * t + 8 * a + b) (zcl (-4) 8), ?_, RS_cset hT ht ha hb hR, TO_set hT (tO_cset (hT t ht) ⟨ha1, ha⟩ ⟨hb1, hb⟩ (Or.inl rfl)), fun k j hk => by rw [zup_e, if_neg (by omega)]⟩
        have ez : zcl (-4) 8 = -4 := rfl
        have em : xe_cd .ge (-1) 0 = false := by decide
        have em2 : xe_cd .lt (-1) 0 = true := by decide
        rw [ez]
        simp (disch := omega) [zf_M_set, zmeth, xm_en, zret, zretz, zretv, zseq, zst, zinc, zkl, zskip, zk, zi, za, zbin, zdiv, zrem, zgi, zgr, zld, zldr, zlen, zn, zc, zcall, zcallv, zrcv, zdo, zdov, zpf, zpfc, zas, zasc, zmin, zmax, zcmp, zcz, zand_e, zor_e, zite_e, zbite_e, zif_e, znot_e, z_add, z_sub, z_mul, z_and, z_or, z_xor, z_shl, z_shr, zcpy, -List.getElem?_cons_succ, zg_0, zg_1, zg_2, zg_3, zg_4, zg_5, zg_6, zg_7, zg_8, zg_9, zt_0, zt_12, zt_20, zt_26, zt_32, zf_0_0, zf_0_1, zf_0_2, zf_0_3, zf_0_4, zf_12_0, zf_12_1, zf_12_2, zf_12_4, zf_12_5, zf_20_1, zf_20_2, zf_20_3, zf_20_4, zf_20_6, zf_26_0, zf_26_1, zf_26_2, zf_26_3, zf_32_0, zf_32_1, zf_32_3, zf_32_4, zf_32_5, zf_32_6, qM_isTable, zb_ne, e, zi_33, nI_clamp, hsz, nI_m1, b1, b2, g1, g2, g3, g4, em, em2, qM_rcell (show t < 6 by omega) (hR t ht) h8 ha hb, qM_puts]
      | false =>
        have hv1 : ¬ v = -1 := by simpa using hv
        rw [hv, Bool.false_or] at g5
        obtain ⟨w, hw, rfl⟩ := zlt_t (by omega) g5
        have cw : (nI w).toNatClampNeg = w := nI_clamp (by omega)
        have hst := qM_stands (M := M) (w := w) (show t < 6 by omega) (hR t ht) h8 ha hb (by omega)
        rw [tSt_in (hT t ht) ha hb hw] at hst
        cases hin : tIn (T t).1 (T t).2 a b w with
        | true =>
          have es : sSet T (nI t) (nI a) (nI b) (nI w) = T := by simp only [sSet, hok0, cond_true, ct, ca, cb, cw, sSet1, if_neg hv1, hin]
          rw [es]
          by_cases hc : (T t).2 a b = w
          · refine ⟨nI w, M, ?_, hR, hT, zlo.refl M⟩
            have hce := (hR t ht).2 a b ha hb
            rw [hc, zcl_lt (show w < 8 by omega)] at hce
            have hz := zup_id hce
            have hr := qM_rcell (M := M) (show t < 6 by omega) (hR t ht) h8 ha hb
            rw [hc, zcl_lt (show w < 8 by omega)] at hr
            simp (disch := omega) [zf_M_set, zmeth, xm_en, zret, zretz, zretv, zseq, zst, zinc, zkl, zskip, zk, zi, za, zbin, zdiv, zrem, zgi, zgr, zld, zldr, zlen, zn, zc, zcall, zcallv, zrcv, zdo, zdov, zpf, zpfc, zas, zasc, zmin, zmax, zcmp, zcz, zand_e, zor_e, zite_e, zbite_e, zif_e, znot_e, z_add, z_sub, z_mul, z_and, z_or, z_xor, z_shl, z_shr, zcpy, -List.getElem?_cons_succ, zg_0, zg_1, zg_2, zg_3, zg_4, zg_5, zg_6, zg_7, zg_8, zg_9, zt_0, zt_12, zt_20, zt_26, zt_32, zf_0_0, zf_0_1, zf_0_2, zf_0_3, zf_0_4, zf_12_0, zf_12_1, zf_12_2, zf_12_4, zf_12_5, zf_20_1, zf_20_2, zf_20_3, zf_20_4, zf_20_6, zf_26_0, zf_26_1, zf_26_2, zf_26_3, zf_32_0, zf_32_1, zf_32_3, zf_32_4, zf_32_5, zf_32_6, qM_isTable, zb_ne, e, zi_33, nI_clamp, hsz, nI_m1, b1, b2, g1, g2, g3, g4, g5, hst, hin, hc, zc_ge0, zc_lt0, hr, qM_puts, hz]
          · refine ⟨-2, M, ?_, hR, hT, zlo.refl M⟩
            simp (disch := omega) [zf_M_set, zmeth, xm_en, zret, zretz, zretv, zseq, zst, zinc, zkl, zskip, zk, zi, za, zbin, zdiv, zrem, zgi, zgr, zld, zldr, zlen, zn, zc, zcall, zcallv, zrcv, zdo, zdov, zpf, zpfc, zas, zasc, zmin, zmax, zcmp, zcz, zand_e, zor_e, zite_e, zbite_e, zif_e, znot_e, z_add, z_sub, z_mul, z_and, z_or, z_xor, z_shl, z_shr, zcpy, -List.getElem?_cons_succ, zg_0, zg_1, zg_2, zg_3, zg_4, zg_5, zg_6, zg_7, zg_8, zg_9, zt_0, zt_12, zt_20, zt_26, zt_32, zf_0_0, zf_0_1, zf_0_2, zf_0_3, zf_0_4, zf_12_0, zf_12_1, zf_12_2, zf_12_4, zf_12_5, zf_20_1, zf_20_2, zf_20_3, zf_20_4, zf_20_6, zf_26_0, zf_26_1, zf_26_2, zf_26_3, zf_32_0, zf_32_1, zf_32_3, zf_32_4, zf_32_5, zf_32_6, qM_isTable, zb_ne, e, zi_33, nI_clamp, hsz, nI_m1, b1, b2, g1, g2, g3, g4, g5, hst, hin, hc, zc_ge0]
        | false =>
          have es : sSet T (nI t) (nI a) (nI b) (nI w) = tset T t (T t).1 (cset (T t).2 a b w) := by simp only [sSet, hok0, cond_true, ct, ca, cb, cw, sSet1, if_neg hv1, hin, cond_false]
          rw [es]
          have hni : ∀ x, x < (T t).1 → (T t).2 a x ≠ w ∧ (T t).2 x b ≠ w := fun x hx => by
            have : ¬ ∃ x, x < (T t).1 ∧ ((T t).2 a x = w ∨ (T t).2 x b = w) := fun q => by
              rw [tIn_iff.mpr q] at hin
              cases hin
            exact ⟨fun q => this ⟨x, hx, Or.inl q⟩, fun q => this ⟨x, hx, Or.inr q⟩⟩
          refine ⟨zcl (-4) ((T t).2 a b), zup M 34 (64 * t + 8 * a + b) (zcl (-4) w), ?_, RS_cset hT ht ha hb hR, TO_set hT (tO_cset (hT t ht) ⟨ha1, ha⟩ ⟨hb1, hb⟩ (Or.inr ⟨hw, hni⟩)), fun k j hk => by rw [zup_e, if_neg (by omega)]⟩
          rw [zcl_lt (show w < 8 by omega)]
          simp (disch := omega) [zf_M_set, zmeth, xm_en, zret, zretz, zretv, zseq, zst, zinc, zkl, zskip, zk, zi, za, zbin, zdiv, zrem, zgi, zgr, zld, zldr, zlen, zn, zc, zcall, zcallv, zrcv, zdo, zdov, zpf, zpfc, zas, zasc, zmin, zmax, zcmp, zcz, zand_e, zor_e, zite_e, zbite_e, zif_e, znot_e, z_add, z_sub, z_mul, z_and, z_or, z_xor, z_shl, z_shr, zcpy, -List.getElem?_cons_succ, zg_0, zg_1, zg_2, zg_3, zg_4, zg_5, zg_6, zg_7, zg_8, zg_9, zt_0, zt_12, zt_20, zt_26, zt_32, zf_0_0, zf_0_1, zf_0_2, zf_0_3, zf_0_4, zf_12_0, zf_12_1, zf_12_2, zf_12_4, zf_12_5, zf_20_1, zf_20_2, zf_20_3, zf_20_4, zf_20_6, zf_26_0, zf_26_1, zf_26_2, zf_26_3, zf_32_0, zf_32_1, zf_32_3, zf_32_4, zf_32_5, zf_32_6, qM_isTable, zb_ne, e, zi_33, nI_clamp, hsz, nI_m1, b1, b2, g1, g2, g3, g4, g5, hst, hin, zc_ge0, zc_lt0, qM_rcell (show t < 6 by omega) (hR t ht) h8 ha hb, qM_puts]
/-! doubled, product -/
def zkf (M : zM) (k n : Nat) (c : tC) (a b : Nat) : zM := fun q j => if q = k + 1 ∧ j < 64 ∧ j % 8 < n ∧ (j / 8 < a ∨ (j / 8 = a ∧ j % 8 < b)) then zcl (-1) (c (j / 8) (j % 8)) else M q j
theorem zkf_0 {M : zM} {k n : Nat} {c : tC} : zkf M k n c 0 0 = M := by
  funext q j
  unfold zkf
  rw [if_neg (by omega)]
theorem zkf_r {M : zM} {k n a : Nat} {c : tC} : zkf M k n c a n = zkf M k n c (a + 1) 0 := by
  funext q j
  unfold zkf
  have : (q = k + 1 ∧ j < 64 ∧ j % 8 < n ∧ (j / 8 < a ∨ (j / 8 = a ∧ j % 8 < n))) ↔ (q = k + 1 ∧ j < 64 ∧ j % 8 < n ∧ (j / 8 < a + 1 ∨ (j / 8 = a + 1 ∧ j % 8 < 0))) := by omega
  simp only [this]
theorem zkf_s {M : zM} {k n a b : Nat} {c : tC} (h8 : n ≤ 8) (ha : a < 8) (hb : b < n) : zup (zkf M k n c a b) (k + 1) (8 * a + b) (zcl (-1) (c a b)) = zkf M k n c a (b + 1) := by
  funext q j
  rw [zup_e]
  unfold zkf
  by_cases h : q = k + 1 ∧ j = 8 * a + b
  · rw [if_pos h]
    obtain ⟨h1, h2⟩ := h
    have e1 : j / 8 = a := by omega
    have e2 : j % 8 = b := by omega
    rw [if_pos (by omega), e1, e2]
  · rw [if_neg h]
    have : (q = k + 1 ∧ j < 64 ∧ j % 8 < n ∧ (j / 8 < a ∨ (j / 8 = a ∧ j % 8 < b))) ↔ (q = k + 1 ∧ j < 64 ∧ j % 8 < n ∧ (j / 8 < a ∨ (j / 8 = a ∧ j % 8 < b + 1))) := by omega
    simp only [this]
theorem zkf_out {M : zM} {k n a b : Nat} {c : tC} {q j : Nat} (h : q ≠ k + 1) : zkf M k n c a b q j = M q j := by
  unfold zkf
  rw [if_neg (by omega)]
theorem zkf_kT {M : zM} {k n : Nat} {c : tC} (h8 : n ≤ 8) (h : M k 0 = nI n) : kT (zkf M k n c n 0) k n c := by
  refine ⟨by rw [zkf_out (by omega)]; exact h, fun a b ha hb => ?_⟩
  unfold zkf
  have e1 : (8 * a + b) / 8 = a := by omega
  have e2 : (8 * a + b) % 8 = b := by omega
  rw [e1, e2, if_pos (by omega)]
theorem CS_to {T : tS} {M : zM} {s k n : Nat} {c : tC} (hs : s < 4) (hk : ztb k) (h8 : n ≤ 8) (hC : CS T M) (h : kT M k n c) : CS (tset T s n c) (zto M (2 + 2 * s) k) := by
  intro t ht
  unfold tset
  by_cases h2 : t = s
  · subst h2
    simp only [if_true]
    exact kT_to (tb4 ht) hk h8 h
  · rw [if_neg h2]
    exact (hC t ht).same (fun j => by unfold zto; rw [if_neg (by omega), if_neg (by omega)]) (fun j => by unfold zto; rw [if_neg (by omega), if_neg (by omega)])
theorem zhi_to {M : zM} {s k : Nat} (hs : s < 4) : zhi M (zto M (2 + 2 * s) k) := fun q j hq => by
  unfold zto
  rw [if_neg (by omega), if_neg (by omega)]
theorem qL_keepBuilt {M : zM} {s n : Nat} {c : tC} (hs : s < 4) (h : kT M 10 n c) : zf_L_keepBuilt [.ref 0, .int (nI s)] M = some (some (nI n), zto M (2 + 2 * s) 10) := by
  have e : zto M (2 + 2 * s) 10 10 0 = nI n := by
    unfold zto
    rw [if_neg (by omega), if_neg (by omega)]
    exact h.1
  simp (disch := omega) [zf_L_keepBuilt, zmeth, xm_en, zret, zretz, zretv, zseq, zst, zinc, zkl, zskip, zk, zi, za, zbin, zdiv, zrem, zgi, zgr, zld, zldr, zlen, zn, zc, zcall, zcallv, zrcv, zdo, zdov, zpf, zpfc, zas, zasc, zmin, zmax, zcmp, zcz, zand_e, zor_e, zite_e, zbite_e, zif_e, znot_e, z_add, z_sub, z_mul, z_and, z_or, z_xor, z_shl, z_shr, zcpy, -List.getElem?_cons_succ, zg_0, zg_1, zg_2, zg_3, zg_4, zg_5, zg_6, zg_7, zg_8, zg_9, zt_0, zt_12, zt_20, zt_26, zt_32, zf_0_0, zf_0_1, zf_0_2, zf_0_3, zf_0_4, zf_12_0, zf_12_1, zf_12_2, zf_12_4, zf_12_5, zf_20_1, zf_20_2, zf_20_3, zf_20_4, zf_20_6, zf_26_0, zf_26_1, zf_26_2, zf_26_3, zf_32_0, zf_32_1, zf_32_3, zf_32_4, zf_32_5, zf_32_6, zi_1, zf_1, nI_clamp, ztb_tag (tb4 hs), ztb_tag tb10, qT_takeOver (tb4 hs) tb10, e]
/-- a full table's product -/
theorem qT_mul {M : zM} {k n a b : Nat} {c : tC} (hk : ztb k) (h : kT M k n c) (h8 : n ≤ 8) (hf : tF n c) (ha : a < n) (hb : b < n) : zf_Table_times [.ref k, .int (nI a), .int (nI b)] M = some (some (nI (c a b)), M) := by
  rw [qT_cell hk h h8 ha hb, zcl_lt (by have := hf a b ha hb; omega)]
theorem qM_mul {M : zM} {t n a b : Nat} {c : tC} (ht : t < 6) (h : rT M t n c) (h8 : n ≤ 8) (hf : tF n c) (ha : a < n) (hb : b < n) : zf_M_cell [.ref 32, .int (nI t), .int (nI a), .int (nI b)] M = some (some (nI (c a b)), M) := by
  rw [qM_rcell ht h h8 ha hb, zcl_lt (by have := hf a b ha hb; omega)]
def fb (f : Int32) (i : Nat) : Nat := (f >>> (nI i &&& 31)).toBitVec.toNat % 2
theorem fb_e (f : Int32) (i : Nat) : (f >>> (nI i &&& 31)) &&& nI 1 = nI (fb f i) := by
  rw [pk_and (f >>> (nI i &&& 31)) (m := nI 1) 1 (by decide)]
  rfl
theorem fb_lt (f : Int32) (i : Nat) : fb f i < 2 := Nat.mod_lt _ (by decide)
def sg (f : Int32) (a b : Nat) : Nat := if a = 0 ∨ b = 0 then 0 else fb f (4 * a + b)
theorem sg_lt (f : Int32) (a b : Nat) : sg f a b < 2 := by
  unfold sg
  split
  · omega
  · exact fb_lt f _
def tDb (c : tC) (f : Int32) : tC := fun x y => 2 * c (x / 2) (y / 2) + (x + y + sg f (x / 2) (y / 2)) % 2
theorem tO_db {n : Nat} {c : tC} {f : Int32} (h : tO n c) (hf : tF n c) (h4 : n ≤ 4) : tO (2 * n) (tDb c f) := by
  obtain ⟨h1, h2, h3, h5, h6⟩ := h
  have sl := sg_lt f
  refine ⟨by omega, fun a ha => ?_, fun a b ha hb => ?_, fun a b d ha hb hd g1 g2 => ?_, fun a b d ha hb hd g1 g2 => ?_⟩
  · have := h2 (a / 2) (by omega)
    unfold tDb sg
    simp only [Nat.zero_div, true_or, or_true, if_true, this.1, this.2]
    omega
  · have := hf (a / 2) (b / 2) (by omega) (by omega)
    unfold tDb
    omega
  · unfold tDb at g1
    have e1 : c (a / 2) (b / 2) = c (a / 2) (d / 2) := by omega
    have e2 := h5 (a / 2) (b / 2) (d / 2) (by omega) (by omega) (by omega) e1 (by have := hf (a / 2) (b / 2) (by omega) (by omega); omega)
    rw [e1, e2] at g1
    omega
  · unfold tDb at g1
    have e1 : c (a / 2) (d / 2) = c (b / 2) (d / 2) := by omega
    have e2 := h6 (a / 2) (b / 2) (d / 2) (by omega) (by omega) (by omega) e1 (by have := hf (a / 2) (d / 2) (by omega) (by omega); omega)
    rw [e1, e2] at g1
    omega
theorem tF_db {n : Nat} {c : tC} {f : Int32} (hf : tF n c) : tF (2 * n) (tDb c f) := fun a b ha hb => by
  have := hf (a / 2) (b / 2) (by omega) (by omega)
  unfold tDb
  omega
theorem qG_sign {M : zM} {f : Int32} {a b : Nat} (ha : a < 4) (hb : b < 4) : zf_Larger_signOf [.int f, .int (nI a), .int (nI b)] M = some (some (nI (sg f a b)), M) := by
  by_cases h1 : a = 0
  · simp (disch := omega) [zf_Larger_signOf, zmeth, xm_en, zret, zretz, zretv, zseq, zst, zinc, zkl, zskip, zk, zi, za, zbin, zdiv, zrem, zgi, zgr, zld, zldr, zlen, zn, zc, zcall, zcallv, zrcv, zdo, zdov, zpf, zpfc, zas, zasc, zmin, zmax, zcmp, zcz, zand_e, zor_e, zite_e, zbite_e, zif_e, znot_e, z_add, z_sub, z_mul, z_and, z_or, z_xor, z_shl, z_shr, zcpy, -List.getElem?_cons_succ, zg_0, zg_1, zg_2, zg_3, zg_4, zg_5, zg_6, zg_7, zg_8, zg_9, zc_lt, zc_le, zc_gt, zc_ge, zc_eq, zc_ne, zc_lt0, zc_ge0, zc_gt0, zc_eq0, zc_ne0, zb_ne, zb_eq, zb_01, z_00, z_01, z_11, zb_f, zb_T, zb_F, zbm1, zbm2, zbm5, zbm6, zbm3, zbm4, nI_clamp, zmod_n, pk_div, nI_ne0, pk_mul, nI_add, nI_1, h1, sg]
  · by_cases h2 : b = 0
    · simp (disch := omega) [zf_Larger_signOf, zmeth, xm_en, zret, zretz, zretv, zseq, zst, zinc, zkl, zskip, zk, zi, za, zbin, zdiv, zrem, zgi, zgr, zld, zldr, zlen, zn, zc, zcall, zcallv, zrcv, zdo, zdov, zpf, zpfc, zas, zasc, zmin, zmax, zcmp, zcz, zand_e, zor_e, zite_e, zbite_e, zif_e, znot_e, z_add, z_sub, z_mul, z_and, z_or, z_xor, z_shl, z_shr, zcpy, -List.getElem?_cons_succ, zg_0, zg_1, zg_2, zg_3, zg_4, zg_5, zg_6, zg_7, zg_8, zg_9, zc_lt, zc_le, zc_gt, zc_ge, zc_eq, zc_ne, zc_lt0, zc_ge0, zc_gt0, zc_eq0, zc_ne0, zb_ne, zb_eq, zb_01, z_00, z_01, z_11, zb_f, zb_T, zb_F, zbm1, zbm2, zbm5, zbm6, zbm3, zbm4, nI_clamp, zmod_n, pk_div, nI_ne0, pk_mul, nI_add, nI_1, h1, h2, sg]
    · simp (disch := omega) [zf_Larger_signOf, zmeth, xm_en, zret, zretz, zretv, zseq, zst, zinc, zkl, zskip, zk, zi, za, zbin, zdiv, zrem, zgi, zgr, zld, zldr, zlen, zn, zc, zcall, zcallv, zrcv, zdo, zdov, zpf, zpfc, zas, zasc, zmin, zmax, zcmp, zcz, zand_e, zor_e, zite_e, zbite_e, zif_e, znot_e, z_add, z_sub, z_mul, z_and, z_or, z_xor, z_shl, z_shr, zcpy, -List.getElem?_cons_succ, zg_0, zg_1, zg_2, zg_3, zg_4, zg_5, zg_6, zg_7, zg_8, zg_9, zc_lt, zc_le, zc_gt, zc_ge, zc_eq, zc_ne, zc_lt0, zc_ge0, zc_gt0, zc_eq0, zc_ne0, zb_ne, zb_eq, zb_01, z_00, z_01, z_11, zb_f, zb_T, zb_F, zbm1, zbm2, zbm5, zbm6, zbm3, zbm4, nI_clamp, zmod_n, pk_div, nI_ne0, pk_mul, nI_add, nI_1, h1, h2, sg, fb_e]
theorem kT_kf {M : zM} {k k2 n m : Nat} {c d : tC} {a b : Nat} (hk : ztb k) (hk2 : ztb k2) (hne : k ≠ k2) (h : kT M k n c) : kT (zkf M k2 m d a b) k n c :=
  h.same (fun j => zkf_out (by have := ztb_ne hk hk2; omega)) (fun j => zkf_out (by omega))
theorem kT_rs {M : zM} {k k2 n m i : Nat} {c : tC} (hk : ztb k) (hk2 : ztb k2) (hne : k ≠ k2) (h : kT M k n c) : kT (zrs M k2 m i) k n c :=
  h.same (fun j => by have := ztb_ne hk hk2; unfold zrs; rw [if_neg (by omega), if_neg (by omega)]) (fun j => by have := ztb_ne hk2 hk; unfold zrs; rw [if_neg (by omega), if_neg (by omega)])
theorem qG_doubled2 {M : zM} {k n x : Nat} {c : tC} {f : Int32} (hk : ztb k) (hne : k ≠ 10) (h : kT M k n c) (h10 : M 10 0 = nI (2 * n)) (h4 : n ≤ 4) (hf : tF n c) (hx : x < 2 * n) : zwh zc_Larger_buildDoubled_2 zs_Larger_buildDoubled_2 [some (Value.ref (k)), some (Value.int (f)), some (Value.ref (10)), some (Value.int (nI x)), some (Value.int (nI 0)), none, none, none] (zkf M 10 (2 * n) (tDb c f) x 0) = some (none, [some (Value.ref (k)), some (Value.int (f)), some (Value.ref (10)), some (Value.int (nI x)), some (Value.int (nI (2 * n))), none, none, none], zkf M 10 (2 * n) (tDb c f) (x + 1) 0) := by
  rw [← zkf_r]
  have hn : ∀ a b, zkf M 10 (2 * n) (tDb c f) a b 10 0 = nI (2 * n) := fun a b => by rw [zkf_out (by omega)]; exact h10
  refine zwh_up (c := zc_Larger_buildDoubled_2) (s := zs_Larger_buildDoubled_2) (fun j => [some (Value.ref (k)), some (Value.int (f)), some (Value.ref (10)), some (Value.int (nI x)), some (Value.int (nI j)), none, none, none]) (fun j => zkf M 10 (2 * n) (tDb c f) x j) (n := 2 * n) (2 * n) 0 (by omega) ?_ ?_ ?_
  · intro j h1 h2
    simp (disch := omega) [zc_Larger_buildDoubled_2, zmeth, xm_en, zret, zretz, zretv, zseq, zst, zinc, zkl, zskip, zk, zi, za, zbin, zdiv, zrem, zgi, zgr, zld, zldr, zlen, zn, zc, zcall, zcallv, zrcv, zdo, zdov, zpf, zpfc, zas, zasc, zmin, zmax, zcmp, zcz, zand_e, zor_e, zite_e, zbite_e, zif_e, znot_e, z_add, z_sub, z_mul, z_and, z_or, z_xor, z_shl, z_shr, zcpy, -List.getElem?_cons_succ, zg_0, zg_1, zg_2, zg_3, zg_4, zg_5, zg_6, zg_7, zg_8, zg_9, zc_lt, zc_le, zc_gt, zc_ge, zc_eq, zc_ne, zc_lt0, zc_ge0, zc_gt0, zc_eq0, zc_ne0, zb_ne, zb_eq, zb_01, z_00, z_01, z_11, zb_f, zb_T, zb_F, zbm1, zbm2, zbm5, zbm6, zbm3, zbm4, nI_clamp, zmod_n, pk_div, nI_ne0, pk_mul, nI_add, nI_1, ztb_tag tb10, hn, h2]
  · intro j h1 h2
    have hk' := kT_kf (m := 2 * n) (d := tDb c f) (a := x) (b := j) hk tb10 hne h
    have e1 := zkf_s (M := M) (k := 10) (c := tDb c f) (show 2 * n ≤ 8 by omega) (show x < 8 by omega) h2
    have hcl := hf (x / 2) (j / 2) (by omega) (by omega)
    have hsl := sg_lt f (x / 2) (j / 2)
    have ev : zcl (-1) (tDb c f x j) = nI (2 * c (x / 2) (j / 2) + (x + j + sg f (x / 2) (j / 2)) % 2) := zcl_lt (by unfold tDb; omega)
    rw [ev] at e1
    have p := qT_put (M := zkf M 10 (2 * n) (tDb c f) x j) (v := nI (2 * c (x / 2) (j / 2) + (x + j + sg f (x / 2) (j / 2)) % 2)) tb10 (hn x j) (by omega) hx h2
    have q1 := qT_mul (a := x / 2) (b := j / 2) hk hk' (by omega) hf (by omega) (by omega)
    simp (disch := omega) [zs_Larger_buildDoubled_2, zmeth, xm_en, zret, zretz, zretv, zseq, zst, zinc, zkl, zskip, zk, zi, za, zbin, zdiv, zrem, zgi, zgr, zld, zldr, zlen, zn, zc, zcall, zcallv, zrcv, zdo, zdov, zpf, zpfc, zas, zasc, zmin, zmax, zcmp, zcz, zand_e, zor_e, zite_e, zbite_e, zif_e, znot_e, z_add, z_sub, z_mul, z_and, z_or, z_xor, z_shl, z_shr, zcpy, -List.getElem?_cons_succ, zg_0, zg_1, zg_2, zg_3, zg_4, zg_5, zg_6, zg_7, zg_8, zg_9, zc_lt, zc_le, zc_gt, zc_ge, zc_eq, zc_ne, zc_lt0, zc_ge0, zc_gt0, zc_eq0, zc_ne0, zb_ne, zb_eq, zb_01, z_00, z_01, z_11, zb_f, zb_T, zb_F, zbm1, zbm2, zbm5, zbm6, zbm3, zbm4, nI_clamp, zmod_n, pk_div, nI_ne0, pk_mul, nI_add, nI_1, ztb_tag tb10, ztb_tag hk, qG_sign, q1, p, e1]
  · simp (disch := omega) [zc_Larger_buildDoubled_2, zmeth, xm_en, zret, zretz, zretv, zseq, zst, zinc, zkl, zskip, zk, zi, za, zbin, zdiv, zrem, zgi, zgr, zld, zldr, zlen, zn, zc, zcall, zcallv, zrcv, zdo, zdov, zpf, zpfc, zas, zasc, zmin, zmax, zcmp, zcz, zand_e, zor_e, zite_e, zbite_e, zif_e, znot_e, z_add, z_sub, z_mul, z_and, z_or, z_xor, z_shl, z_shr, zcpy, -List.getElem?_cons_succ, zg_0, zg_1, zg_2, zg_3, zg_4, zg_5, zg_6, zg_7, zg_8, zg_9, zc_lt, zc_le, zc_gt, zc_ge, zc_eq, zc_ne, zc_lt0, zc_ge0, zc_gt0, zc_eq0, zc_ne0, zb_ne, zb_eq, zb_01, z_00, z_01, z_11, zb_f, zb_T, zb_F, zbm1, zbm2, zbm5, zbm6, zbm3, zbm4, nI_clamp, zmod_n, pk_div, nI_ne0, pk_mul, nI_add, nI_1, ztb_tag tb10, hn]
theorem qG_doubled {M : zM} {k n : Nat} {c : tC} {f : Int32} (hk : ztb k) (hne : k ≠ 10) (h : kT M k n c) (h1n : 1 ≤ n) (h4 : n ≤ 4) (hf : tF n c) : ∃ M', zf_Larger_buildDoubled [.ref k, .int f, .ref 10] M = some (none, M') ∧ kT M' 10 (2 * n) (tDb c f) ∧ zsc M M' := by
  have hk2 := kT_rs (m := 2 * n) (i := 2 * n) hk tb10 hne h
  have h10 : zrs M 10 (2 * n) (2 * n) 10 0 = nI (2 * n) := by simp [zrs]
  have hn : ∀ a b, zkf (zrs M 10 (2 * n) (2 * n)) 10 (2 * n) (tDb c f) a b 10 0 = nI (2 * n) := fun a b => by rw [zkf_out (by omega)]; exact h10
  have R := zwh_up (c := zc_Larger_buildDoubled_1) (s := zs_Larger_buildDoubled_1) (fun j => [some (Value.ref (k)), some (Value.int (f)), some (Value.ref (10)), some (Value.int (nI j)), none, none, none, none]) (fun j => zkf (zrs M 10 (2 * n) (2 * n)) 10 (2 * n) (tDb c f) j 0) (n := 2 * n) (2 * n) 0 (by omega) ?_ ?_ ?_
  · rw [zkf_0] at R
    refine ⟨zkf (zrs M 10 (2 * n) (2 * n)) 10 (2 * n) (tDb c f) (2 * n) 0, ?_, zkf_kT (by omega) h10, ?_⟩
    · simp (disch := omega) [zf_Larger_buildDoubled, zmeth, xm_en, zret, zretz, zretv, zseq, zst, zinc, zkl, zskip, zk, zi, za, zbin, zdiv, zrem, zgi, zgr, zld, zldr, zlen, zn, zc, zcall, zcallv, zrcv, zdo, zdov, zpf, zpfc, zas, zasc, zmin, zmax, zcmp, zcz, zand_e, zor_e, zite_e, zbite_e, zif_e, znot_e, z_add, z_sub, z_mul, z_and, z_or, z_xor, z_shl, z_shr, zcpy, -List.getElem?_cons_succ, zg_0, zg_1, zg_2, zg_3, zg_4, zg_5, zg_6, zg_7, zg_8, zg_9, zc_lt, zc_le, zc_gt, zc_ge, zc_eq, zc_ne, zc_lt0, zc_ge0, zc_gt0, zc_eq0, zc_ne0, zb_ne, zb_eq, zb_01, z_00, z_01, z_11, zb_f, zb_T, zb_F, zbm1, zbm2, zbm5, zbm6, zbm3, zbm4, nI_clamp, zmod_n, pk_div, nI_ne0, pk_mul, nI_add, nI_1, ztb_tag tb10, ztb_tag hk, h.1, qT_restart tb10 (show 1 ≤ 2 * n by omega) (by omega), R]
    · intro q j hq
      rw [zkf_out (by omega)]
      unfold zrs
      rw [if_neg (by omega), if_neg (by omega)]
  · intro j h1 h2
    simp (disch := omega) [zc_Larger_buildDoubled_1, zmeth, xm_en, zret, zretz, zretv, zseq, zst, zinc, zkl, zskip, zk, zi, za, zbin, zdiv, zrem, zgi, zgr, zld, zldr, zlen, zn, zc, zcall, zcallv, zrcv, zdo, zdov, zpf, zpfc, zas, zasc, zmin, zmax, zcmp, zcz, zand_e, zor_e, zite_e, zbite_e, zif_e, znot_e, z_add, z_sub, z_mul, z_and, z_or, z_xor, z_shl, z_shr, zcpy, -List.getElem?_cons_succ, zg_0, zg_1, zg_2, zg_3, zg_4, zg_5, zg_6, zg_7, zg_8, zg_9, zc_lt, zc_le, zc_gt, zc_ge, zc_eq, zc_ne, zc_lt0, zc_ge0, zc_gt0, zc_eq0, zc_ne0, zb_ne, zb_eq, zb_01, z_00, z_01, z_11, zb_f, zb_T, zb_F, zbm1, zbm2, zbm5, zbm6, zbm3, zbm4, nI_clamp, zmod_n, pk_div, nI_ne0, pk_mul, nI_add, nI_1, ztb_tag tb10, hn, h2]
  · intro j h3 h5
    have R2 := qG_doubled2 (f := f) hk hne hk2 h10 h4 hf h5
    simp (disch := omega) [zs_Larger_buildDoubled_1, zmeth, xm_en, zret, zretz, zretv, zseq, zst, zinc, zkl, zskip, zk, zi, za, zbin, zdiv, zrem, zgi, zgr, zld, zldr, zlen, zn, zc, zcall, zcallv, zrcv, zdo, zdov, zpf, zpfc, zas, zasc, zmin, zmax, zcmp, zcz, zand_e, zor_e, zite_e, zbite_e, zif_e, znot_e, z_add, z_sub, z_mul, z_and, z_or, z_xor, z_shl, z_shr, zcpy, -List.getElem?_cons_succ, zg_0, zg_1, zg_2, zg_3, zg_4, zg_5, zg_6, zg_7, zg_8, zg_9, zc_lt, zc_le, zc_gt, zc_ge, zc_eq, zc_ne, zc_lt0, zc_ge0, zc_gt0, zc_eq0, zc_ne0, zb_ne, zb_eq, zb_01, z_00, z_01, z_11, zb_f, zb_T, zb_F, zbm1, zbm2, zbm5, zbm6, zbm3, zbm4, nI_clamp, zmod_n, pk_div, nI_ne0, pk_mul, nI_add, nI_1, R2]
  · simp (disch := omega) [zc_Larger_buildDoubled_1, zmeth, xm_en, zret, zretz, zretv, zseq, zst, zinc, zkl, zskip, zk, zi, za, zbin, zdiv, zrem, zgi, zgr, zld, zldr, zlen, zn, zc, zcall, zcallv, zrcv, zdo, zdov, zpf, zpfc, zas, zasc, zmin, zmax, zcmp, zcz, zand_e, zor_e, zite_e, zbite_e, zif_e, znot_e, z_add, z_sub, z_mul, z_and, z_or, z_xor, z_shl, z_shr, zcpy, -List.getElem?_cons_succ, zg_0, zg_1, zg_2, zg_3, zg_4, zg_5, zg_6, zg_7, zg_8, zg_9, zc_lt, zc_le, zc_gt, zc_ge, zc_eq, zc_ne, zc_lt0, zc_ge0, zc_gt0, zc_eq0, zc_ne0, zb_ne, zb_eq, zb_01, z_00, z_01, z_11, zb_f, zb_T, zb_F, zbm1, zbm2, zbm5, zbm6, zbm3, zbm4, nI_clamp, zmod_n, pk_div, nI_ne0, pk_mul, nI_add, nI_1, ztb_tag tb10, hn]
def okDb (T : tS) (x y : Int32) : Bool := zlt x 4 && zlt y 4 && (tB (T y.toNatClampNeg).1 (T y.toNatClampNeg).2 && decide ((T y.toNatClampNeg).1 ≤ 4))
def sDb (T : tS) (x y f : Int32) : tS := bif okDb T x y then tset T x.toNatClampNeg (2 * (T y.toNatClampNeg).1) (tDb (T y.toNatClampNeg).2 f) else T
def aDb (T : tS) (x y : Int32) : Int32 := bif zlt x 4 && zlt y 4 then (bif okDb T x y then nI (2 * (T y.toNatClampNeg).1) else -2) else -1
theorem qL_doubled {T : tS} {M : zM} (x y f : Int32) (hC : CS T M) (hT : TO T) : ∃ M', zf_L_doubled [.ref 0, .int x, .int y, .int f] M = some (some (aDb T x y), M') ∧ CS (sDb T x y f) M' ∧ zhi M M' := by
  rcases z3 x (n := 4) (by decide) with h | ⟨s, hs, rfl⟩
  · refine ⟨M, ?_, by simpa [sDb, okDb, h] using hC, zhi.refl M⟩
    simp [zf_L_doubled, zmeth, xm_en, zret, zretz, zretv, zseq, zst, zinc, zkl, zskip, zk, zi, za, zbin, zdiv, zrem, zgi, zgr, zld, zldr, zlen, zn, zc, zcall, zcallv, zrcv, zdo, zdov, zpf, zpfc, zas, zasc, zmin, zmax, zcmp, zcz, zand_e, zor_e, zite_e, zbite_e, zif_e, znot_e, z_add, z_sub, z_mul, z_and, z_or, z_xor, z_shl, z_shr, zcpy, -List.getElem?_cons_succ, zg_0, zg_1, zg_2, zg_3, zg_4, zg_5, zg_6, zg_7, zg_8, zg_9, qL_isTable, zb_ne, h, aDb]
  · have e := zlt_y hs (by decide)
    rcases z3 y (n := 4) (by decide) with h | ⟨t, ht, rfl⟩
    · refine ⟨M, ?_, by simpa [sDb, okDb, h] using hC, zhi.refl M⟩
      simp [zf_L_doubled, zmeth, xm_en, zret, zretz, zretv, zseq, zst, zinc, zkl, zskip, zk, zi, za, zbin, zdiv, zrem, zgi, zgr, zld, zldr, zlen, zn, zc, zcall, zcallv, zrcv, zdo, zdov, zpf, zpfc, zas, zasc, zmin, zmax, zcmp, zcz, zand_e, zor_e, zite_e, zbite_e, zif_e, znot_e, z_add, z_sub, z_mul, z_and, z_or, z_xor, z_shl, z_shr, zcpy, -List.getElem?_cons_succ, zg_0, zg_1, zg_2, zg_3, zg_4, zg_5, zg_6, zg_7, zg_8, zg_9, qL_isTable, zb_ne, e, h, aDb]
    · have e2 := zlt_y ht (by decide)
      have h8 := (hT t ht).1.2
      have ct : (nI t).toNatClampNeg = t := nI_clamp (by omega)
      have cs : (nI s).toNatClampNeg = s := nI_clamp (by omega)
      cases hb : tB (T t).1 (T t).2 with
      | false =>
        refine ⟨M, ?_, by simpa [sDb, okDb, ct, hb] using hC, zhi.refl M⟩
        simp (disch := omega) [zf_L_doubled, zmeth, xm_en, zret, zretz, zretv, zseq, zst, zinc, zkl, zskip, zk, zi, za, zbin, zdiv, zrem, zgi, zgr, zld, zldr, zlen, zn, zc, zcall, zcallv, zrcv, zdo, zdov, zpf, zpfc, zas, zasc, zmin, zmax, zcmp, zcz, zand_e, zor_e, zite_e, zbite_e, zif_e, znot_e, z_add, z_sub, z_mul, z_and, z_or, z_xor, z_shl, z_shr, zcpy, -List.getElem?_cons_succ, zg_0, zg_1, zg_2, zg_3, zg_4, zg_5, zg_6, zg_7, zg_8, zg_9, zt_0, zt_12, zt_20, zt_26, zt_32, zf_0_0, zf_0_1, zf_0_2, zf_0_3, zf_0_4, zf_12_0, zf_12_1, zf_12_2, zf_12_4, zf_12_5, zf_20_1, zf_20_2, zf_20_3, zf_20_4, zf_20_6, zf_26_0, zf_26_1, zf_26_2, zf_26_3, zf_32_0, zf_32_1, zf_32_3, zf_32_4, zf_32_5, zf_32_6, qL_isTable, zb_ne, e, e2, aDb, okDb, ct, hb, zi_1, zf_1, nI_clamp, ztb_tag (tb4 ht), qT_isFull (tb4 ht) (hC t ht) (hT t ht)]
      | true =>
        by_cases h4 : (T t).1 ≤ 4
        · have hf := (tB_iff (hT t ht)).mp hb
          obtain ⟨M1, g1, g2, g3⟩ := qG_doubled (f := f) (tb4 ht) (by omega) (hC t ht) (hT t ht).1.1 h4 hf
          have hok : okDb T (nI s) (nI t) = true := by simp [okDb, ct, e, e2, hb, h4]
          refine ⟨zto M1 (2 + 2 * s) 10, ?_, ?_, zhi.trans g3.hi (zhi_to hs)⟩
          · have n4 : ¬ 4 < (T t).1 := by omega
            simp (disch := omega) [zf_L_doubled, zmeth, xm_en, zret, zretz, zretv, zseq, zst, zinc, zkl, zskip, zk, zi, za, zbin, zdiv, zrem, zgi, zgr, zld, zldr, zlen, zn, zc, zcall, zcallv, zrcv, zdo, zdov, zpf, zpfc, zas, zasc, zmin, zmax, zcmp, zcz, zand_e, zor_e, zite_e, zbite_e, zif_e, znot_e, z_add, z_sub, z_mul, z_and, z_or, z_xor, z_shl, z_shr, zcpy, -List.getElem?_cons_succ, zg_0, zg_1, zg_2, zg_3, zg_4, zg_5, zg_6, zg_7, zg_8, zg_9, zt_0, zt_12, zt_20, zt_26, zt_32, zf_0_0, zf_0_1, zf_0_2, zf_0_3, zf_0_4, zf_12_0, zf_12_1, zf_12_2, zf_12_4, zf_12_5, zf_20_1, zf_20_2, zf_20_3, zf_20_4, zf_20_6, zf_26_0, zf_26_1, zf_26_2, zf_26_3, zf_32_0, zf_32_1, zf_32_3, zf_32_4, zf_32_5, zf_32_6, qL_isTable, zb_ne, e, e2, aDb, hok, ct, hb, zi_1, zf_1, nI_clamp, ztb_tag (tb4 ht), qT_isFull (tb4 ht) (hC t ht) (hT t ht), (hC t ht).1, zc_gt, n4, g1, qL_keepBuilt hs g2]
          · simp only [sDb, hok, cond_true, ct, cs]
            exact CS_to hs tb10 (by omega) (hC.sc g3) g2
        · refine ⟨M, ?_, by simpa [sDb, okDb, ct, hb, h4] using hC, zhi.refl M⟩
          have n4 : 4 < (T t).1 := by omega
          simp (disch := omega) [zf_L_doubled, zmeth, xm_en, zret, zretz, zretv, zseq, zst, zinc, zkl, zskip, zk, zi, za, zbin, zdiv, zrem, zgi, zgr, zld, zldr, zlen, zn, zc, zcall, zcallv, zrcv, zdo, zdov, zpf, zpfc, zas, zasc, zmin, zmax, zcmp, zcz, zand_e, zor_e, zite_e, zbite_e, zif_e, znot_e, z_add, z_sub, z_mul, z_and, z_or, z_xor, z_shl, z_shr, zcpy, -List.getElem?_cons_succ, zg_0, zg_1, zg_2, zg_3, zg_4, zg_5, zg_6, zg_7, zg_8, zg_9, zt_0, zt_12, zt_20, zt_26, zt_32, zf_0_0, zf_0_1, zf_0_2, zf_0_3, zf_0_4, zf_12_0, zf_12_1, zf_12_2, zf_12_4, zf_12_5, zf_20_1, zf_20_2, zf_20_3, zf_20_4, zf_20_6, zf_26_0, zf_26_1, zf_26_2, zf_26_3, zf_32_0, zf_32_1, zf_32_3, zf_32_4, zf_32_5, zf_32_6, qL_isTable, zb_ne, e, e2, aDb, okDb, ct, hb, h4, zi_1, zf_1, nI_clamp, ztb_tag (tb4 ht), qT_isFull (tb4 ht) (hC t ht) (hT t ht), (hC t ht).1, zc_gt, n4]
theorem rT_ft {M : zM} {t n m a b : Nat} {c d : tC} (ht : t < 4) (h8 : n ≤ 8) (h : rT M t n c) : rT (zft M 4 m d a b) t n c := h.same h8 (zft_out (by omega)) (fun j _ _ => zft_out (by omega))
theorem qM_doubled2 {M : zM} {s t n x : Nat} {c : tC} {f : Int32} (ht : t < 4) (h : rT M t n c) (h4 : n ≤ 4) (hf : tF n c) (hx : x < 2 * n) : zwh zc_M_doubled_2 zs_M_doubled_2 [some (Value.ref (32)), some (Value.int (nI s)), some (Value.int (nI t)), some (Value.int (f)), some (Value.int (nI n)), some (Value.int (nI x)), some (Value.int (nI 0)), none, none, none] (zft M 4 (2 * n) (tDb c f) x 0) = some (none, [some (Value.ref (32)), some (Value.int (nI s)), some (Value.int (nI t)), some (Value.int (f)), some (Value.int (nI n)), some (Value.int (nI x)), some (Value.int (nI (2 * n))), none, none, none], zft M 4 (2 * n) (tDb c f) (x + 1) 0) := by
  rw [← zft_r]
  refine zwh_up (c := zc_M_doubled_2) (s := zs_M_doubled_2) (fun j => [some (Value.ref (32)), some (Value.int (nI s)), some (Value.int (nI t)), some (Value.int (f)), some (Value.int (nI n)), some (Value.int (nI x)), some (Value.int (nI j)), none, none, none]) (fun j => zft M 4 (2 * n) (tDb c f) x j) (n := 2 * n) (2 * n) 0 (by omega) ?_ ?_ ?_
  · intro j h1 h2
    simp (disch := omega) [zc_M_doubled_2, zmeth, xm_en, zret, zretz, zretv, zseq, zst, zinc, zkl, zskip, zk, zi, za, zbin, zdiv, zrem, zgi, zgr, zld, zldr, zlen, zn, zc, zcall, zcallv, zrcv, zdo, zdov, zpf, zpfc, zas, zasc, zmin, zmax, zcmp, zcz, zand_e, zor_e, zite_e, zbite_e, zif_e, znot_e, z_add, z_sub, z_mul, z_and, z_or, z_xor, z_shl, z_shr, zcpy, -List.getElem?_cons_succ, zg_0, zg_1, zg_2, zg_3, zg_4, zg_5, zg_6, zg_7, zg_8, zg_9, zc_lt, zc_le, zc_gt, zc_ge, zc_eq, zc_ne, zc_lt0, zc_ge0, zc_gt0, zc_eq0, zc_ne0, zb_ne, zb_eq, zb_01, z_00, z_01, z_11, zb_f, zb_T, zb_F, zbm1, zbm2, zbm5, zbm6, zbm3, zbm4, nI_clamp, zmod_n, pk_div, nI_ne0, pk_mul, nI_add, nI_1, h2]
  · intro j h1 h2
    have hr := rT_ft (m := 2 * n) (d := tDb c f) (a := x) (b := j) ht (by omega) h
    have e1 := zft_s (M := M) (t := 4) (c := tDb c f) (show 2 * n ≤ 8 by omega) (show x < 8 by omega) h2
    have hcl := hf (x / 2) (j / 2) (by omega) (by omega)
    have hsl := sg_lt f (x / 2) (j / 2)
    have ev : zcl (-4) (tDb c f x j) = nI (2 * c (x / 2) (j / 2) + (x + j + sg f (x / 2) (j / 2)) % 2) := zcl_lt (by unfold tDb; omega)
    rw [ev] at e1
    have q1 := qM_mul (a := x / 2) (b := j / 2) (show t < 6 by omega) hr (by omega) hf (by omega) (by omega)
    have es : (bif decide (2 ≤ x) && decide (2 ≤ j) then nI (fb f (4 * (x / 2) + j / 2)) else nI 0) = nI (sg f (x / 2) (j / 2)) := by
      unfold sg
      by_cases g1 : x / 2 = 0
      · have g3 : ¬ 2 ≤ x := by omega
        rw [decide_eq_false g3, if_pos (Or.inl g1)]
        rfl
      · by_cases g2 : j / 2 = 0
        · have g3 : ¬ 2 ≤ j := by omega
          rw [decide_eq_false g3, if_pos (Or.inr g2), Bool.and_false]
          rfl
        · have g3 : 2 ≤ x := by omega
          have g4 : 2 ≤ j := by omega
          rw [decide_eq_true g3, decide_eq_true g4, if_neg (by omega)]
          rfl
    have p := qM_puts (M := zft M 4 (2 * n) (tDb c f) x j) (t := 4) (a := x) (b := j) (v := nI (2 * c (x / 2) (j / 2) + (x + j + sg f (x / 2) (j / 2)) % 2)) (by omega)
    simp only [Nat.reduceMul] at e1 p
    simp (disch := omega) [zs_M_doubled_2, zmeth, xm_en, zret, zretz, zretv, zseq, zst, zinc, zkl, zskip, zk, zi, za, zbin, zdiv, zrem, zgi, zgr, zld, zldr, zlen, zn, zc, zcall, zcallv, zrcv, zdo, zdov, zpf, zpfc, zas, zasc, zmin, zmax, zcmp, zcz, zand_e, zor_e, zite_e, zbite_e, zif_e, znot_e, z_add, z_sub, z_mul, z_and, z_or, z_xor, z_shl, z_shr, zcpy, -List.getElem?_cons_succ, zg_0, zg_1, zg_2, zg_3, zg_4, zg_5, zg_6, zg_7, zg_8, zg_9, zc_lt, zc_le, zc_gt, zc_ge, zc_eq, zc_ne, zc_lt0, zc_ge0, zc_gt0, zc_eq0, zc_ne0, zb_ne, zb_eq, zb_01, z_00, z_01, z_11, zb_f, zb_T, zb_F, zbm1, zbm2, zbm5, zbm6, zbm3, zbm4, nI_clamp, zmod_n, pk_div, nI_ne0, pk_mul, nI_add, nI_1, zt_0, zt_12, zt_20, zt_26, zt_32, zf_0_0, zf_0_1, zf_0_2, zf_0_3, zf_0_4, zf_12_0, zf_12_1, zf_12_2, zf_12_4, zf_12_5, zf_20_1, zf_20_2, zf_20_3, zf_20_4, zf_20_6, zf_26_0, zf_26_1, zf_26_2, zf_26_3, zf_32_0, zf_32_1, zf_32_3, zf_32_4, zf_32_5, zf_32_6, fb_e, es, q1, p, e1]
  · simp (disch := omega) [zc_M_doubled_2, zmeth, xm_en, zret, zretz, zretv, zseq, zst, zinc, zkl, zskip, zk, zi, za, zbin, zdiv, zrem, zgi, zgr, zld, zldr, zlen, zn, zc, zcall, zcallv, zrcv, zdo, zdov, zpf, zpfc, zas, zasc, zmin, zmax, zcmp, zcz, zand_e, zor_e, zite_e, zbite_e, zif_e, znot_e, z_add, z_sub, z_mul, z_and, z_or, z_xor, z_shl, z_shr, zcpy, -List.getElem?_cons_succ, zg_0, zg_1, zg_2, zg_3, zg_4, zg_5, zg_6, zg_7, zg_8, zg_9, zc_lt, zc_le, zc_gt, zc_ge, zc_eq, zc_ne, zc_lt0, zc_ge0, zc_gt0, zc_eq0, zc_ne0, zb_ne, zb_eq, zb_01, z_00, z_01, z_11, zb_f, zb_T, zb_F, zbm1, zbm2, zbm5, zbm6, zbm3, zbm4, nI_clamp, zmod_n, pk_div, nI_ne0, pk_mul, nI_add, nI_1]
theorem RS_cp4 {T : tS} {M M1 : zM} {s n : Nat} {c : tC} (hT : TO T) (hs : s < 4) (h8 : n ≤ 8) (hR : RS T M) (hsr : zsr M M1) (h : rT M1 4 n c) : RS (tset T s n c) (zcp M1 s 4 64) := RS_cp hT hs h8 (hR.sr hT hsr) h
theorem zlo_cp {M : zM} {s t : Nat} : zlo M (zcp M s t 64) := fun k j hk => zcp_out (by omega) (by omega)
theorem rT4 {M : zM} {n : Nat} {c : tC} (h8 : n ≤ 8) : rT (zup (zft M 4 n c n 0) 33 4 (nI n)) 4 n c := by
  refine ⟨by rw [zup_e, if_pos ⟨rfl, rfl⟩], fun a b ha hb => ?_⟩
  rw [zup_e, if_neg (by omega)]
  exact zft_in h8 ha hb
theorem zsr4 {M : zM} {n : Nat} {c : tC} {x : Int32} {a b : Nat} : zsr M (zup (zft M 4 n c a b) 33 4 x) := fun q j h => by rw [zup_e, if_neg (by omega), zft_out (by omega)]
theorem qM_doubled {T : tS} {M : zM} (x y f : Int32) (hR : RS T M) (hT : TO T) : ∃ M', zf_M_doubled [.ref 32, .int x, .int y, .int f] M = some (some (aDb T x y), M') ∧ RS (sDb T x y f) M' ∧ TO (sDb T x y f) ∧ zlo M M' := by
  rcases z3 x (n := 4) (by decide) with h | ⟨s, hs, rfl⟩
  · refine ⟨M, ?_, by simpa [sDb, okDb, h] using hR, by simpa [sDb, okDb, h] using hT, zlo.refl M⟩
    simp [zf_M_doubled, zmeth, xm_en, zret, zretz, zretv, zseq, zst, zinc, zkl, zskip, zk, zi, za, zbin, zdiv, zrem, zgi, zgr, zld, zldr, zlen, zn, zc, zcall, zcallv, zrcv, zdo, zdov, zpf, zpfc, zas, zasc, zmin, zmax, zcmp, zcz, zand_e, zor_e, zite_e, zbite_e, zif_e, znot_e, z_add, z_sub, z_mul, z_and, z_or, z_xor, z_shl, z_shr, zcpy, -List.getElem?_cons_succ, zg_0, zg_1, zg_2, zg_3, zg_4, zg_5, zg_6, zg_7, zg_8, zg_9, qM_isTable, zb_ne, h, aDb]
  · have e := zlt_y hs (by decide)
    rcases z3 y (n := 4) (by decide) with h | ⟨t, ht, rfl⟩
    · refine ⟨M, ?_, by simpa [sDb, okDb, h] using hR, by simpa [sDb, okDb, h] using hT, zlo.refl M⟩
      simp [zf_M_doubled, zmeth, xm_en, zret, zretz, zretv, zseq, zst, zinc, zkl, zskip, zk, zi, za, zbin, zdiv, zrem, zgi, zgr, zld, zldr, zlen, zn, zc, zcall, zcallv, zrcv, zdo, zdov, zpf, zpfc, zas, zasc, zmin, zmax, zcmp, zcz, zand_e, zor_e, zite_e, zbite_e, zif_e, znot_e, z_add, z_sub, z_mul, z_and, z_or, z_xor, z_shl, z_shr, zcpy, -List.getElem?_cons_succ, zg_0, zg_1, zg_2, zg_3, zg_4, zg_5, zg_6, zg_7, zg_8, zg_9, qM_isTable, zb_ne, e, h, aDb]
    · have e2 := zlt_y ht (by decide)
      have h8 := (hT t ht).1.2
      have h6 : t < 6 := by omega
      have ct : (nI t).toNatClampNeg = t := nI_clamp (by omega)
      have cs : (nI s).toNatClampNeg = s := nI_clamp (by omega)
      cases hb : tB (T t).1 (T t).2 with
      | false =>
        refine ⟨M, ?_, by simpa [sDb, okDb, ct, hb] using hR, by simpa [sDb, okDb, ct, hb] using hT, zlo.refl M⟩
        simp (disch := omega) [zf_M_doubled, zmeth, xm_en, zret, zretz, zretv, zseq, zst, zinc, zkl, zskip, zk, zi, za, zbin, zdiv, zrem, zgi, zgr, zld, zldr, zlen, zn, zc, zcall, zcallv, zrcv, zdo, zdov, zpf, zpfc, zas, zasc, zmin, zmax, zcmp, zcz, zand_e, zor_e, zite_e, zbite_e, zif_e, znot_e, z_add, z_sub, z_mul, z_and, z_or, z_xor, z_shl, z_shr, zcpy, -List.getElem?_cons_succ, zg_0, zg_1, zg_2, zg_3, zg_4, zg_5, zg_6, zg_7, zg_8, zg_9, zt_0, zt_12, zt_20, zt_26, zt_32, zf_0_0, zf_0_1, zf_0_2, zf_0_3, zf_0_4, zf_12_0, zf_12_1, zf_12_2, zf_12_4, zf_12_5, zf_20_1, zf_20_2, zf_20_3, zf_20_4, zf_20_6, zf_26_0, zf_26_1, zf_26_2, zf_26_3, zf_32_0, zf_32_1, zf_32_3, zf_32_4, zf_32_5, zf_32_6, qM_isTable, zb_ne, e, e2, aDb, okDb, ct, hb, nI_clamp, qM_isFull h6 (hR t ht) h8]
      | true =>
        by_cases h4 : (T t).1 ≤ 4
        · have hf := (tB_iff (hT t ht)).mp hb
          have hok : okDb T (nI s) (nI t) = true := by simp [okDb, ct, e, e2, hb, h4]
          have n4 : ¬ 4 < (T t).1 := by omega
          have R := zwh_up (c := zc_M_doubled_1) (s := zs_M_doubled_1) (fun j => [some (Value.ref (32)), some (Value.int (nI s)), some (Value.int (nI t)), some (Value.int (f)), some (Value.int (nI (T t).1)), some (Value.int (nI j)), none, none, none, none]) (fun j => zft M 4 (2 * (T t).1) (tDb (T t).2 f) j 0) (n := 2 * (T t).1) (2 * (T t).1) 0 (by omega) ?_ ?_ ?_
          · rw [zft_0] at R
            have h2 : 2 * (T t).1 ≤ 8 := by omega
            refine ⟨zcp (zup (zft M 4 (2 * (T t).1) (tDb (T t).2 f) (2 * (T t).1) 0) 33 4 (nI (2 * (T t).1))) s 4 64, ?_, ?_, ?_, ?_⟩
            · simp (disch := omega) [zf_M_doubled, zmeth, xm_en, zret, zretz, zretv, zseq, zst, zinc, zkl, zskip, zk, zi, za, zbin, zdiv, zrem, zgi, zgr, zld, zldr, zlen, zn, zc, zcall, zcallv, zrcv, zdo, zdov, zpf, zpfc, zas, zasc, zmin, zmax, zcmp, zcz, zand_e, zor_e, zite_e, zbite_e, zif_e, znot_e, z_add, z_sub, z_mul, z_and, z_or, z_xor, z_shl, z_shr, zcpy, -List.getElem?_cons_succ, zg_0, zg_1, zg_2, zg_3, zg_4, zg_5, zg_6, zg_7, zg_8, zg_9, zt_0, zt_12, zt_20, zt_26, zt_32, zf_0_0, zf_0_1, zf_0_2, zf_0_3, zf_0_4, zf_12_0, zf_12_1, zf_12_2, zf_12_4, zf_12_5, zf_20_1, zf_20_2, zf_20_3, zf_20_4, zf_20_6, zf_26_0, zf_26_1, zf_26_2, zf_26_3, zf_32_0, zf_32_1, zf_32_3, zf_32_4, zf_32_5, zf_32_6, zc_lt, zc_le, zc_gt, zc_ge, zc_eq, zc_ne, zc_lt0, zc_ge0, zc_gt0, zc_eq0, zc_ne0, zb_ne, zb_eq, zb_01, z_00, z_01, z_11, zb_f, zb_T, zb_F, zbm1, zbm2, zbm5, zbm6, zbm3, zbm4, nI_clamp, zmod_n, pk_div, nI_ne0, pk_mul, nI_add, nI_1, qM_isTable, e, e2, aDb, hok, ct, hb, qM_isFull h6 (hR t ht) h8, (hR t ht).1, n4, R, zi_33, qM_copies]
            · simp only [sDb, hok, cond_true, ct, cs]
              exact RS_cp4 hT hs h2 hR zsr4 (rT4 h2)
            · simp only [sDb, hok, cond_true, ct, cs]
              exact TO_set hT (tO_db (hT t ht) hf h4)
            · exact zlo.trans (zsr4 (M := M)).lo zlo_cp
          · intro j g1 g2
            simp (disch := omega) [zc_M_doubled_1, zmeth, xm_en, zret, zretz, zretv, zseq, zst, zinc, zkl, zskip, zk, zi, za, zbin, zdiv, zrem, zgi, zgr, zld, zldr, zlen, zn, zc, zcall, zcallv, zrcv, zdo, zdov, zpf, zpfc, zas, zasc, zmin, zmax, zcmp, zcz, zand_e, zor_e, zite_e, zbite_e, zif_e, znot_e, z_add, z_sub, z_mul, z_and, z_or, z_xor, z_shl, z_shr, zcpy, -List.getElem?_cons_succ, zg_0, zg_1, zg_2, zg_3, zg_4, zg_5, zg_6, zg_7, zg_8, zg_9, zc_lt, zc_le, zc_gt, zc_ge, zc_eq, zc_ne, zc_lt0, zc_ge0, zc_gt0, zc_eq0, zc_ne0, zb_ne, zb_eq, zb_01, z_00, z_01, z_11, zb_f, zb_T, zb_F, zbm1, zbm2, zbm5, zbm6, zbm3, zbm4, nI_clamp, zmod_n, pk_div, nI_ne0, pk_mul, nI_add, nI_1, g2]
          · intro j g1 g2
            have R2 := qM_doubled2 (s := s) (f := f) ht (hR t ht) h4 hf g2
            simp (disch := omega) [zs_M_doubled_1, zmeth, xm_en, zret, zretz, zretv, zseq, zst, zinc, zkl, zskip, zk, zi, za, zbin, zdiv, zrem, zgi, zgr, zld, zldr, zlen, zn, zc, zcall, zcallv, zrcv, zdo, zdov, zpf, zpfc, zas, zasc, zmin, zmax, zcmp, zcz, zand_e, zor_e, zite_e, zbite_e, zif_e, znot_e, z_add, z_sub, z_mul, z_and, z_or, z_xor, z_shl, z_shr, zcpy, -List.getElem?_cons_succ, zg_0, zg_1, zg_2, zg_3, zg_4, zg_5, zg_6, zg_7, zg_8, zg_9, zc_lt, zc_le, zc_gt, zc_ge, zc_eq, zc_ne, zc_lt0, zc_ge0, zc_gt0, zc_eq0, zc_ne0, zb_ne, zb_eq, zb_01, z_00, z_01, z_11, zb_f, zb_T, zb_F, zbm1, zbm2, zbm5, zbm6, zbm3, zbm4, nI_clamp, zmod_n, pk_div, nI_ne0, pk_mul, nI_add, nI_1, R2]
          · simp (disch := omega) [zc_M_doubled_1, zmeth, xm_en, zret, zretz, zretv, zseq, zst, zinc, zkl, zskip, zk, zi, za, zbin, zdiv, zrem, zgi, zgr, zld, zldr, zlen, zn, zc, zcall, zcallv, zrcv, zdo, zdov, zpf, zpfc, zas, zasc, zmin, zmax, zcmp, zcz, zand_e, zor_e, zite_e, zbite_e, zif_e, znot_e, z_add, z_sub, z_mul, z_and, z_or, z_xor, z_shl, z_shr, zcpy, -List.getElem?_cons_succ, zg_0, zg_1, zg_2, zg_3, zg_4, zg_5, zg_6, zg_7, zg_8, zg_9, zc_lt, zc_le, zc_gt, zc_ge, zc_eq, zc_ne, zc_lt0, zc_ge0, zc_gt0, zc_eq0, zc_ne0, zb_ne, zb_eq, zb_01, z_00, z_01, z_11, zb_f, zb_T, zb_F, zbm1, zbm2, zbm5, zbm6, zbm3, zbm4, nI_clamp, zmod_n, pk_div, nI_ne0, pk_mul, nI_add, nI_1]
        · refine ⟨M, ?_, by simpa [sDb, okDb, ct, hb, h4] using hR, by simpa [sDb, okDb, ct, hb, h4] using hT, zlo.refl M⟩
          have n4 : 4 < (T t).1 := by omega
          simp (disch := omega) [zf_M_doubled, zmeth, xm_en, zret, zretz, zretv, zseq, zst, zinc, zkl, zskip, zk, zi, za, zbin, zdiv, zrem, zgi, zgr, zld, zldr, zlen, zn, zc, zcall, zcallv, zrcv, zdo, zdov, zpf, zpfc, zas, zasc, zmin, zmax, zcmp, zcz, zand_e, zor_e, zite_e, zbite_e, zif_e, znot_e, z_add, z_sub, z_mul, z_and, z_or, z_xor, z_shl, z_shr, zcpy, -List.getElem?_cons_succ, zg_0, zg_1, zg_2, zg_3, zg_4, zg_5, zg_6, zg_7, zg_8, zg_9, zt_0, zt_12, zt_20, zt_26, zt_32, zf_0_0, zf_0_1, zf_0_2, zf_0_3, zf_0_4, zf_12_0, zf_12_1, zf_12_2, zf_12_4, zf_12_5, zf_20_1, zf_20_2, zf_20_3, zf_20_4, zf_20_6, zf_26_0, zf_26_1, zf_26_2, zf_26_3, zf_32_0, zf_32_1, zf_32_3, zf_32_4, zf_32_5, zf_32_6, zc_lt, zc_le, zc_gt, zc_ge, zc_eq, zc_ne, zc_lt0, zc_ge0, zc_gt0, zc_eq0, zc_ne0, zb_ne, zb_eq, zb_01, z_00, z_01, z_11, zb_f, zb_T, zb_F, zbm1, zbm2, zbm5, zbm6, zbm3, zbm4, nI_clamp, zmod_n, pk_div, nI_ne0, pk_mul, nI_add, nI_1, qM_isTable, e, e2, aDb, okDb, ct, hb, h4, zi_33, qM_isFull h6 (hR t ht) h8, (hR t ht).1, n4]
/-! product -/
def tPr (c d : tC) (m : Nat) : tC := fun x y => m * c (x / m) (y / m) + d (x % m) (y % m)
theorem pr_lt {a b n m : Nat} (ha : a < n) (hb : b < m) : m * a + b < n * m := by
  have h1 : m * (a + 1) ≤ m * n := Nat.mul_le_mul_left m ha
  rw [Nat.mul_succ, Nat.mul_comm m n] at h1
  omega
theorem pr_div {a b m : Nat} (hb : b < m) : (m * a + b) / m = a := by
  rw [Nat.mul_add_div (by omega), Nat.div_eq_of_lt hb, Nat.add_zero]
theorem pr_mod {a b m : Nat} (hb : b < m) : (m * a + b) % m = b := by
  rw [Nat.mul_add_mod, Nat.mod_eq_of_lt hb]
theorem pr_inj {a b a' b' m : Nat} (hb : b < m) (hb' : b' < m) (h : m * a + b = m * a' + b') : a = a' ∧ b = b' := by
  have h1 := pr_div (a := a) hb
  have h2 := pr_div (a := a') hb'
  have h3 := pr_mod (a := a) hb
  have h4 := pr_mod (a := a') hb'
  rw [h] at h1 h3
  exact ⟨h1.symm.trans h2, h3.symm.trans h4⟩
theorem tF_pr {n m : Nat} {c d : tC} (hc : tF n c) (hd : tF m d) : tF (n * m) (tPr c d m) := fun x y hx hy => by
  have hm : 0 < m := by
    rcases Nat.eq_zero_or_pos m with h | h
    · rw [h] at hx; omega
    · exact h
  exact pr_lt (hc _ _ (Nat.div_lt_of_lt_mul (by rw [Nat.mul_comm]; exact hx)) (Nat.div_lt_of_lt_mul (by rw [Nat.mul_comm]; exact hy))) (hd _ _ (Nat.mod_lt _ hm) (Nat.mod_lt _ hm))
theorem tO_pr {n m : Nat} {c d : tC} (hc : tO n c) (hd : tO m d) (fc : tF n c) (fd : tF m d) (h8 : n * m ≤ 8) : tO (n * m) (tPr c d m) := by
  have hm : 0 < m := hd.1.1
  have hn : 0 < n := hc.1.1
  have h1 : 1 ≤ n * m := Nat.mul_pos hn hm
  have hF := tF_pr fc fd
  have dv : ∀ x, x < n * m → x / m < n := fun x hx => Nat.div_lt_of_lt_mul (by rw [Nat.mul_comm]; exact hx)
  have md : ∀ x, x % m < m := fun x => Nat.mod_lt _ hm
  have c8 : ∀ a b, a < n → b < n → c a b < 8 := fun a b ha hb => by have := fc a b ha hb; have := hc.1.2; omega
  have d8 : ∀ a b, a < m → b < m → d a b < 8 := fun a b ha hb => by have := fd a b ha hb; have := hd.1.2; omega
  refine ⟨⟨h1, h8⟩, fun a ha => ?_, fun a b ha hb => Or.inl (hF a b ha hb), fun a b e ha hb he g1 g2 => ?_, fun a b e ha hb he g1 g2 => ?_⟩
  · unfold tPr
    rw [Nat.zero_div, Nat.zero_mod, (hc.2.1 _ (dv a ha)).1, (hc.2.1 _ (dv a ha)).2, (hd.2.1 _ (md a)).1, (hd.2.1 _ (md a)).2]
    exact ⟨Nat.div_add_mod a m, Nat.div_add_mod a m⟩
  · unfold tPr at g1
    obtain ⟨e1, e2⟩ := pr_inj (fd _ _ (md a) (md b)) (fd _ _ (md a) (md e)) g1
    have q1 := hc.2.2.2.1 _ _ _ (dv a ha) (dv b hb) (dv e he) e1 (c8 _ _ (dv a ha) (dv b hb))
    have q2 := hd.2.2.2.1 _ _ _ (md a) (md b) (md e) e2 (d8 _ _ (md a) (md b))
    rw [← Nat.div_add_mod b m, ← Nat.div_add_mod e m, q1, q2]
  · unfold tPr at g1
    obtain ⟨e1, e2⟩ := pr_inj (fd _ _ (md a) (md e)) (fd _ _ (md b) (md e)) g1
    have q1 := hc.2.2.2.2 _ _ _ (dv a ha) (dv b hb) (dv e he) e1 (c8 _ _ (dv a ha) (dv e he))
    have q2 := hd.2.2.2.2 _ _ _ (md a) (md b) (md e) e2 (d8 _ _ (md a) (md e))
    rw [← Nat.div_add_mod a m, ← Nat.div_add_mod b m, q1, q2]
theorem qG_pr4 {M : zM} {k k2 n m a b e : Nat} {c d : tC} (hk : ztb k) (hk2 : ztb k2) (hne : k ≠ 10) (hne2 : k2 ≠ 10) (h : kT M k n c) (h2 : kT M k2 m d) (h10 : M 10 0 = nI (n * m)) (h8 : n * m ≤ 8) (hn8 : n ≤ 8) (hm8 : m ≤ 8) (fc : tF n c) (fd : tF m d) (ha : a < n) (hb : b < m) (he : e < n) : zwh zc_Larger_buildProduct_4 zs_Larger_buildProduct_4 [some (Value.ref (k)), some (Value.ref (k2)), some (Value.ref (10)), some (Value.int (nI m)), some (Value.int (nI a)), some (Value.int (nI b)), some (Value.int (nI e)), some (Value.int (nI 0))] (zkf M 10 (n * m) (tPr c d m) (m * a + b) (m * e)) = some (none, [some (Value.ref (k)), some (Value.ref (k2)), some (Value.ref (10)), some (Value.int (nI m)), some (Value.int (nI a)), some (Value.int (nI b)), some (Value.int (nI e)), some (Value.int (nI m))], zkf M 10 (n * m) (tPr c d m) (m * a + b) (m * (e + 1))) := by
  have hx := pr_lt ha hb
  refine zwh_up (c := zc_Larger_buildProduct_4) (s := zs_Larger_buildProduct_4) (fun j => [some (Value.ref (k)), some (Value.ref (k2)), some (Value.ref (10)), some (Value.int (nI m)), some (Value.int (nI a)), some (Value.int (nI b)), some (Value.int (nI e)), some (Value.int (nI j))]) (fun j => zkf M 10 (n * m) (tPr c d m) (m * a + b) (m * e + j)) (n := m) m 0 (by omega) ?_ ?_ ?_
  · intro j g1 g2
    simp (disch := omega) [zc_Larger_buildProduct_4, zmeth, xm_en, zret, zretz, zretv, zseq, zst, zinc, zkl, zskip, zk, zi, za, zbin, zdiv, zrem, zgi, zgr, zld, zldr, zlen, zn, zc, zcall, zcallv, zrcv, zdo, zdov, zpf, zpfc, zas, zasc, zmin, zmax, zcmp, zcz, zand_e, zor_e, zite_e, zbite_e, zif_e, znot_e, z_add, z_sub, z_mul, z_and, z_or, z_xor, z_shl, z_shr, zcpy, -List.getElem?_cons_succ, zg_0, zg_1, zg_2, zg_3, zg_4, zg_5, zg_6, zg_7, zg_8, zg_9, zc_lt, zc_le, zc_gt, zc_ge, zc_eq, zc_ne, zc_lt0, zc_ge0, zc_gt0, zc_eq0, zc_ne0, zb_ne, zb_eq, zb_01, z_00, z_01, z_11, zb_f, zb_T, zb_F, zbm1, zbm2, zbm5, zbm6, zbm3, zbm4, nI_clamp, zmod_n, pk_div, nI_ne0, pk_mul, nI_add, nI_1, g2]
  · intro j g1 g2
    have hy := pr_lt he g2
    have k1 := kT_kf (m := n * m) (d := tPr c d m) (a := m * a + b) (b := m * e + j) hk tb10 hne h
    have k3 := kT_kf (m := n * m) (d := tPr c d m) (a := m * a + b) (b := m * e + j) hk2 tb10 hne2 h2
    have q1 := qT_mul hk k1 hn8 fc ha he
    have q2 := qT_mul hk2 k3 hm8 fd hb g2
    have e1 := zkf_s (M := M) (k := 10) (c := tPr c d m) h8 (show m * a + b < 8 by omega) hy
    have vl := pr_lt (fc a e ha he) (fd b j hb g2)
    have ev : zcl (-1) (tPr c d m (m * a + b) (m * e + j)) = nI (m * c a e + d b j) := by
      unfold tPr
      rw [pr_div hb, pr_div g2, pr_mod hb, pr_mod g2]
      exact zcl_lt (by omega)
    rw [ev] at e1
    have p := qT_put (M := zkf M 10 (n * m) (tPr c d m) (m * a + b) (m * e + j)) (v := nI (m * c a e + d b j)) tb10 (by rw [zkf_out (by omega)]; exact h10) h8 hx hy
    simp (disch := omega) [zs_Larger_buildProduct_4, zmeth, xm_en, zret, zretz, zretv, zseq, zst, zinc, zkl, zskip, zk, zi, za, zbin, zdiv, zrem, zgi, zgr, zld, zldr, zlen, zn, zc, zcall, zcallv, zrcv, zdo, zdov, zpf, zpfc, zas, zasc, zmin, zmax, zcmp, zcz, zand_e, zor_e, zite_e, zbite_e, zif_e, znot_e, z_add, z_sub, z_mul, z_and, z_or, z_xor, z_shl, z_shr, zcpy, -List.getElem?_cons_succ, zg_0, zg_1, zg_2, zg_3, zg_4, zg_5, zg_6, zg_7, zg_8, zg_9, zc_lt, zc_le, zc_gt, zc_ge, zc_eq, zc_ne, zc_lt0, zc_ge0, zc_gt0, zc_eq0, zc_ne0, zb_ne, zb_eq, zb_01, z_00, z_01, z_11, zb_f, zb_T, zb_F, zbm1, zbm2, zbm5, zbm6, zbm3, zbm4, nI_clamp, zmod_n, pk_div, nI_ne0, pk_mul, nI_add, nI_1, ztb_tag tb10, ztb_tag hk, ztb_tag hk2, q1, q2, p, e1, Nat.add_assoc]
  · simp (disch := omega) [zc_Larger_buildProduct_4, zmeth, xm_en, zret, zretz, zretv, zseq, zst, zinc, zkl, zskip, zk, zi, za, zbin, zdiv, zrem, zgi, zgr, zld, zldr, zlen, zn, zc, zcall, zcallv, zrcv, zdo, zdov, zpf, zpfc, zas, zasc, zmin, zmax, zcmp, zcz, zand_e, zor_e, zite_e, zbite_e, zif_e, znot_e, z_add, z_sub, z_mul, z_and, z_or, z_xor, z_shl, z_shr, zcpy, -List.getElem?_cons_succ, zg_0, zg_1, zg_2, zg_3, zg_4, zg_5, zg_6, zg_7, zg_8, zg_9, zc_lt, zc_le, zc_gt, zc_ge, zc_eq, zc_ne, zc_lt0, zc_ge0, zc_gt0, zc_eq0, zc_ne0, zb_ne, zb_eq, zb_01, z_00, z_01, z_11, zb_f, zb_T, zb_F, zbm1, zbm2, zbm5, zbm6, zbm3, zbm4, nI_clamp, zmod_n, pk_div, nI_ne0, pk_mul, nI_add, nI_1]
theorem qG_pr3 {M : zM} {k k2 n m a b : Nat} {c d : tC} (hk : ztb k) (hk2 : ztb k2) (hne : k ≠ 10) (hne2 : k2 ≠ 10) (h : kT M k n c) (h2 : kT M k2 m d) (h10 : M 10 0 = nI (n * m)) (h8 : n * m ≤ 8) (hn8 : n ≤ 8) (hm8 : m ≤ 8) (fc : tF n c) (fd : tF m d) (ha : a < n) (hb : b < m) : zwh zc_Larger_buildProduct_3 zs_Larger_buildProduct_3 [some (Value.ref (k)), some (Value.ref (k2)), some (Value.ref (10)), some (Value.int (nI m)), some (Value.int (nI a)), some (Value.int (nI b)), some (Value.int (nI 0)), none] (zkf M 10 (n * m) (tPr c d m) (m * a + b) 0) = some (none, [some (Value.ref (k)), some (Value.ref (k2)), some (Value.ref (10)), some (Value.int (nI m)), some (Value.int (nI a)), some (Value.int (nI b)), some (Value.int (nI n)), none], zkf M 10 (n * m) (tPr c d m) (m * a + (b + 1)) 0) := by
  have e0 : zkf M 10 (n * m) (tPr c d m) (m * a + (b + 1)) 0 = zkf M 10 (n * m) (tPr c d m) (m * a + b) (m * n) := by rw [Nat.mul_comm m n, zkf_r]; rfl
  rw [e0]
  refine zwh_up (c := zc_Larger_buildProduct_3) (s := zs_Larger_buildProduct_3) (fun j => [some (Value.ref (k)), some (Value.ref (k2)), some (Value.ref (10)), some (Value.int (nI m)), some (Value.int (nI a)), some (Value.int (nI b)), some (Value.int (nI j)), none]) (fun j => zkf M 10 (n * m) (tPr c d m) (m * a + b) (m * j)) (n := n) n 0 (by omega) ?_ ?_ ?_
  · intro j g1 g2
    have k1 := kT_kf (m := n * m) (d := tPr c d m) (a := m * a + b) (b := m * j) hk tb10 hne h
    simp (disch := omega) [zc_Larger_buildProduct_3, zmeth, xm_en, zret, zretz, zretv, zseq, zst, zinc, zkl, zskip, zk, zi, za, zbin, zdiv, zrem, zgi, zgr, zld, zldr, zlen, zn, zc, zcall, zcallv, zrcv, zdo, zdov, zpf, zpfc, zas, zasc, zmin, zmax, zcmp, zcz, zand_e, zor_e, zite_e, zbite_e, zif_e, znot_e, z_add, z_sub, z_mul, z_and, z_or, z_xor, z_shl, z_shr, zcpy, -List.getElem?_cons_succ, zg_0, zg_1, zg_2, zg_3, zg_4, zg_5, zg_6, zg_7, zg_8, zg_9, zc_lt, zc_le, zc_gt, zc_ge, zc_eq, zc_ne, zc_lt0, zc_ge0, zc_gt0, zc_eq0, zc_ne0, zb_ne, zb_eq, zb_01, z_00, z_01, z_11, zb_f, zb_T, zb_F, zbm1, zbm2, zbm5, zbm6, zbm3, zbm4, nI_clamp, zmod_n, pk_div, nI_ne0, pk_mul, nI_add, nI_1, ztb_tag hk, k1.1, g2]
  · intro j g1 g2
    have R := qG_pr4 hk hk2 hne hne2 h h2 h10 h8 hn8 hm8 fc fd ha hb g2
    simp (disch := omega) [zs_Larger_buildProduct_3, zmeth, xm_en, zret, zretz, zretv, zseq, zst, zinc, zkl, zskip, zk, zi, za, zbin, zdiv, zrem, zgi, zgr, zld, zldr, zlen, zn, zc, zcall, zcallv, zrcv, zdo, zdov, zpf, zpfc, zas, zasc, zmin, zmax, zcmp, zcz, zand_e, zor_e, zite_e, zbite_e, zif_e, znot_e, z_add, z_sub, z_mul, z_and, z_or, z_xor, z_shl, z_shr, zcpy, -List.getElem?_cons_succ, zg_0, zg_1, zg_2, zg_3, zg_4, zg_5, zg_6, zg_7, zg_8, zg_9, zc_lt, zc_le, zc_gt, zc_ge, zc_eq, zc_ne, zc_lt0, zc_ge0, zc_gt0, zc_eq0, zc_ne0, zb_ne, zb_eq, zb_01, z_00, z_01, z_11, zb_f, zb_T, zb_F, zbm1, zbm2, zbm5, zbm6, zbm3, zbm4, nI_clamp, zmod_n, pk_div, nI_ne0, pk_mul, nI_add, nI_1, R]
  · have k1 := kT_kf (m := n * m) (d := tPr c d m) (a := m * a + b) (b := m * n) hk tb10 hne h
    simp (disch := omega) [zc_Larger_buildProduct_3, zmeth, xm_en, zret, zretz, zretv, zseq, zst, zinc, zkl, zskip, zk, zi, za, zbin, zdiv, zrem, zgi, zgr, zld, zldr, zlen, zn, zc, zcall, zcallv, zrcv, zdo, zdov, zpf, zpfc, zas, zasc, zmin, zmax, zcmp, zcz, zand_e, zor_e, zite_e, zbite_e, zif_e, znot_e, z_add, z_sub, z_mul, z_and, z_or, z_xor, z_shl, z_shr, zcpy, -List.getElem?_cons_succ, zg_0, zg_1, zg_2, zg_3, zg_4, zg_5, zg_6, zg_7, zg_8, zg_9, zc_lt, zc_le, zc_gt, zc_ge, zc_eq, zc_ne, zc_lt0, zc_ge0, zc_gt0, zc_eq0, zc_ne0, zb_ne, zb_eq, zb_01, z_00, z_01, z_11, zb_f, zb_T, zb_F, zbm1, zbm2, zbm5, zbm6, zbm3, zbm4, nI_clamp, zmod_n, pk_div, nI_ne0, pk_mul, nI_add, nI_1, ztb_tag hk, k1.1]
theorem qG_pr2 {M : zM} {k k2 n m a : Nat} {c d : tC} (hk : ztb k) (hk2 : ztb k2) (hne : k ≠ 10) (hne2 : k2 ≠ 10) (h : kT M k n c) (h2 : kT M k2 m d) (h10 : M 10 0 = nI (n * m)) (h8 : n * m ≤ 8) (hn8 : n ≤ 8) (hm8 : m ≤ 8) (fc : tF n c) (fd : tF m d) (ha : a < n) : zwh zc_Larger_buildProduct_2 zs_Larger_buildProduct_2 [some (Value.ref (k)), some (Value.ref (k2)), some (Value.ref (10)), some (Value.int (nI m)), some (Value.int (nI a)), some (Value.int (nI 0)), none, none] (zkf M 10 (n * m) (tPr c d m) (m * a) 0) = some (none, [some (Value.ref (k)), some (Value.ref (k2)), some (Value.ref (10)), some (Value.int (nI m)), some (Value.int (nI a)), some (Value.int (nI m)), none, none], zkf M 10 (n * m) (tPr c d m) (m * (a + 1)) 0) := by
  refine zwh_up (c := zc_Larger_buildProduct_2) (s := zs_Larger_buildProduct_2) (fun j => [some (Value.ref (k)), some (Value.ref (k2)), some (Value.ref (10)), some (Value.int (nI m)), some (Value.int (nI a)), some (Value.int (nI j)), none, none]) (fun j => zkf M 10 (n * m) (tPr c d m) (m * a + j) 0) (n := m) m 0 (by omega) ?_ ?_ ?_
  · intro j g1 g2
    simp (disch := omega) [zc_Larger_buildProduct_2, zmeth, xm_en, zret, zretz, zretv, zseq, zst, zinc, zkl, zskip, zk, zi, za, zbin, zdiv, zrem, zgi, zgr, zld, zldr, zlen, zn, zc, zcall, zcallv, zrcv, zdo, zdov, zpf, zpfc, zas, zasc, zmin, zmax, zcmp, zcz, zand_e, zor_e, zite_e, zbite_e, zif_e, znot_e, z_add, z_sub, z_mul, z_and, z_or, z_xor, z_shl, z_shr, zcpy, -List.getElem?_cons_succ, zg_0, zg_1, zg_2, zg_3, zg_4, zg_5, zg_6, zg_7, zg_8, zg_9, zc_lt, zc_le, zc_gt, zc_ge, zc_eq, zc_ne, zc_lt0, zc_ge0, zc_gt0, zc_eq0, zc_ne0, zb_ne, zb_eq, zb_01, z_00, z_01, z_11, zb_f, zb_T, zb_F, zbm1, zbm2, zbm5, zbm6, zbm3, zbm4, nI_clamp, zmod_n, pk_div, nI_ne0, pk_mul, nI_add, nI_1, g2]
  · intro j g1 g2
    have R := qG_pr3 hk hk2 hne hne2 h h2 h10 h8 hn8 hm8 fc fd ha g2
    simp (disch := omega) [zs_Larger_buildProduct_2, zmeth, xm_en, zret, zretz, zretv, zseq, zst, zinc, zkl, zskip, zk, zi, za, zbin, zdiv, zrem, zgi, zgr, zld, zldr, zlen, zn, zc, zcall, zcallv, zrcv, zdo, zdov, zpf, zpfc, zas, zasc, zmin, zmax, zcmp, zcz, zand_e, zor_e, zite_e, zbite_e, zif_e, znot_e, z_add, z_sub, z_mul, z_and, z_or, z_xor, z_shl, z_shr, zcpy, -List.getElem?_cons_succ, zg_0, zg_1, zg_2, zg_3, zg_4, zg_5, zg_6, zg_7, zg_8, zg_9, zc_lt, zc_le, zc_gt, zc_ge, zc_eq, zc_ne, zc_lt0, zc_ge0, zc_gt0, zc_eq0, zc_ne0, zb_ne, zb_eq, zb_01, z_00, z_01, z_11, zb_f, zb_T, zb_F, zbm1, zbm2, zbm5, zbm6, zbm3, zbm4, nI_clamp, zmod_n, pk_div, nI_ne0, pk_mul, nI_add, nI_1, R]
  · simp (disch := omega) [zc_Larger_buildProduct_2, zmeth, xm_en, zret, zretz, zretv, zseq, zst, zinc, zkl, zskip, zk, zi, za, zbin, zdiv, zrem, zgi, zgr, zld, zldr, zlen, zn, zc, zcall, zcallv, zrcv, zdo, zdov, zpf, zpfc, zas, zasc, zmin, zmax, zcmp, zcz, zand_e, zor_e, zite_e, zbite_e, zif_e, znot_e, z_add, z_sub, z_mul, z_and, z_or, z_xor, z_shl, z_shr, zcpy, -List.getElem?_cons_succ, zg_0, zg_1, zg_2, zg_3, zg_4, zg_5, zg_6, zg_7, zg_8, zg_9, zc_lt, zc_le, zc_gt, zc_ge, zc_eq, zc_ne, zc_lt0, zc_ge0, zc_gt0, zc_eq0, zc_ne0, zb_ne, zb_eq, zb_01, z_00, z_01, z_11, zb_f, zb_T, zb_F, zbm1, zbm2, zbm5, zbm6, zbm3, zbm4, nI_clamp, zmod_n, pk_div, nI_ne0, pk_mul, nI_add, nI_1]
theorem qG_product {M : zM} {k k2 n m : Nat} {c d : tC} (hk : ztb k) (hk2 : ztb k2) (hne : k ≠ 10) (hne2 : k2 ≠ 10) (h : kT M k n c) (h2 : kT M k2 m d) (hn1 : 1 ≤ n) (hm1 : 1 ≤ m) (h8 : n * m ≤ 8) (hn8 : n ≤ 8) (hm8 : m ≤ 8) (fc : tF n c) (fd : tF m d) : ∃ M', zf_Larger_buildProduct [.ref k, .ref k2, .ref 10] M = some (none, M') ∧ kT M' 10 (n * m) (tPr c d m) ∧ zsc M M' := by
  have j1 := kT_rs (m := n * m) (i := n * m) hk tb10 hne h
  have j2 := kT_rs (m := n * m) (i := n * m) hk2 tb10 hne2 h2
  have hp : 1 ≤ n * m := Nat.mul_pos hn1 hm1
  have h10 : zrs M 10 (n * m) (n * m) 10 0 = nI (n * m) := by simp [zrs]
  have R := zwh_up (c := zc_Larger_buildProduct_1) (s := zs_Larger_buildProduct_1) (fun j => [some (Value.ref (k)), some (Value.ref (k2)), some (Value.ref (10)), some (Value.int (nI m)), some (Value.int (nI j)), none, none, none]) (fun j => zkf (zrs M 10 (n * m) (n * m)) 10 (n * m) (tPr c d m) (m * j) 0) (n := n) n 0 (by omega) ?_ ?_ ?_
  · rw [Nat.mul_zero, zkf_0, Nat.mul_comm m n] at R
    refine ⟨zkf (zrs M 10 (n * m) (n * m)) 10 (n * m) (tPr c d m) (n * m) 0, ?_, zkf_kT h8 h10, ?_⟩
    · simp (disch := omega) [zf_Larger_buildProduct, zmeth, xm_en, zret, zretz, zretv, zseq, zst, zinc, zkl, zskip, zk, zi, za, zbin, zdiv, zrem, zgi, zgr, zld, zldr, zlen, zn, zc, zcall, zcallv, zrcv, zdo, zdov, zpf, zpfc, zas, zasc, zmin, zmax, zcmp, zcz, zand_e, zor_e, zite_e, zbite_e, zif_e, znot_e, z_add, z_sub, z_mul, z_and, z_or, z_xor, z_shl, z_shr, zcpy, -List.getElem?_cons_succ, zg_0, zg_1, zg_2, zg_3, zg_4, zg_5, zg_6, zg_7, zg_8, zg_9, zc_lt, zc_le, zc_gt, zc_ge, zc_eq, zc_ne, zc_lt0, zc_ge0, zc_gt0, zc_eq0, zc_ne0, zb_ne, zb_eq, zb_01, z_00, z_01, z_11, zb_f, zb_T, zb_F, zbm1, zbm2, zbm5, zbm6, zbm3, zbm4, nI_clamp, zmod_n, pk_div, nI_ne0, pk_mul, nI_add, nI_1, ztb_tag tb10, ztb_tag hk, ztb_tag hk2, h.1, h2.1, qT_restart tb10 hp h8, R]
    · intro q j hq
      rw [zkf_out (by omega)]
      unfold zrs
      rw [if_neg (by omega), if_neg (by omega)]
  · intro j g1 g2
    have k1 := kT_kf (m := n * m) (d := tPr c d m) (a := m * j) (b := 0) hk tb10 hne j1
    simp (disch := omega) [zc_Larger_buildProduct_1, zmeth, xm_en, zret, zretz, zretv, zseq, zst, zinc, zkl, zskip, zk, zi, za, zbin, zdiv, zrem, zgi, zgr, zld, zldr, zlen, zn, zc, zcall, zcallv, zrcv, zdo, zdov, zpf, zpfc, zas, zasc, zmin, zmax, zcmp, zcz, zand_e, zor_e, zite_e, zbite_e, zif_e, znot_e, z_add, z_sub, z_mul, z_and, z_or, z_xor, z_shl, z_shr, zcpy, -List.getElem?_cons_succ, zg_0, zg_1, zg_2, zg_3, zg_4, zg_5, zg_6, zg_7, zg_8, zg_9, zc_lt, zc_le, zc_gt, zc_ge, zc_eq, zc_ne, zc_lt0, zc_ge0, zc_gt0, zc_eq0, zc_ne0, zb_ne, zb_eq, zb_01, z_00, z_01, z_11, zb_f, zb_T, zb_F, zbm1, zbm2, zbm5, zbm6, zbm3, zbm4, nI_clamp, zmod_n, pk_div, nI_ne0, pk_mul, nI_add, nI_1, ztb_tag hk, k1.1, g2]
  · intro j g1 g2
    have R2 := qG_pr2 hk hk2 hne hne2 j1 j2 h10 h8 hn8 hm8 fc fd g2
    simp (disch := omega) [zs_Larger_buildProduct_1, zmeth, xm_en, zret, zretz, zretv, zseq, zst, zinc, zkl, zskip, zk, zi, za, zbin, zdiv, zrem, zgi, zgr, zld, zldr, zlen, zn, zc, zcall, zcallv, zrcv, zdo, zdov, zpf, zpfc, zas, zasc, zmin, zmax, zcmp, zcz, zand_e, zor_e, zite_e, zbite_e, zif_e, znot_e, z_add, z_sub, z_mul, z_and, z_or, z_xor, z_shl, z_shr, zcpy, -List.getElem?_cons_succ, zg_0, zg_1, zg_2, zg_3, zg_4, zg_5, zg_6, zg_7, zg_8, zg_9, zc_lt, zc_le, zc_gt, zc_ge, zc_eq, zc_ne, zc_lt0, zc_ge0, zc_gt0, zc_eq0, zc_ne0, zb_ne, zb_eq, zb_01, z_00, z_01, z_11, zb_f, zb_T, zb_F, zbm1, zbm2, zbm5, zbm6, zbm3, zbm4, nI_clamp, zmod_n, pk_div, nI_ne0, pk_mul, nI_add, nI_1, R2]
  · have k1 := kT_kf (m := n * m) (d := tPr c d m) (a := m * n) (b := 0) hk tb10 hne j1
    simp (disch := omega) [zc_Larger_buildProduct_1, zmeth, xm_en, zret, zretz, zretv, zseq, zst, zinc, zkl, zskip, zk, zi, za, zbin, zdiv, zrem, zgi, zgr, zld, zldr, zlen, zn, zc, zcall, zcallv, zrcv, zdo, zdov, zpf, zpfc, zas, zasc, zmin, zmax, zcmp, zcz, zand_e, zor_e, zite_e, zbite_e, zif_e, znot_e, z_add, z_sub, z_mul, z_and, z_or, z_xor, z_shl, z_shr, zcpy, -List.getElem?_cons_succ, zg_0, zg_1, zg_2, zg_3, zg_4, zg_5, zg_6, zg_7, zg_8, zg_9, zc_lt, zc_le, zc_gt, zc_ge, zc_eq, zc_ne, zc_lt0, zc_ge0, zc_gt0, zc_eq0, zc_ne0, zb_ne, zb_eq, zb_01, z_00, z_01, z_11, zb_f, zb_T, zb_F, zbm1, zbm2, zbm5, zbm6, zbm3, zbm4, nI_clamp, zmod_n, pk_div, nI_ne0, pk_mul, nI_add, nI_1, ztb_tag hk, k1.1]
def okPr (T : tS) (x y z : Int32) : Bool := zlt x 4 && (zlt y 4 && zlt z 4) && (tB (T y.toNatClampNeg).1 (T y.toNatClampNeg).2 && (tB (T z.toNatClampNeg).1 (T z.toNatClampNeg).2 && decide ((T y.toNatClampNeg).1 * (T z.toNatClampNeg).1 ≤ 8)))
def sPr (T : tS) (x y z : Int32) : tS := bif okPr T x y z then tset T x.toNatClampNeg ((T y.toNatClampNeg).1 * (T z.toNatClampNeg).1) (tPr (T y.toNatClampNeg).2 (T z.toNatClampNeg).2 (T z.toNatClampNeg).1) else T
def aPr (T : tS) (x y z : Int32) : Int32 := bif zlt x 4 && (zlt y 4 && zlt z 4) then (bif okPr T x y z then nI ((T y.toNatClampNeg).1 * (T z.toNatClampNeg).1) else -2) else -1
theorem qL_product {T : tS} {M : zM} (x y z : Int32) (hC : CS T M) (hT : TO T) : ∃ M', zf_L_product [.ref 0, .int x, .int y, .int z] M = some (some (aPr T x y z), M') ∧ CS (sPr T x y z) M' ∧ zhi M M' := by
  rcases z3 x (n := 4) (by decide) with h | ⟨s, hs, rfl⟩
  · refine ⟨M, ?_, by simpa [sPr, okPr, h] using hC, zhi.refl M⟩
    simp [zf_L_product, zmeth, xm_en, zret, zretz, zretv, zseq, zst, zinc, zkl, zskip, zk, zi, za, zbin, zdiv, zrem, zgi, zgr, zld, zldr, zlen, zn, zc, zcall, zcallv, zrcv, zdo, zdov, zpf, zpfc, zas, zasc, zmin, zmax, zcmp, zcz, zand_e, zor_e, zite_e, zbite_e, zif_e, znot_e, z_add, z_sub, z_mul, z_and, z_or, z_xor, z_shl, z_shr, zcpy, -List.getElem?_cons_succ, zg_0, zg_1, zg_2, zg_3, zg_4, zg_5, zg_6, zg_7, zg_8, zg_9, qL_isTable, zb_ne, h, aPr]
  · have e := zlt_y hs (by decide)
    rcases z3 y (n := 4) (by decide) with h | ⟨t, ht, rfl⟩
    · refine ⟨M, ?_, by simpa [sPr, okPr, h] using hC, zhi.refl M⟩
      simp [zf_L_product, zmeth, xm_en, zret, zretz, zretv, zseq, zst, zinc, zkl, zskip, zk, zi, za, zbin, zdiv, zrem, zgi, zgr, zld, zldr, zlen, zn, zc, zcall, zcallv, zrcv, zdo, zdov, zpf, zpfc, zas, zasc, zmin, zmax, zcmp, zcz, zand_e, zor_e, zite_e, zbite_e, zif_e, znot_e, z_add, z_sub, z_mul, z_and, z_or, z_xor, z_shl, z_shr, zcpy, -List.getElem?_cons_succ, zg_0, zg_1, zg_2, zg_3, zg_4, zg_5, zg_6, zg_7, zg_8, zg_9, qL_isTable, zb_ne, e, h, aPr]
    · have e2 := zlt_y ht (by decide)
      rcases z3 z (n := 4) (by decide) with h | ⟨u, hu, rfl⟩
      · refine ⟨M, ?_, by simpa [sPr, okPr, h] using hC, zhi.refl M⟩
        simp [zf_L_product, zmeth, xm_en, zret, zretz, zretv, zseq, zst, zinc, zkl, zskip, zk, zi, za, zbin, zdiv, zrem, zgi, zgr, zld, zldr, zlen, zn, zc, zcall, zcallv, zrcv, zdo, zdov, zpf, zpfc, zas, zasc, zmin, zmax, zcmp, zcz, zand_e, zor_e, zite_e, zbite_e, zif_e, znot_e, z_add, z_sub, z_mul, z_and, z_or, z_xor, z_shl, z_shr, zcpy, -List.getElem?_cons_succ, zg_0, zg_1, zg_2, zg_3, zg_4, zg_5, zg_6, zg_7, zg_8, zg_9, qL_isTable, zb_ne, e, e2, h, aPr]
      · have e3 := zlt_y hu (by decide)
        have h8 := (hT t ht).1.2
        have h8u := (hT u hu).1.2
        have ct : (nI t).toNatClampNeg = t := nI_clamp (by omega)
        have cs : (nI s).toNatClampNeg = s := nI_clamp (by omega)
        have cu : (nI u).toNatClampNeg = u := nI_clamp (by omega)
        have hb64 : (T t).1 * (T u).1 ≤ 8 * 8 := Nat.mul_le_mul h8 h8u
        cases hb : tB (T t).1 (T t).2 with
        | false =>
          refine ⟨M, ?_, by simpa [sPr, okPr, ct, hb] using hC, zhi.refl M⟩
          simp (disch := omega) [zf_L_product, zmeth, xm_en, zret, zretz, zretv, zseq, zst, zinc, zkl, zskip, zk, zi, za, zbin, zdiv, zrem, zgi, zgr, zld, zldr, zlen, zn, zc, zcall, zcallv, zrcv, zdo, zdov, zpf, zpfc, zas, zasc, zmin, zmax, zcmp, zcz, zand_e, zor_e, zite_e, zbite_e, zif_e, znot_e, z_add, z_sub, z_mul, z_and, z_or, z_xor, z_shl, z_shr, zcpy, -List.getElem?_cons_succ, zg_0, zg_1, zg_2, zg_3, zg_4, zg_5, zg_6, zg_7, zg_8, zg_9, zt_0, zt_12, zt_20, zt_26, zt_32, zf_0_0, zf_0_1, zf_0_2, zf_0_3, zf_0_4, zf_12_0, zf_12_1, zf_12_2, zf_12_4, zf_12_5, zf_20_1, zf_20_2, zf_20_3, zf_20_4, zf_20_6, zf_26_0, zf_26_1, zf_26_2, zf_26_3, zf_32_0, zf_32_1, zf_32_3, zf_32_4, zf_32_5, zf_32_6, qL_isTable, zb_ne, e, e2, e3, aPr, okPr, ct, hb, zi_1, zf_1, nI_clamp, ztb_tag (tb4 ht), qT_isFull (tb4 ht) (hC t ht) (hT t ht)]
        | true =>
          cases hb2 : tB (T u).1 (T u).2 with
          | false =>
            refine ⟨M, ?_, by simpa [sPr, okPr, ct, cu, hb, hb2] using hC, zhi.refl M⟩
            simp (disch := omega) [zf_L_product, zmeth, xm_en, zret, zretz, zretv, zseq, zst, zinc, zkl, zskip, zk, zi, za, zbin, zdiv, zrem, zgi, zgr, zld, zldr, zlen, zn, zc, zcall, zcallv, zrcv, zdo, zdov, zpf, zpfc, zas, zasc, zmin, zmax, zcmp, zcz, zand_e, zor_e, zite_e, zbite_e, zif_e, znot_e, z_add, z_sub, z_mul, z_and, z_or, z_xor, z_shl, z_shr, zcpy, -List.getElem?_cons_succ, zg_0, zg_1, zg_2, zg_3, zg_4, zg_5, zg_6, zg_7, zg_8, zg_9, zt_0, zt_12, zt_20, zt_26, zt_32, zf_0_0, zf_0_1, zf_0_2, zf_0_3, zf_0_4, zf_12_0, zf_12_1, zf_12_2, zf_12_4, zf_12_5, zf_20_1, zf_20_2, zf_20_3, zf_20_4, zf_20_6, zf_26_0, zf_26_1, zf_26_2, zf_26_3, zf_32_0, zf_32_1, zf_32_3, zf_32_4, zf_32_5, zf_32_6, qL_isTable, zb_ne, e, e2, e3, aPr, okPr, ct, cu, hb, hb2, zi_1, zf_1, nI_clamp, ztb_tag (tb4 ht), ztb_tag (tb4 hu), qT_isFull (tb4 ht) (hC t ht) (hT t ht), qT_isFull (tb4 hu) (hC u hu) (hT u hu)]
          | true =>
            by_cases h4 : (T t).1 * (T u).1 ≤ 8
            · have hf := (tB_iff (hT t ht)).mp hb
              have hf2 := (tB_iff (hT u hu)).mp hb2
              obtain ⟨M1, g1, g2, g3⟩ := qG_product (tb4 ht) (tb4 hu) (by omega) (by omega) (hC t ht) (hC u hu) (hT t ht).1.1 (hT u hu).1.1 h4 h8 h8u hf hf2
              have hok : okPr T (nI s) (nI t) (nI u) = true := by simp [okPr, ct, cu, e, e2, e3, hb, hb2, h4]
              refine ⟨zto M1 (2 + 2 * s) 10, ?_, ?_, zhi.trans g3.hi (zhi_to hs)⟩
              · have n4 : ¬ 8 < (T t).1 * (T u).1 := by omega
                simp (disch := omega) [zf_L_product, zmeth, xm_en, zret, zretz, zretv, zseq, zst, zinc, zkl, zskip, zk, zi, za, zbin, zdiv, zrem, zgi, zgr, zld, zldr, zlen, zn, zc, zcall, zcallv, zrcv, zdo, zdov, zpf, zpfc, zas, zasc, zmin, zmax, zcmp, zcz, zand_e, zor_e, zite_e, zbite_e, zif_e, znot_e, z_add, z_sub, z_mul, z_and, z_or, z_xor, z_shl, z_shr, zcpy, -List.getElem?_cons_succ, zg_0, zg_1, zg_2, zg_3, zg_4, zg_5, zg_6, zg_7, zg_8, zg_9, zt_0, zt_12, zt_20, zt_26, zt_32, zf_0_0, zf_0_1, zf_0_2, zf_0_3, zf_0_4, zf_12_0, zf_12_1, zf_12_2, zf_12_4, zf_12_5, zf_20_1, zf_20_2, zf_20_3, zf_20_4, zf_20_6, zf_26_0, zf_26_1, zf_26_2, zf_26_3, zf_32_0, zf_32_1, zf_32_3, zf_32_4, zf_32_5, zf_32_6, qL_isTable, zb_ne, e, e2, e3, aPr, hok, ct, cu, hb, hb2, zi_1, zf_1, nI_clamp, ztb_tag (tb4 ht), ztb_tag (tb4 hu), qT_isFull (tb4 ht) (hC t ht) (hT t ht), qT_isFull (tb4 hu) (hC u hu) (hT u hu), (hC t ht).1, (hC u hu).1, pk_mul, zc_gt, n4, g1, qL_keepBuilt hs g2]
              · simp only [sPr, hok, cond_true, ct, cs, cu]
                exact CS_to hs tb10 h4 (hC.sc g3) g2
            · refine ⟨M, ?_, by simpa [sPr, okPr, ct, cu, hb, hb2, h4] using hC, zhi.refl M⟩
              have n4 : 8 < (T t).1 * (T u).1 := by omega
              simp (disch := omega) [zf_L_product, zmeth, xm_en, zret, zretz, zretv, zseq, zst, zinc, zkl, zskip, zk, zi, za, zbin, zdiv, zrem, zgi, zgr, zld, zldr, zlen, zn, zc, zcall, zcallv, zrcv, zdo, zdov, zpf, zpfc, zas, zasc, zmin, zmax, zcmp, zcz, zand_e, zor_e, zite_e, zbite_e, zif_e, znot_e, z_add, z_sub, z_mul, z_and, z_or, z_xor, z_shl, z_shr, zcpy, -List.getElem?_cons_succ, zg_0, zg_1, zg_2, zg_3, zg_4, zg_5, zg_6, zg_7, zg_8, zg_9, zt_0, zt_12, zt_20, zt_26, zt_32, zf_0_0, zf_0_1, zf_0_2, zf_0_3, zf_0_4, zf_12_0, zf_12_1, zf_12_2, zf_12_4, zf_12_5, zf_20_1, zf_20_2, zf_20_3, zf_20_4, zf_20_6, zf_26_0, zf_26_1, zf_26_2, zf_26_3, zf_32_0, zf_32_1, zf_32_3, zf_32_4, zf_32_5, zf_32_6, qL_isTable, zb_ne, e, e2, e3, aPr, okPr, ct, cu, hb, hb2, h4, zi_1, zf_1, nI_clamp, ztb_tag (tb4 ht), ztb_tag (tb4 hu), qT_isFull (tb4 ht) (hC t ht) (hT t ht), qT_isFull (tb4 hu) (hC u hu) (hT u hu), (hC t ht).1, (hC u hu).1, pk_mul, zc_gt, n4]
theorem qM_pr2 {M : zM} {s t u n m x : Nat} {c d : tC} (ht : t < 4) (hu : u < 4) (h : rT M t n c) (h2 : rT M u m d) (hm1 : 1 ≤ m) (h8 : n * m ≤ 8) (hn8 : n ≤ 8) (hm8 : m ≤ 8) (fc : tF n c) (fd : tF m d) (hx : x < n * m) : zwh zc_M_product_2 zs_M_product_2 [some (Value.ref (32)), some (Value.int (nI s)), some (Value.int (nI t)), some (Value.int (nI u)), some (Value.int (nI m)), some (Value.int (nI (n * m))), some (Value.int (nI x)), some (Value.int (nI 0))] (zft M 4 (n * m) (tPr c d m) x 0) = some (none, [some (Value.ref (32)), some (Value.int (nI s)), some (Value.int (nI t)), some (Value.int (nI u)), some (Value.int (nI m)), some (Value.int (nI (n * m))), some (Value.int (nI x)), some (Value.int (nI (n * m)))], zft M 4 (n * m) (tPr c d m) (x + 1) 0) := by
  rw [← zft_r]
  have dv : ∀ x, x < n * m → x / m < n := fun x hx => Nat.div_lt_of_lt_mul (by rw [Nat.mul_comm]; exact hx)
  have md : ∀ x, x % m < m := fun x => Nat.mod_lt _ hm1
  refine zwh_up (c := zc_M_product_2) (s := zs_M_product_2) (fun j => [some (Value.ref (32)), some (Value.int (nI s)), some (Value.int (nI t)), some (Value.int (nI u)), some (Value.int (nI m)), some (Value.int (nI (n * m))), some (Value.int (nI x)), some (Value.int (nI j))]) (fun j => zft M 4 (n * m) (tPr c d m) x j) (n := n * m) (n * m) 0 (by omega) ?_ ?_ ?_
  · intro j h1 h2
    simp (disch := omega) [zc_M_product_2, zmeth, xm_en, zret, zretz, zretv, zseq, zst, zinc, zkl, zskip, zk, zi, za, zbin, zdiv, zrem, zgi, zgr, zld, zldr, zlen, zn, zc, zcall, zcallv, zrcv, zdo, zdov, zpf, zpfc, zas, zasc, zmin, zmax, zcmp, zcz, zand_e, zor_e, zite_e, zbite_e, zif_e, znot_e, z_add, z_sub, z_mul, z_and, z_or, z_xor, z_shl, z_shr, zcpy, -List.getElem?_cons_succ, zg_0, zg_1, zg_2, zg_3, zg_4, zg_5, zg_6, zg_7, zg_8, zg_9, zc_lt, zc_le, zc_gt, zc_ge, zc_eq, zc_ne, zc_lt0, zc_ge0, zc_gt0, zc_eq0, zc_ne0, zb_ne, zb_eq, zb_01, z_00, z_01, z_11, zb_f, zb_T, zb_F, zbm1, zbm2, zbm5, zbm6, zbm3, zbm4, nI_clamp, zmod_n, pk_div, nI_ne0, pk_mul, nI_add, nI_1, h2]
  · intro j h1 h9
    have hr := rT_ft (m := n * m) (d := tPr c d m) (a := x) (b := j) ht hn8 h
    have hr2 := rT_ft (m := n * m) (d := tPr c d m) (a := x) (b := j) hu hm8 h2
    have e1 := zft_s (M := M) (t := 4) (c := tPr c d m) h8 (show x < 8 by omega) h9
    have q1 := qM_mul (show t < 6 by omega) hr hn8 fc (dv x hx) (dv j h9)
    have q2 := qM_mul (show u < 6 by omega) hr2 hm8 fd (md x) (md j)
    have vl := pr_lt (fc _ _ (dv x hx) (dv j h9)) (fd _ _ (md x) (md j))
    have ev : zcl (-4) (tPr c d m x j) = nI (m * c (x / m) (j / m) + d (x % m) (j % m)) := zcl_lt (by unfold tPr; omega)
    rw [ev] at e1
    have p := qM_puts (M := zft M 4 (n * m) (tPr c d m) x j) (t := 4) (a := x) (b := j) (v := nI (m * c (x / m) (j / m) + d (x % m) (j % m))) (by omega)
    simp only [Nat.reduceMul] at e1 p
    simp (disch := omega) [zs_M_product_2, zmeth, xm_en, zret, zretz, zretv, zseq, zst, zinc, zkl, zskip, zk, zi, za, zbin, zdiv, zrem, zgi, zgr, zld, zldr, zlen, zn, zc, zcall, zcallv, zrcv, zdo, zdov, zpf, zpfc, zas, zasc, zmin, zmax, zcmp, zcz, zand_e, zor_e, zite_e, zbite_e, zif_e, znot_e, z_add, z_sub, z_mul, z_and, z_or, z_xor, z_shl, z_shr, zcpy, -List.getElem?_cons_succ, zg_0, zg_1, zg_2, zg_3, zg_4, zg_5, zg_6, zg_7, zg_8, zg_9, zc_lt, zc_le, zc_gt, zc_ge, zc_eq, zc_ne, zc_lt0, zc_ge0, zc_gt0, zc_eq0, zc_ne0, zb_ne, zb_eq, zb_01, z_00, z_01, z_11, zb_f, zb_T, zb_F, zbm1, zbm2, zbm5, zbm6, zbm3, zbm4, nI_clamp, zmod_n, pk_div, nI_ne0, pk_mul, nI_add, nI_1, zt_0, zt_12, zt_20, zt_26, zt_32, zf_0_0, zf_0_1, zf_0_2, zf_0_3, zf_0_4, zf_12_0, zf_12_1, zf_12_2, zf_12_4, zf_12_5, zf_20_1, zf_20_2, zf_20_3, zf_20_4, zf_20_6, zf_26_0, zf_26_1, zf_26_2, zf_26_3, zf_32_0, zf_32_1, zf_32_3, zf_32_4, zf_32_5, zf_32_6, q1, q2, p, e1]
  · simp (disch := omega) [zc_M_product_2, zmeth, xm_en, zret, zretz, zretv, zseq, zst, zinc, zkl, zskip, zk, zi, za, zbin, zdiv, zrem, zgi, zgr, zld, zldr, zlen, zn, zc, zcall, zcallv, zrcv, zdo, zdov, zpf, zpfc, zas, zasc, zmin, zmax, zcmp, zcz, zand_e, zor_e, zite_e, zbite_e, zif_e, znot_e, z_add, z_sub, z_mul, z_and, z_or, z_xor, z_shl, z_shr, zcpy, -List.getElem?_cons_succ, zg_0, zg_1, zg_2, zg_3, zg_4, zg_5, zg_6, zg_7, zg_8, zg_9, zc_lt, zc_le, zc_gt, zc_ge, zc_eq, zc_ne, zc_lt0, zc_ge0, zc_gt0, zc_eq0, zc_ne0, zb_ne, zb_eq, zb_01, z_00, z_01, z_11, zb_f, zb_T, zb_F, zbm1, zbm2, zbm5, zbm6, zbm3, zbm4, nI_clamp, zmod_n, pk_div, nI_ne0, pk_mul, nI_add, nI_1]
theorem qM_product {T : tS} {M : zM} (x y z : Int32) (hR : RS T M) (hT : TO T) : ∃ M', zf_M_product [.ref 32, .int x, .int y, .int z] M = some (some (aPr T x y z), M') ∧ RS (sPr T x y z) M' ∧ TO (sPr T x y z) ∧ zlo M M' := by
  rcases z3 x (n := 4) (by decide) with h | ⟨s, hs, rfl⟩
  · refine ⟨M, ?_, by simpa [sPr, okPr, h] using hR, by simpa [sPr, okPr, h] using hT, zlo.refl M⟩
    simp [zf_M_product, zmeth, xm_en, zret, zretz, zretv, zseq, zst, zinc, zkl, zskip, zk, zi, za, zbin, zdiv, zrem, zgi, zgr, zld, zldr, zlen, zn, zc, zcall, zcallv, zrcv, zdo, zdov, zpf, zpfc, zas, zasc, zmin, zmax, zcmp, zcz, zand_e, zor_e, zite_e, zbite_e, zif_e, znot_e, z_add, z_sub, z_mul, z_and, z_or, z_xor, z_shl, z_shr, zcpy, -List.getElem?_cons_succ, zg_0, zg_1, zg_2, zg_3, zg_4, zg_5, zg_6, zg_7, zg_8, zg_9, qM_isTable, zb_ne, h, aPr]
  · have e := zlt_y hs (by decide)
    rcases z3 y (n := 4) (by decide) with h | ⟨t, ht, rfl⟩
    · refine ⟨M, ?_, by simpa [sPr, okPr, h] using hR, by simpa [sPr, okPr, h] using hT, zlo.refl M⟩
      simp [zf_M_product, zmeth, xm_en, zret, zretz, zretv, zseq, zst, zinc, zkl, zskip, zk, zi, za, zbin, zdiv, zrem, zgi, zgr, zld, zldr, zlen, zn, zc, zcall, zcallv, zrcv, zdo, zdov, zpf, zpfc, zas, zasc, zmin, zmax, zcmp, zcz, zand_e, zor_e, zite_e, zbite_e, zif_e, znot_e, z_add, z_sub, z_mul, z_and, z_or, z_xor, z_shl, z_shr, zcpy, -List.getElem?_cons_succ, zg_0, zg_1, zg_2, zg_3, zg_4, zg_5, zg_6, zg_7, zg_8, zg_9, qM_isTable, zb_ne, e, h, aPr]
    · have e2 := zlt_y ht (by decide)
      rcases z3 z (n := 4) (by decide) with h | ⟨u, hu, rfl⟩
      · refine ⟨M, ?_, by simpa [sPr, okPr, h] using hR, by simpa [sPr, okPr, h] using hT, zlo.refl M⟩
        simp [zf_M_product, zmeth, xm_en, zret, zretz, zretv, zseq, zst, zinc, zkl, zskip, zk, zi, za, zbin, zdiv, zrem, zgi, zgr, zld, zldr, zlen, zn, zc, zcall, zcallv, zrcv, zdo, zdov, zpf, zpfc, zas, zasc, zmin, zmax, zcmp, zcz, zand_e, zor_e, zite_e, zbite_e, zif_e, znot_e, z_add, z_sub, z_mul, z_and, z_or, z_xor, z_shl, z_shr, zcpy, -List.getElem?_cons_succ, zg_0, zg_1, zg_2, zg_3, zg_4, zg_5, zg_6, zg_7, zg_8, zg_9, qM_isTable, zb_ne, e, e2, h, aPr]
      · have e3 := zlt_y hu (by decide)
        have h8 := (hT t ht).1.2
        have h8u := (hT u hu).1.2
        have h6 : t < 6 := by omega
        have h6u : u < 6 := by omega
        have ct : (nI t).toNatClampNeg = t := nI_clamp (by omega)
        have cs : (nI s).toNatClampNeg = s := nI_clamp (by omega)
        have cu : (nI u).toNatClampNeg = u := nI_clamp (by omega)
        have hb64 : (T t).1 * (T u).1 ≤ 8 * 8 := Nat.mul_le_mul h8 h8u
        cases hb : tB (T t).1 (T t).2 with
        | false =>
          refine ⟨M, ?_, by simpa [sPr, okPr, ct, hb] using hR, by simpa [sPr, okPr, ct, hb] using hT, zlo.refl M⟩
          simp (disch := omega) [zf_M_product, zmeth, xm_en, zret, zretz, zretv, zseq, zst, zinc, zkl, zskip, zk, zi, za, zbin, zdiv, zrem, zgi, zgr, zld, zldr, zlen, zn, zc, zcall, zcallv, zrcv, zdo, zdov, zpf, zpfc, zas, zasc, zmin, zmax, zcmp, zcz, zand_e, zor_e, zite_e, zbite_e, zif_e, znot_e, z_add, z_sub, z_mul, z_and, z_or, z_xor, z_shl, z_shr, zcpy, -List.getElem?_cons_succ, zg_0, zg_1, zg_2, zg_3, zg_4, zg_5, zg_6, zg_7, zg_8, zg_9, zt_0, zt_12, zt_20, zt_26, zt_32, zf_0_0, zf_0_1, zf_0_2, zf_0_3, zf_0_4, zf_12_0, zf_12_1, zf_12_2, zf_12_4, zf_12_5, zf_20_1, zf_20_2, zf_20_3, zf_20_4, zf_20_6, zf_26_0, zf_26_1, zf_26_2, zf_26_3, zf_32_0, zf_32_1, zf_32_3, zf_32_4, zf_32_5, zf_32_6, qM_isTable, zb_ne, e, e2, e3, aPr, okPr, ct, hb, qM_isFull h6 (hR t ht) h8]
        | true =>
          cases hb2 : tB (T u).1 (T u).2 with
          | false =>
            refine ⟨M, ?_, by simpa [sPr, okPr, ct, cu, hb, hb2] using hR, by simpa [sPr, okPr, ct, cu, hb, hb2] using hT, zlo.refl M⟩
            simp (disch := omega) [zf_M_product, zmeth, xm_en, zret, zretz, zretv, zseq, zst, zinc, zkl, zskip, zk, zi, za, zbin, zdiv, zrem, zgi, zgr, zld, zldr, zlen, zn, zc, zcall, zcallv, zrcv, zdo, zdov, zpf, zpfc, zas, zasc, zmin, zmax, zcmp, zcz, zand_e, zor_e, zite_e, zbite_e, zif_e, znot_e, z_add, z_sub, z_mul, z_and, z_or, z_xor, z_shl, z_shr, zcpy, -List.getElem?_cons_succ, zg_0, zg_1, zg_2, zg_3, zg_4, zg_5, zg_6, zg_7, zg_8, zg_9, zt_0, zt_12, zt_20, zt_26, zt_32, zf_0_0, zf_0_1, zf_0_2, zf_0_3, zf_0_4, zf_12_0, zf_12_1, zf_12_2, zf_12_4, zf_12_5, zf_20_1, zf_20_2, zf_20_3, zf_20_4, zf_20_6, zf_26_0, zf_26_1, zf_26_2, zf_26_3, zf_32_0, zf_32_1, zf_32_3, zf_32_4, zf_32_5, zf_32_6, qM_isTable, zb_ne, e, e2, e3, aPr, okPr, ct, cu, hb, hb2, qM_isFull h6 (hR t ht) h8, qM_isFull h6u (hR u hu) h8u]
          | true =>
            by_cases h4 : (T t).1 * (T u).1 ≤ 8
            · have hf := (tB_iff (hT t ht)).mp hb
              have hf2 := (tB_iff (hT u hu)).mp hb2
              have hok : okPr T (nI s) (nI t) (nI u) = true := by simp [okPr, ct, cu, e, e2, e3, hb, hb2, h4]
              have n4 : ¬ 8 < (T t).1 * (T u).1 := by omega
              have R := zwh_up (c := zc_M_product_1) (s := zs_M_product_1) (fun j => [some (Value.ref (32)), some (Value.int (nI s)), some (Value.int (nI t)), some (Value.int (nI u)), some (Value.int (nI (T u).1)), some (Value.int (nI ((T t).1 * (T u).1))), some (Value.int (nI j)), none]) (fun j => zft M 4 ((T t).1 * (T u).1) (tPr (T t).2 (T u).2 (T u).1) j 0) (n := (T t).1 * (T u).1) ((T t).1 * (T u).1) 0 (by omega) ?_ ?_ ?_
              · rw [zft_0] at R
                refine ⟨zcp (zup (zft M 4 ((T t).1 * (T u).1) (tPr (T t).2 (T u).2 (T u).1) ((T t).1 * (T u).1) 0) 33 4 (nI ((T t).1 * (T u).1))) s 4 64, ?_, ?_, ?_, ?_⟩
                · simp (disch := omega) [zf_M_product, zmeth, xm_en, zret, zretz, zretv, zseq, zst, zinc, zkl, zskip, zk, zi, za, zbin, zdiv, zrem, zgi, zgr, zld, zldr, zlen, zn, zc, zcall, zcallv, zrcv, zdo, zdov, zpf, zpfc, zas, zasc, zmin, zmax, zcmp, zcz, zand_e, zor_e, zite_e, zbite_e, zif_e, znot_e, z_add, z_sub, z_mul, z_and, z_or, z_xor, z_shl, z_shr, zcpy, -List.getElem?_cons_succ, zg_0, zg_1, zg_2, zg_3, zg_4, zg_5, zg_6, zg_7, zg_8, zg_9, zt_0, zt_12, zt_20, zt_26, zt_32, zf_0_0, zf_0_1, zf_0_2, zf_0_3, zf_0_4, zf_12_0, zf_12_1, zf_12_2, zf_12_4, zf_12_5, zf_20_1, zf_20_2, zf_20_3, zf_20_4, zf_20_6, zf_26_0, zf_26_1, zf_26_2, zf_26_3, zf_32_0, zf_32_1, zf_32_3, zf_32_4, zf_32_5, zf_32_6, zc_lt, zc_le, zc_gt, zc_ge, zc_eq, zc_ne, zc_lt0, zc_ge0, zc_gt0, zc_eq0, zc_ne0, zb_ne, zb_eq, zb_01, z_00, z_01, z_11, zb_f, zb_T, zb_F, zbm1, zbm2, zbm5, zbm6, zbm3, zbm4, nI_clamp, zmod_n, pk_div, nI_ne0, pk_mul, nI_add, nI_1, qM_isTable, e, e2, e3, aPr, hok, ct, cu, hb, hb2, qM_isFull h6 (hR t ht) h8, qM_isFull h6u (hR u hu) h8u, (hR t ht).1, (hR u hu).1, n4, R, zi_33, qM_copies]
                · simp only [sPr, hok, cond_true, ct, cs, cu]
                  exact RS_cp4 hT hs h4 hR zsr4 (rT4 h4)
                · simp only [sPr, hok, cond_true, ct, cs, cu]
                  exact TO_set hT (tO_pr (hT t ht) (hT u hu) hf hf2 h4)
                · exact zlo.trans (zsr4 (M := M)).lo zlo_cp
              · intro j g1 g2
                simp (disch := omega) [zc_M_product_1, zmeth, xm_en, zret, zretz, zretv, zseq, zst, zinc, zkl, zskip, zk, zi, za, zbin, zdiv, zrem, zgi, zgr, zld, zldr, zlen, zn, zc, zcall, zcallv, zrcv, zdo, zdov, zpf, zpfc, zas, zasc, zmin, zmax, zcmp, zcz, zand_e, zor_e, zite_e, zbite_e, zif_e, znot_e, z_add, z_sub, z_mul, z_and, z_or, z_xor, z_shl, z_shr, zcpy, -List.getElem?_cons_succ, zg_0, zg_1, zg_2, zg_3, zg_4, zg_5, zg_6, zg_7, zg_8, zg_9, zc_lt, zc_le, zc_gt, zc_ge, zc_eq, zc_ne, zc_lt0, zc_ge0, zc_gt0, zc_eq0, zc_ne0, zb_ne, zb_eq, zb_01, z_00, z_01, z_11, zb_f, zb_T, zb_F, zbm1, zbm2, zbm5, zbm6, zbm3, zbm4, nI_clamp, zmod_n, pk_div, nI_ne0, pk_mul, nI_add, nI_1, g2]
              · intro j g1 g2
                have R2 := qM_pr2 (s := s) ht hu (hR t ht) (hR u hu) (hT u hu).1.1 h4 h8 h8u hf hf2 g2
                simp (disch := omega) [zs_M_product_1, zmeth, xm_en, zret, zretz, zretv, zseq, zst, zinc, zkl, zskip, zk, zi, za, zbin, zdiv, zrem, zgi, zgr, zld, zldr, zlen, zn, zc, zcall, zcallv, zrcv, zdo, zdov, zpf, zpfc, zas, zasc, zmin, zmax, zcmp, zcz, zand_e, zor_e, zite_e, zbite_e, zif_e, znot_e, z_add, z_sub, z_mul, z_and, z_or, z_xor, z_shl, z_shr, zcpy, -List.getElem?_cons_succ, zg_0, zg_1, zg_2, zg_3, zg_4, zg_5, zg_6, zg_7, zg_8, zg_9, zc_lt, zc_le, zc_gt, zc_ge, zc_eq, zc_ne, zc_lt0, zc_ge0, zc_gt0, zc_eq0, zc_ne0, zb_ne, zb_eq, zb_01, z_00, z_01, z_11, zb_f, zb_T, zb_F, zbm1, zbm2, zbm5, zbm6, zbm3, zbm4, nI_clamp, zmod_n, pk_div, nI_ne0, pk_mul, nI_add, nI_1, R2]
              · simp (disch := omega) [zc_M_product_1, zmeth, xm_en, zret, zretz, zretv, zseq, zst, zinc, zkl, zskip, zk, zi, za, zbin, zdiv, zrem, zgi, zgr, zld, zldr, zlen, zn, zc, zcall, zcallv, zrcv, zdo, zdov, zpf, zpfc, zas, zasc, zmin, zmax, zcmp, zcz, zand_e, zor_e, zite_e, zbite_e, zif_e, znot_e, z_add, z_sub, z_mul, z_and, z_or, z_xor, z_shl, z_shr, zcpy, -List.getElem?_cons_succ, zg_0, zg_1, zg_2, zg_3, zg_4, zg_5, zg_6, zg_7, zg_8, zg_9, zc_lt, zc_le, zc_gt, zc_ge, zc_eq, zc_ne, zc_lt0, zc_ge0, zc_gt0, zc_eq0, zc_ne0, zb_ne, zb_eq, zb_01, z_00, z_01, z_11, zb_f, zb_T, zb_F, zbm1, zbm2, zbm5, zbm6, zbm3, zbm4, nI_clamp, zmod_n, pk_div, nI_ne0, pk_mul, nI_add, nI_1]
            · refine ⟨M, ?_, by simpa [sPr, okPr, ct, cu, hb, hb2, h4] using hR, by simpa [sPr, okPr, ct, cu, hb, hb2, h4] using hT, zlo.refl M⟩
              have n4 : 8 < (T t).1 * (T u).1 := by omega
              simp (disch := omega) [zf_M_product, zmeth, xm_en, zret, zretz, zretv, zseq, zst, zinc, zkl, zskip, zk, zi, za, zbin, zdiv, zrem, zgi, zgr, zld, zldr, zlen, zn, zc, zcall, zcallv, zrcv, zdo, zdov, zpf, zpfc, zas, zasc, zmin, zmax, zcmp, zcz, zand_e, zor_e, zite_e, zbite_e, zif_e, znot_e, z_add, z_sub, z_mul, z_and, z_or, z_xor, z_shl, z_shr, zcpy, -List.getElem?_cons_succ, zg_0, zg_1, zg_2, zg_3, zg_4, zg_5, zg_6, zg_7, zg_8, zg_9, zt_0, zt_12, zt_20, zt_26, zt_32, zf_0_0, zf_0_1, zf_0_2, zf_0_3, zf_0_4, zf_12_0, zf_12_1, zf_12_2, zf_12_4, zf_12_5, zf_20_1, zf_20_2, zf_20_3, zf_20_4, zf_20_6, zf_26_0, zf_26_1, zf_26_2, zf_26_3, zf_32_0, zf_32_1, zf_32_3, zf_32_4, zf_32_5, zf_32_6, zc_lt, zc_le, zc_gt, zc_ge, zc_eq, zc_ne, zc_lt0, zc_ge0, zc_gt0, zc_eq0, zc_ne0, zb_ne, zb_eq, zb_01, z_00, z_01, z_11, zb_f, zb_T, zb_F, zbm1, zbm2, zbm5, zbm6, zbm3, zbm4, nI_clamp, zmod_n, pk_div, nI_ne0, pk_mul, nI_add, nI_1, qM_isTable, e, e2, e3, aPr, okPr, ct, cu, hb, hb2, h4, zi_33, qM_isFull h6 (hR t ht) h8, qM_isFull h6u (hR u hu) h8u, (hR t ht).1, (hR u hu).1, n4]
/-! squares -/
def hit (I : Int) (many : Nat) (seg : List Nat) : Option Nat := if (many : Int) ≤ I ∧ I < many + seg.length then some (seg.getD (I.toNat - many) 0) else none
def segs (g : Nat → List Nat) : Nat → Nat → List Nat
  | _, 0 => []
  | i, d + 1 => g i ++ segs g (i + 1) d
theorem hit_nil (I : Int) (many : Nat) : hit I many [] = none := by
  unfold hit
  rw [if_neg (by simp only [List.length_nil]; omega)]
theorem hit_app_some {I : Int} {many v : Nat} {a b : List Nat} (h : hit I many a = some v) : hit I many (a ++ b) = some v := by
  unfold hit at h ⊢
  split at h
  · rename_i g
    rw [if_pos (by rw [List.length_append]; omega), ← h]
    congr 1
    rw [List.getD_eq_getElem?_getD, List.getD_eq_getElem?_getD, List.getElem?_append_left (by omega)]
  · cases h
theorem hit_app_none {I : Int} {many : Nat} {a b : List Nat} (h : hit I many a = none) : hit I many (a ++ b) = hit I (many + a.length) b := by
  unfold hit at h ⊢
  split at h
  · cases h
  · rename_i g
    by_cases g2 : (many : Int) ≤ I ∧ I < many + (a ++ b).length
    · rw [List.length_append] at g2
      rw [if_pos (by rw [List.length_append]; omega), if_pos (by omega)]
      congr 1
      rw [List.getD_eq_getElem?_getD, List.getD_eq_getElem?_getD, List.getElem?_append_right (by omega)]
      congr 2
      omega
    · rw [List.length_append] at g2
      rw [if_neg (by rw [List.length_append]; omega), if_neg (by omega)]
def zsg (s : zS) (ls : zL) (N : zM) (I : Int) (many : Nat) (seg : List Nat) (after : Nat → zL) : Prop := (∀ v, hit I many seg = some v → ∃ ls', s ls N = some (some (some (nI v)), ls', N)) ∧ (hit I many seg = none → s ls N = some (none, after (many + seg.length), N))
theorem zwh_seg {c : zB} {s : zS} {N : zM} {I : Int} {K : Nat} (P : Nat → Prop) (hP : ∀ many (seg : List Nat), P many → hit I many seg = none → P (many + seg.length)) (L : Nat → Nat → zL) (g : Nat → List Nat) {n : Nat} (he : ∀ many, P many → many ≤ K → c (L n many) N = some (false, N)) : ∀ (d i : Nat), i + d = n → (∀ j many, i ≤ j → j < n → P many → many ≤ K → c (L j many) N = some (true, N)) → (∀ j many, i ≤ j → j < n → P many → many + (g j).length ≤ K → zsg s (L j many) N I many (g j) (L (j + 1))) → ∀ many, P many → many + (segs g i d).length ≤ K → zsg (zwh c s) (L i many) N I many (segs g i d) (L n)
  | 0, i, h, _, _, many, hp, hK => by
    have : i = n := by omega
    subst this
    refine ⟨fun v hv => ?_, fun _ => ?_⟩
    · rw [segs, hit_nil] at hv
      cases hv
    · exact zwh_f (he many hp (by omega))
  | d + 1, i, h, hc, hs, many, hp, hK => by
    have hl : (segs g i (d + 1)).length = (g i).length + (segs g (i + 1) d).length := by rw [segs, List.length_append]
    obtain ⟨s1, s2⟩ := hs i many (Nat.le_refl _) (by omega) hp (by omega)
    have c1 := hc i many (Nat.le_refl _) (by omega) hp (by omega)
    cases hh : hit I many (g i) with
    | some w =>
      obtain ⟨ls', g1⟩ := s1 w hh
      have g2 : hit I many (segs g i (d + 1)) = some w := hit_app_some hh
      refine ⟨fun v hv => ?_, fun hn => ?_⟩
      · rw [g2] at hv
        cases hv
        exact ⟨ls', zwh_r c1 g1⟩
      · rw [g2] at hn
        cases hn
    | none =>
      have g1 := s2 hh
      have ih := zwh_seg P hP L g he d (i + 1) (by omega) (fun j m h1 h2 => hc j m (by omega) h2) (fun j m h1 h2 => hs j m (by omega) h2) (many + (g i).length) (hP _ _ hp hh) (by omega)
      have e : hit I many (segs g i (d + 1)) = hit I (many + (g i).length) (segs g (i + 1) d) := hit_app_none hh
      refine ⟨fun v hv => ?_, fun hn => ?_⟩
      · rw [e] at hv
        obtain ⟨ls', g3⟩ := ih.1 v hv
        exact ⟨ls', zwh_t c1 g1 g3⟩
      · rw [e] at hn
        have g3 := ih.2 hn
        rw [hl, ← Nat.add_assoc]
        exact zwh_t c1 g1 g3
theorem segs_len {g : Nat → List Nat} {b : Nat} : ∀ (d i : Nat), (∀ j, (g j).length ≤ b) → (segs g i d).length ≤ d * b
  | 0, i, _ => by simp [segs]
  | d + 1, i, h => by
    rw [segs, List.length_append, Nat.succ_mul]
    have := segs_len d (i + 1) h
    have := h i
    omega
theorem segs_map {g : Nat → List Nat} {f : Nat → Nat} : ∀ (d i : Nat), segs (fun j => (g j).map f) i d = (segs g i d).map f
  | 0, i => rfl
  | d + 1, i => by rw [segs, segs, List.map_append, segs_map]
theorem segs_congr {g h : Nat → List Nat} : ∀ (d i : Nat), (∀ j, i ≤ j → j < i + d → g j = h j) → segs g i d = segs h i d
  | 0, i, _ => rfl
  | d + 1, i, H => by rw [segs, segs, H i (Nat.le_refl _) (by omega), segs_congr d (i + 1) (fun j h1 h2 => H j (by omega) (by omega))]
theorem segs_mem {g : Nat → List Nat} {v : Nat} : ∀ (d i : Nat), v ∈ segs g i d → ∃ j, i ≤ j ∧ j < i + d ∧ v ∈ g j
  | 0, i, h => by simp [segs] at h
  | d + 1, i, h => by
    rw [segs] at h
    rcases List.mem_append.mp h with h1 | h1
    · exact ⟨i, Nat.le_refl _, by omega, h1⟩
    · obtain ⟨j, a, b, c⟩ := segs_mem d (i + 1) h1
      exact ⟨j, by omega, by omega, c⟩
theorem hit_mem {I : Int} {many v : Nat} {l : List Nat} (h : hit I many l = some v) : v ∈ l := by
  unfold hit at h
  split at h
  · rename_i g
    have hl : I.toNat - many < l.length := by omega
    rw [List.getD_eq_getElem?_getD, List.getElem?_eq_getElem hl] at h
    simp only [Option.getD_some, Option.some.injEq] at h
    rw [← h]
    exact List.getElem_mem hl
  · cases h
def sqB (c : tC) (a e b d : Nat) : Bool := decide (c a b = c e d) && decide (c a d = c e b)
def q4 (c : tC) (o a e b d : Nat) : List Nat := bif sqB c a e b d then [o + 8 * b + d] else []
def q3 (n : Nat) (c : tC) (o a e b : Nat) : List Nat := segs (q4 c o a e b) (b + 1) (n - (b + 1))
def q2 (n : Nat) (c : tC) (o a e : Nat) : List Nat := segs (q3 n c o a e) 1 (n - 1)
def q1 (n : Nat) (c : tC) (a : Nat) : List Nat := segs (fun e => q2 n c (512 * a + 64 * e) a e) (a + 1) (n - (a + 1))
def sqs (n : Nat) (c : tC) : List Nat := segs (q1 n c) 1 (n - 1)
theorem q4_len (c : tC) (o a e b d : Nat) : (q4 c o a e b d).length ≤ 1 := by
  unfold q4
  cases sqB c a e b d <;> simp
theorem q3_len {n : Nat} (h8 : n ≤ 8) (c : tC) (o a e b : Nat) : (q3 n c o a e b).length ≤ 8 := by
  have := segs_len (g := q4 c o a e b) (b := 1) (n - (b + 1)) (b + 1) (fun j => q4_len c o a e b j)
  unfold q3
  omega
theorem q2_len {n : Nat} (h8 : n ≤ 8) (c : tC) (o a e : Nat) : (q2 n c o a e).length ≤ 64 := by
  have := segs_len (g := q3 n c o a e) (b := 8) (n - 1) 1 (fun j => q3_len h8 c o a e j)
  unfold q2
  omega
theorem q1_len {n : Nat} (h8 : n ≤ 8) (c : tC) (a : Nat) : (q1 n c a).length ≤ 512 := by
  have := segs_len (g := fun e => q2 n c (512 * a + 64 * e) a e) (b := 64) (n - (a + 1)) (a + 1) (fun j => q2_len h8 c _ a j)
  unfold q1
  omega
theorem sqs_len {n : Nat} (h8 : n ≤ 8) (c : tC) : (sqs n c).length ≤ 4096 := by
  have := segs_len (g := q1 n c) (b := 512) (n - 1) 1 (fun j => q1_len h8 c j)
  unfold sqs
  omega
theorem hit_1 {I : Int} {many v : Nat} : hit I many [v] = if (many : Int) = I then some v else none := by
  unfold hit
  by_cases h : (many : Int) = I
  · rw [if_pos h, if_pos (by simp only [List.length_singleton]; omega)]
    have : I.toNat - many = 0 := by omega
    rw [this]
    rfl
  · rw [if_neg h, if_neg (by simp only [List.length_singleton]; omega)]
theorem zeqI {many : Nat} {x : Int32} (hm : many < 2 ^ 31) : xe_cd .eq (nI many) x = decide ((many : Int) = x.toInt) := by
  show decide (nI many = x) = _
  refine decide_eq_decide.mpr ?_
  rw [← Int32.toInt_inj, nI_toInt hm]
/-! the reference -/
theorem qM_sq4 {M : zM} {t n a e b : Nat} {c : tC} {x : Int32} (ht : t < 4) (h : rT M t n c) (h8 : n ≤ 8) (hf : tF n c) (ha : a < n) (he : e < n) (hb : b < n) (many : Nat) (hm : many + (q3 n c (512 * a + 64 * e) a e b).length ≤ 5000) : zsg (zwh zc_M_squares_4 zs_M_squares_4) [some (Value.ref (32)), some (Value.int (nI t)), some (Value.int (x)), some (Value.int (nI n)), some (Value.int (nI many)), some (Value.int (nI a)), some (Value.int (nI e)), some (Value.int (nI b)), some (Value.int (nI (b + 1)))] M x.toInt many (q3 n c (512 * a + 64 * e) a e b) (fun m => [some (Value.ref (32)), some (Value.int (nI t)), some (Value.int (x)), some (Value.int (nI n)), some (Value.int (nI m)), some (Value.int (nI a)), some (Value.int (nI e)), some (Value.int (nI b)), some (Value.int (nI n))]) := by
  have h6 : t < 6 := by omega
  refine zwh_seg (K := 5000) (fun _ => True) (fun _ _ _ _ => trivial) (fun j m => [some (Value.ref (32)), some (Value.int (nI t)), some (Value.int (x)), some (Value.int (nI n)), some (Value.int (nI m)), some (Value.int (nI a)), some (Value.int (nI e)), some (Value.int (nI b)), some (Value.int (nI j))]) (q4 c (512 * a + 64 * e) a e b) (n := n) ?_ (n - (b + 1)) (b + 1) (by omega) ?_ ?_ many trivial hm
  · intro m _ _
    simp (disch := omega) [zc_M_squares_4, zmeth, xm_en, zret, zretz, zretv, zseq, zst, zinc, zkl, zskip, zk, zi, za, zbin, zdiv, zrem, zgi, zgr, zld, zldr, zlen, zn, zc, zcall, zcallv, zrcv, zdo, zdov, zpf, zpfc, zas, zasc, zmin, zmax, zcmp, zcz, zand_e, zor_e, zite_e, zbite_e, zif_e, znot_e, z_add, z_sub, z_mul, z_and, z_or, z_xor, z_shl, z_shr, zcpy, -List.getElem?_cons_succ, zg_0, zg_1, zg_2, zg_3, zg_4, zg_5, zg_6, zg_7, zg_8, zg_9, zc_lt, zc_le, zc_gt, zc_ge, zc_eq, zc_ne, zc_lt0, zc_ge0, zc_gt0, zc_eq0, zc_ne0, zb_ne, zb_eq, zb_01, z_00, z_01, z_11, zb_f, zb_T, zb_F, zbm1, zbm2, zbm5, zbm6, zbm3, zbm4, nI_clamp, zmod_n, pk_div, nI_ne0, pk_mul, nI_add, nI_1]
  · intro j m _ h2 _ _
    simp (disch := omega) [zc_M_squares_4, zmeth, xm_en, zret, zretz, zretv, zseq, zst, zinc, zkl, zskip, zk, zi, za, zbin, zdiv, zrem, zgi, zgr, zld, zldr, zlen, zn, zc, zcall, zcallv, zrcv, zdo, zdov, zpf, zpfc, zas, zasc, zmin, zmax, zcmp, zcz, zand_e, zor_e, zite_e, zbite_e, zif_e, znot_e, z_add, z_sub, z_mul, z_and, z_or, z_xor, z_shl, z_shr, zcpy, -List.getElem?_cons_succ, zg_0, zg_1, zg_2, zg_3, zg_4, zg_5, zg_6, zg_7, zg_8, zg_9, zc_lt, zc_le, zc_gt, zc_ge, zc_eq, zc_ne, zc_lt0, zc_ge0, zc_gt0, zc_eq0, zc_ne0, zb_ne, zb_eq, zb_01, z_00, z_01, z_11, zb_f, zb_T, zb_F, zbm1, zbm2, zbm5, zbm6, zbm3, zbm4, nI_clamp, zmod_n, pk_div, nI_ne0, pk_mul, nI_add, nI_1, h2]
  · intro j m _ h2 _ hK
    have f1 := hf a b ha hb
    have f2 := hf e j he h2
    have f3 := hf a j ha h2
    have f4 := hf e b he hb
    have m1 := qM_mul h6 h h8 hf ha hb
    have m2 := qM_mul h6 h h8 hf he h2
    have m3 := qM_mul h6 h h8 hf ha h2
    have m4 := qM_mul h6 h h8 hf he hb
    have hm2 : m < 2 ^ 31 := by omega
    unfold q4
    cases hs : sqB c a e b j with
    | false =>
      refine ⟨fun v hv => (by rw [cond_false, hit_nil] at hv; cases hv), fun _ => ?_⟩
      unfold sqB at hs
      simp (disch := omega) [zs_M_squares_4, zmeth, xm_en, zret, zretz, zretv, zseq, zst, zinc, zkl, zskip, zk, zi, za, zbin, zdiv, zrem, zgi, zgr, zld, zldr, zlen, zn, zc, zcall, zcallv, zrcv, zdo, zdov, zpf, zpfc, zas, zasc, zmin, zmax, zcmp, zcz, zand_e, zor_e, zite_e, zbite_e, zif_e, znot_e, z_add, z_sub, z_mul, z_and, z_or, z_xor, z_shl, z_shr, zcpy, -List.getElem?_cons_succ, zg_0, zg_1, zg_2, zg_3, zg_4, zg_5, zg_6, zg_7, zg_8, zg_9, zc_lt, zc_le, zc_gt, zc_ge, zc_eq, zc_ne, zc_lt0, zc_ge0, zc_gt0, zc_eq0, zc_ne0, zb_ne, zb_eq, zb_01, z_00, z_01, z_11, zb_f, zb_T, zb_F, zbm1, zbm2, zbm5, zbm6, zbm3, zbm4, nI_clamp, zmod_n, pk_div, nI_ne0, pk_mul, nI_add, nI_1, zt_0, zt_12, zt_20, zt_26, zt_32, zf_0_0, zf_0_1, zf_0_2, zf_0_3, zf_0_4, zf_12_0, zf_12_1, zf_12_2, zf_12_4, zf_12_5, zf_20_1, zf_20_2, zf_20_3, zf_20_4, zf_20_6, zf_26_0, zf_26_1, zf_26_2, zf_26_3, zf_32_0, zf_32_1, zf_32_3, zf_32_4, zf_32_5, zf_32_6, m1, m2, m3, m4, hs]
    | true =>
      unfold sqB at hs
      rw [cond_true]
      by_cases hh : (m : Int) = x.toInt
      · refine ⟨fun v hv => ?_, fun hn => ?_⟩
        · rw [hit_1, if_pos hh] at hv
          cases hv
          refine ⟨[some (Value.ref (32)), some (Value.int (nI t)), some (Value.int (x)), some (Value.int (nI n)), some (Value.int (nI m)), some (Value.int (nI a)), some (Value.int (nI e)), some (Value.int (nI b)), some (Value.int (nI j))], ?_⟩
          simp (disch := omega) [zs_M_squares_4, zmeth, xm_en, zret, zretz, zretv, zseq, zst, zinc, zkl, zskip, zk, zi, za, zbin, zdiv, zrem, zgi, zgr, zld, zldr, zlen, zn, zc, zcall, zcallv, zrcv, zdo, zdov, zpf, zpfc, zas, zasc, zmin, zmax, zcmp, zcz, zand_e, zor_e, zite_e, zbite_e, zif_e, znot_e, z_add, z_sub, z_mul, z_and, z_or, z_xor, z_shl, z_shr, zcpy, -List.getElem?_cons_succ, zg_0, zg_1, zg_2, zg_3, zg_4, zg_5, zg_6, zg_7, zg_8, zg_9, zc_lt, zc_le, zc_gt, zc_ge, zc_eq, zc_ne, zc_lt0, zc_ge0, zc_gt0, zc_eq0, zc_ne0, zb_ne, zb_eq, zb_01, z_00, z_01, z_11, zb_f, zb_T, zb_F, zbm1, zbm2, zbm5, zbm6, zbm3, zbm4, nI_clamp, zmod_n, pk_div, nI_ne0, pk_mul, nI_add, nI_1, zt_0, zt_12, zt_20, zt_26, zt_32, zf_0_0, zf_0_1, zf_0_2, zf_0_3, zf_0_4, zf_12_0, zf_12_1, zf_12_2, zf_12_4, zf_12_5, zf_20_1, zf_20_2, zf_20_3, zf_20_4, zf_20_6, zf_26_0, zf_26_1, zf_26_2, zf_26_3, zf_32_0, zf_32_1, zf_32_3, zf_32_4, zf_32_5, zf_32_6, m1, m2, m3, m4, hs, zeqI hm2, hh, Nat.add_assoc]
        · rw [hit_1, if_pos hh] at hn
          cases hn
      · refine ⟨fun v hv => ?_, fun hn => ?_⟩
        · rw [hit_1, if_neg hh] at hv
          cases hv
        · simp (disch := omega) [zs_M_squares_4, zmeth, xm_en, zret, zretz, zretv, zseq, zst, zinc, zkl, zskip, zk, zi, za, zbin, zdiv, zrem, zgi, zgr, zld, zldr, zlen, zn, zc, zcall, zcallv, zrcv, zdo, zdov, zpf, zpfc, zas, zasc, zmin, zmax, zcmp, zcz, zand_e, zor_e, zite_e, zbite_e, zif_e, znot_e, z_add, z_sub, z_mul, z_and, z_or, z_xor, z_shl, z_shr, zcpy, -List.getElem?_cons_succ, zg_0, zg_1, zg_2, zg_3, zg_4, zg_5, zg_6, zg_7, zg_8, zg_9, zc_lt, zc_le, zc_gt, zc_ge, zc_eq, zc_ne, zc_lt0, zc_ge0, zc_gt0, zc_eq0, zc_ne0, zb_ne, zb_eq, zb_01, z_00, z_01, z_11, zb_f, zb_T, zb_F, zbm1, zbm2, zbm5, zbm6, zbm3, zbm4, nI_clamp, zmod_n, pk_div, nI_ne0, pk_mul, nI_add, nI_1, zt_0, zt_12, zt_20, zt_26, zt_32, zf_0_0, zf_0_1, zf_0_2, zf_0_3, zf_0_4, zf_12_0, zf_12_1, zf_12_2, zf_12_4, zf_12_5, zf_20_1, zf_20_2, zf_20_3, zf_20_4, zf_20_6, zf_26_0, zf_26_1, zf_26_2, zf_26_3, zf_32_0, zf_32_1, zf_32_3, zf_32_4, zf_32_5, zf_32_6, m1, m2, m3, m4, hs, zeqI hm2, hh]
theorem zsg_kl {s : zS} {ls ls0 : zL} {N : zM} {I : Int} {many k i : Nat} {seg : List Nat} {e : zE} {v : Value} {aft aft2 : Nat → zL} (he : e ls N = some (v, N)) (hi : i < ls.length) (hl : ls.set i (some v) = ls0) (h : zsg s ls0 N I many seg aft) (ha : ∀ m, (aft m).take k ++ List.replicate ((aft m).length - k) none = aft2 m) : zsg (zkl k (zseq (zst i e) s)) ls N I many seg aft2 := by
  refine ⟨fun w hw => ?_, fun hn => ?_⟩
  · obtain ⟨ls', g⟩ := h.1 w hw
    refine ⟨ls', ?_⟩
    simp only [zkl, zseq, zst, he, if_pos hi, hl, g]
  · have g := h.2 hn
    simp only [zkl, zseq, zst, he, if_pos hi, hl, g, ha]
theorem zsg_inc {s : zS} {ls : zL} {N : zM} {I : Int} {many i j : Nat} {seg : List Nat} {aft aft2 : Nat → zL} (h : zsg s ls N I many seg aft) (h1 : ∀ m, (aft m)[i]? = some (some (.int (nI j)))) (h2 : ∀ m, (aft m).set i (some (.int (nI (j + 1)))) = aft2 m) : zsg (zseq s (zinc i 1)) ls N I many seg aft2 := by
  refine ⟨fun w hw => ?_, fun hn => ?_⟩
  · obtain ⟨ls', g⟩ := h.1 w hw
    refine ⟨ls', ?_⟩
    simp only [zseq, g]
  · have g := h.2 hn
    simp only [zseq, g, zinc, h1, nI_1, h2]
theorem qM_sq3 {M : zM} {t n a e : Nat} {c : tC} {x : Int32} (ht : t < 4) (h : rT M t n c) (h1n : 1 ≤ n) (h8 : n ≤ 8) (hf : tF n c) (ha : a < n) (he : e < n) (many : Nat) (hm : many + (q2 n c (512 * a + 64 * e) a e).length ≤ 5000) : zsg (zwh zc_M_squares_3 zs_M_squares_3) [some (Value.ref (32)), some (Value.int (nI t)), some (Value.int (x)), some (Value.int (nI n)), some (Value.int (nI many)), some (Value.int (nI a)), some (Value.int (nI e)), some (Value.int (nI 1)), none] M x.toInt many (q2 n c (512 * a + 64 * e) a e) (fun m => [some (Value.ref (32)), some (Value.int (nI t)), some (Value.int (x)), some (Value.int (nI n)), some (Value.int (nI m)), some (Value.int (nI a)), some (Value.int (nI e)), some (Value.int (nI n)), none]) := by
  refine zwh_seg (K := 5000) (fun _ => True) (fun _ _ _ _ => trivial) (fun j m => [some (Value.ref (32)), some (Value.int (nI t)), some (Value.int (x)), some (Value.int (nI n)), some (Value.int (nI m)), some (Value.int (nI a)), some (Value.int (nI e)), some (Value.int (nI j)), none]) (q3 n c (512 * a + 64 * e) a e) (n := n) ?_ (n - 1) 1 (by omega) ?_ ?_ many trivial hm
  · intro m _ _
    simp (disch := omega) [zc_M_squares_3, zmeth, xm_en, zret, zretz, zretv, zseq, zst, zinc, zkl, zskip, zk, zi, za, zbin, zdiv, zrem, zgi, zgr, zld, zldr, zlen, zn, zc, zcall, zcallv, zrcv, zdo, zdov, zpf, zpfc, zas, zasc, zmin, zmax, zcmp, zcz, zand_e, zor_e, zite_e, zbite_e, zif_e, znot_e, z_add, z_sub, z_mul, z_and, z_or, z_xor, z_shl, z_shr, zcpy, -List.getElem?_cons_succ, zg_0, zg_1, zg_2, zg_3, zg_4, zg_5, zg_6, zg_7, zg_8, zg_9, zc_lt, zc_le, zc_gt, zc_ge, zc_eq, zc_ne, zc_lt0, zc_ge0, zc_gt0, zc_eq0, zc_ne0, zb_ne, zb_eq, zb_01, z_00, z_01, z_11, zb_f, zb_T, zb_F, zbm1, zbm2, zbm5, zbm6, zbm3, zbm4, nI_clamp, zmod_n, pk_div, nI_ne0, pk_mul, nI_add, nI_1]
  · intro j m _ h2 _ _
    simp (disch := omega) [zc_M_squares_3, zmeth, xm_en, zret, zretz, zretv, zseq, zst, zinc, zkl, zskip, zk, zi, za, zbin, zdiv, zrem, zgi, zgr, zld, zldr, zlen, zn, zc, zcall, zcallv, zrcv, zdo, zdov, zpf, zpfc, zas, zasc, zmin, zmax, zcmp, zcz, zand_e, zor_e, zite_e, zbite_e, zif_e, znot_e, z_add, z_sub, z_mul, z_and, z_or, z_xor, z_shl, z_shr, zcpy, -List.getElem?_cons_succ, zg_0, zg_1, zg_2, zg_3, zg_4, zg_5, zg_6, zg_7, zg_8, zg_9, zc_lt, zc_le, zc_gt, zc_ge, zc_eq, zc_ne, zc_lt0, zc_ge0, zc_gt0, zc_eq0, zc_ne0, zb_ne, zb_eq, zb_01, z_00, z_01, z_11, zb_f, zb_T, zb_F, zbm1, zbm2, zbm5, zbm6, zbm3, zbm4, nI_clamp, zmod_n, pk_div, nI_ne0, pk_mul, nI_add, nI_1, h2]
  · intro j m _ h2 _ hK
    refine zsg_inc (zsg_kl (v := .int (nI (j + 1))) ?_ ?_ rfl (qM_sq4 ht h h8 hf ha he h2 m hK) (fun m => rfl)) (fun m => rfl) (fun m => rfl)
    · simp (disch := omega) [zmeth, xm_en, zret, zretz, zretv, zseq, zst, zinc, zkl, zskip, zk, zi, za, zbin, zdiv, zrem, zgi, zgr, zld, zldr, zlen, zn, zc, zcall, zcallv, zrcv, zdo, zdov, zpf, zpfc, zas, zasc, zmin, zmax, zcmp, zcz, zand_e, zor_e, zite_e, zbite_e, zif_e, znot_e, z_add, z_sub, z_mul, z_and, z_or, z_xor, z_shl, z_shr, zcpy, -List.getElem?_cons_succ, zg_0, zg_1, zg_2, zg_3, zg_4, zg_5, zg_6, zg_7, zg_8, zg_9, zc_lt, zc_le, zc_gt, zc_ge, zc_eq, zc_ne, zc_lt0, zc_ge0, zc_gt0, zc_eq0, zc_ne0, zb_ne, zb_eq, zb_01, z_00, z_01, z_11, zb_f, zb_T, zb_F, zbm1, zbm2, zbm5, zbm6, zbm3, zbm4, nI_clamp, zmod_n, pk_div, nI_ne0, pk_mul, nI_add, nI_1]
    · exact Nat.le_of_ble_eq_true rfl
theorem qM_sq2 {M : zM} {t n a : Nat} {c : tC} {x : Int32} (ht : t < 4) (h : rT M t n c) (h1n : 1 ≤ n) (h8 : n ≤ 8) (hf : tF n c) (ha : a < n) (many : Nat) (hm : many + (q1 n c a).length ≤ 5000) : zsg (zwh zc_M_squares_2 zs_M_squares_2) [some (Value.ref (32)), some (Value.int (nI t)), some (Value.int (x)), some (Value.int (nI n)), some (Value.int (nI many)), some (Value.int (nI a)), some (Value.int (nI (a + 1))), none, none] M x.toInt many (q1 n c a) (fun m => [some (Value.ref (32)), some (Value.int (nI t)), some (Value.int (x)), some (Value.int (nI n)), some (Value.int (nI m)), some (Value.int (nI a)), some (Value.int (nI n)), none, none]) := by
  refine zwh_seg (K := 5000) (fun _ => True) (fun _ _ _ _ => trivial) (fun j m => [some (Value.ref (32)), some (Value.int (nI t)), some (Value.int (x)), some (Value.int (nI n)), some (Value.int (nI m)), some (Value.int (nI a)), some (Value.int (nI j)), none, none]) (fun e => q2 n c (512 * a + 64 * e) a e) (n := n) ?_ (n - (a + 1)) (a + 1) (by omega) ?_ ?_ many trivial hm
  · intro m _ _
    simp (disch := omega) [zc_M_squares_2, zmeth, xm_en, zret, zretz, zretv, zseq, zst, zinc, zkl, zskip, zk, zi, za, zbin, zdiv, zrem, zgi, zgr, zld, zldr, zlen, zn, zc, zcall, zcallv, zrcv, zdo, zdov, zpf, zpfc, zas, zasc, zmin, zmax, zcmp, zcz, zand_e, zor_e, zite_e, zbite_e, zif_e, znot_e, z_add, z_sub, z_mul, z_and, z_or, z_xor, z_shl, z_shr, zcpy, -List.getElem?_cons_succ, zg_0, zg_1, zg_2, zg_3, zg_4, zg_5, zg_6, zg_7, zg_8, zg_9, zc_lt, zc_le, zc_gt, zc_ge, zc_eq, zc_ne, zc_lt0, zc_ge0, zc_gt0, zc_eq0, zc_ne0, zb_ne, zb_eq, zb_01, z_00, z_01, z_11, zb_f, zb_T, zb_F, zbm1, zbm2, zbm5, zbm6, zbm3, zbm4, nI_clamp, zmod_n, pk_div, nI_ne0, pk_mul, nI_add, nI_1]
  · intro j m _ h2 _ _
    simp (disch := omega) [zc_M_squares_2, zmeth, xm_en, zret, zretz, zretv, zseq, zst, zinc, zkl, zskip, zk, zi, za, zbin, zdiv, zrem, zgi, zgr, zld, zldr, zlen, zn, zc, zcall, zcallv, zrcv, zdo, zdov, zpf, zpfc, zas, zasc, zmin, zmax, zcmp, zcz, zand_e, zor_e, zite_e, zbite_e, zif_e, znot_e, z_add, z_sub, z_mul, z_and, z_or, z_xor, z_shl, z_shr, zcpy, -List.getElem?_cons_succ, zg_0, zg_1, zg_2, zg_3, zg_4, zg_5, zg_6, zg_7, zg_8, zg_9, zc_lt, zc_le, zc_gt, zc_ge, zc_eq, zc_ne, zc_lt0, zc_ge0, zc_gt0, zc_eq0, zc_ne0, zb_ne, zb_eq, zb_01, z_00, z_01, z_11, zb_f, zb_T, zb_F, zbm1, zbm2, zbm5, zbm6, zbm3, zbm4, nI_clamp, zmod_n, pk_div, nI_ne0, pk_mul, nI_add, nI_1, h2]
  · intro j m _ h2 _ hK
    refine zsg_inc (zsg_kl (v := .int (nI 1)) rfl ?_ rfl (qM_sq3 ht h h1n h8 hf ha h2 m hK) (fun m => rfl)) (fun m => rfl) (fun m => rfl)
    exact Nat.le_of_ble_eq_true rfl
theorem qM_sq1 {M : zM} {t n : Nat} {c : tC} {x : Int32} (ht : t < 4) (h : rT M t n c) (h1n : 1 ≤ n) (h8 : n ≤ 8) (hf : tF n c) : zsg (zwh zc_M_squares_1 zs_M_squares_1) [some (Value.ref (32)), some (Value.int (nI t)), some (Value.int (x)), some (Value.int (nI n)), some (Value.int (nI 0)), some (Value.int (nI 1)), none, none, none] M x.toInt 0 (sqs n c) (fun m => [some (Value.ref (32)), some (Value.int (nI t)), some (Value.int (x)), some (Value.int (nI n)), some (Value.int (nI m)), some (Value.int (nI n)), none, none, none]) := by
  refine zwh_seg (K := 5000) (fun _ => True) (fun _ _ _ _ => trivial) (fun j m => [some (Value.ref (32)), some (Value.int (nI t)), some (Value.int (x)), some (Value.int (nI n)), some (Value.int (nI m)), some (Value.int (nI j)), none, none, none]) (q1 n c) (n := n) ?_ (n - 1) 1 (by omega) ?_ ?_ 0 trivial (by have := sqs_len h8 c; unfold sqs at this; omega)
  · intro m _ _
    simp (disch := omega) [zc_M_squares_1, zmeth, xm_en, zret, zretz, zretv, zseq, zst, zinc, zkl, zskip, zk, zi, za, zbin, zdiv, zrem, zgi, zgr, zld, zldr, zlen, zn, zc, zcall, zcallv, zrcv, zdo, zdov, zpf, zpfc, zas, zasc, zmin, zmax, zcmp, zcz, zand_e, zor_e, zite_e, zbite_e, zif_e, znot_e, z_add, z_sub, z_mul, z_and, z_or, z_xor, z_shl, z_shr, zcpy, -List.getElem?_cons_succ, zg_0, zg_1, zg_2, zg_3, zg_4, zg_5, zg_6, zg_7, zg_8, zg_9, zc_lt, zc_le, zc_gt, zc_ge, zc_eq, zc_ne, zc_lt0, zc_ge0, zc_gt0, zc_eq0, zc_ne0, zb_ne, zb_eq, zb_01, z_00, z_01, z_11, zb_f, zb_T, zb_F, zbm1, zbm2, zbm5, zbm6, zbm3, zbm4, nI_clamp, zmod_n, pk_div, nI_ne0, pk_mul, nI_add, nI_1]
  · intro j m _ h2 _ _
    simp (disch := omega) [zc_M_squares_1, zmeth, xm_en, zret, zretz, zretv, zseq, zst, zinc, zkl, zskip, zk, zi, za, zbin, zdiv, zrem, zgi, zgr, zld, zldr, zlen, zn, zc, zcall, zcallv, zrcv, zdo, zdov, zpf, zpfc, zas, zasc, zmin, zmax, zcmp, zcz, zand_e, zor_e, zite_e, zbite_e, zif_e, znot_e, z_add, z_sub, z_mul, z_and, z_or, z_xor, z_shl, z_shr, zcpy, -List.getElem?_cons_succ, zg_0, zg_1, zg_2, zg_3, zg_4, zg_5, zg_6, zg_7, zg_8, zg_9, zc_lt, zc_le, zc_gt, zc_ge, zc_eq, zc_ne, zc_lt0, zc_ge0, zc_gt0, zc_eq0, zc_ne0, zb_ne, zb_eq, zb_01, z_00, z_01, z_11, zb_f, zb_T, zb_F, zbm1, zbm2, zbm5, zbm6, zbm3, zbm4, nI_clamp, zmod_n, pk_div, nI_ne0, pk_mul, nI_add, nI_1, h2]
  · intro j m _ h2 _ hK
    refine zsg_inc (zsg_kl (v := .int (nI (j + 1))) ?_ ?_ rfl (qM_sq2 ht h h1n h8 hf h2 m hK) (fun m => rfl)) (fun m => rfl) (fun m => rfl)
    · simp (disch := omega) [zmeth, xm_en, zret, zretz, zretv, zseq, zst, zinc, zkl, zskip, zk, zi, za, zbin, zdiv, zrem, zgi, zgr, zld, zldr, zlen, zn, zc, zcall, zcallv, zrcv, zdo, zdov, zpf, zpfc, zas, zasc, zmin, zmax, zcmp, zcz, zand_e, zor_e, zite_e, zbite_e, zif_e, znot_e, z_add, z_sub, z_mul, z_and, z_or, z_xor, z_shl, z_shr, zcpy, -List.getElem?_cons_succ, zg_0, zg_1, zg_2, zg_3, zg_4, zg_5, zg_6, zg_7, zg_8, zg_9, zc_lt, zc_le, zc_gt, zc_ge, zc_eq, zc_ne, zc_lt0, zc_ge0, zc_gt0, zc_eq0, zc_ne0, zb_ne, zb_eq, zb_01, z_00, z_01, z_11, zb_f, zb_T, zb_F, zbm1, zbm2, zbm5, zbm6, zbm3, zbm4, nI_clamp, zmod_n, pk_div, nI_ne0, pk_mul, nI_add, nI_1]
    · exact Nat.le_of_ble_eq_true rfl
/-- the i-th square, by the code's number; NONE -/
def aSq (n : Nat) (c : tC) (x : Int32) : Int32 := match hit x.toInt 0 (sqs n c) with
  | some v => nI v
  | none => if x < 0 then nI (sqs n c).length else -4
theorem qM_squares {M : zM} {t n : Nat} {c : tC} {x : Int32} (ht : t < 4) (h : rT M t n c) (h1n : 1 ≤ n) (h8 : n ≤ 8) (hf : tF n c) : zf_M_squares [.ref 32, .int (nI t), .int x] M = some (some (aSq n c x), M) := by
  have R := qM_sq1 (x := x) ht h h1n h8 hf
  unfold aSq
  cases hh : hit x.toInt 0 (sqs n c) with
  | some v =>
    obtain ⟨ls', g⟩ := R.1 v hh
    simp (disch := omega) [zf_M_squares, zmeth, xm_en, zret, zretz, zretv, zseq, zst, zinc, zkl, zskip, zk, zi, za, zbin, zdiv, zrem, zgi, zgr, zld, zldr, zlen, zn, zc, zcall, zcallv, zrcv, zdo, zdov, zpf, zpfc, zas, zasc, zmin, zmax, zcmp, zcz, zand_e, zor_e, zite_e, zbite_e, zif_e, znot_e, z_add, z_sub, z_mul, z_and, z_or, z_xor, z_shl, z_shr, zcpy, -List.getElem?_cons_succ, zg_0, zg_1, zg_2, zg_3, zg_4, zg_5, zg_6, zg_7, zg_8, zg_9, zt_0, zt_12, zt_20, zt_26, zt_32, zf_0_0, zf_0_1, zf_0_2, zf_0_3, zf_0_4, zf_12_0, zf_12_1, zf_12_2, zf_12_4, zf_12_5, zf_20_1, zf_20_2, zf_20_3, zf_20_4, zf_20_6, zf_26_0, zf_26_1, zf_26_2, zf_26_3, zf_32_0, zf_32_1, zf_32_3, zf_32_4, zf_32_5, zf_32_6, zi_33, nI_clamp, h.1, g]
  | none =>
    have g := R.2 hh
    have e : xe_cd .lt x 0 = decide (x < 0) := rfl
    by_cases hx : x < 0
    · simp (disch := omega) [zf_M_squares, zmeth, xm_en, zret, zretz, zretv, zseq, zst, zinc, zkl, zskip, zk, zi, za, zbin, zdiv, zrem, zgi, zgr, zld, zldr, zlen, zn, zc, zcall, zcallv, zrcv, zdo, zdov, zpf, zpfc, zas, zasc, zmin, zmax, zcmp, zcz, zand_e, zor_e, zite_e, zbite_e, zif_e, znot_e, z_add, z_sub, z_mul, z_and, z_or, z_xor, z_shl, z_shr, zcpy, -List.getElem?_cons_succ, zg_0, zg_1, zg_2, zg_3, zg_4, zg_5, zg_6, zg_7, zg_8, zg_9, zt_0, zt_12, zt_20, zt_26, zt_32, zf_0_0, zf_0_1, zf_0_2, zf_0_3, zf_0_4, zf_12_0, zf_12_1, zf_12_2, zf_12_4, zf_12_5, zf_20_1, zf_20_2, zf_20_3, zf_20_4, zf_20_6, zf_26_0, zf_26_1, zf_26_2, zf_26_3, zf_32_0, zf_32_1, zf_32_3, zf_32_4, zf_32_5, zf_32_6, zi_33, nI_clamp, h.1, g, e, hx]
    · simp (disch := omega) [zf_M_squares, zmeth, xm_en, zret, zretz, zretv, zseq, zst, zinc, zkl, zskip, zk, zi, za, zbin, zdiv, zrem, zgi, zgr, zld, zldr, zlen, zn, zc, zcall, zcallv, zrcv, zdo, zdov, zpf, zpfc, zas, zasc, zmin, zmax, zcmp, zcz, zand_e, zor_e, zite_e, zbite_e, zif_e, znot_e, z_add, z_sub, z_mul, z_and, z_or, z_xor, z_shl, z_shr, zcpy, -List.getElem?_cons_succ, zg_0, zg_1, zg_2, zg_3, zg_4, zg_5, zg_6, zg_7, zg_8, zg_9, zt_0, zt_12, zt_20, zt_26, zt_32, zf_0_0, zf_0_1, zf_0_2, zf_0_3, zf_0_4, zf_12_0, zf_12_1, zf_12_2, zf_12_4, zf_12_5, zf_20_1, zf_20_2, zf_20_3, zf_20_4, zf_20_6, zf_26_0, zf_26_1, zf_26_2, zf_26_3, zf_32_0, zf_32_1, zf_32_3, zf_32_4, zf_32_5, zf_32_6, zi_33, nI_clamp, h.1, g, e, hx]
/-! squares of the class -/
theorem hit_map {I : Int} {many : Nat} {l : List Nat} {f : Nat → Nat} : hit I many (l.map f) = (hit I many l).map f := by
  unfold hit
  rw [List.length_map]
  by_cases h : (many : Int) ≤ I ∧ I < many + l.length
  · rw [if_pos h, if_pos h]
    have hl : I.toNat - many < l.length := by omega
    simp only [List.getD_eq_getElem?_getD, List.getElem?_map, List.getElem?_eq_getElem hl, Option.map_some, Option.getD_some]
  · rw [if_neg h, if_neg h]
    rfl
theorem hit_shift {i many : Nat} {l : List Nat} (h : many ≤ i) : hit (i : Int) many l = hit ((i - many : Nat) : Int) 0 l := by
  unfold hit
  by_cases g : i < many + l.length
  · rw [if_pos (by omega), if_pos (by omega)]
    congr 2
    try omega
  · rw [if_neg (by omega), if_neg (by omega)]
theorem hit_neg {many : Nat} {l : List Nat} : hit (-1) many l = none := by
  unfold hit
  rw [if_neg (by omega)]
theorem q4_map (c : tC) (o a e b d : Nat) : q4 c o a e b d = (q4 c 0 a e b d).map (fun v => o + v) := by
  unfold q4
  cases sqB c a e b d with
  | false => rfl
  | true => simp [Nat.add_assoc]
theorem q3_map (n : Nat) (c : tC) (o a e b : Nat) : q3 n c o a e b = (q3 n c 0 a e b).map (fun v => o + v) := by
  unfold q3
  rw [← segs_map]
  exact segs_congr _ _ (fun j _ _ => q4_map c o a e b j)
theorem q2_map (n : Nat) (c : tC) (o a e : Nat) : q2 n c o a e = (q2 n c 0 a e).map (fun v => o + v) := by
  unfold q2
  rw [← segs_map]
  exact segs_congr _ _ (fun j _ _ => q3_map n c o a e j)
theorem qS_is {M : zM} {k n a e b d : Nat} {c : tC} (hk : ztb k) (h : kT M k n c) (h8 : n ≤ 8) (hf : tF n c) (ha : a < n) (he : e < n) (hb : b < n) (hd : d < n) : zf_Squares_isSquare [.ref k, .int (nI a), .int (nI e), .int (nI b), .int (nI d)] M = some (some (zb (sqB c a e b d)), M) := by
  have f1 := hf a b ha hb
  have f2 := hf e d he hd
  have f3 := hf a d ha hd
  have f4 := hf e b he hb
  have m1 := qT_mul hk h h8 hf ha hb
  have m2 := qT_mul hk h h8 hf he hd
  have m3 := qT_mul hk h h8 hf ha hd
  have m4 := qT_mul hk h h8 hf he hb
  simp (disch := omega) [zf_Squares_isSquare, zmeth, xm_en, zret, zretz, zretv, zseq, zst, zinc, zkl, zskip, zk, zi, za, zbin, zdiv, zrem, zgi, zgr, zld, zldr, zlen, zn, zc, zcall, zcallv, zrcv, zdo, zdov, zpf, zpfc, zas, zasc, zmin, zmax, zcmp, zcz, zand_e, zor_e, zite_e, zbite_e, zif_e, znot_e, z_add, z_sub, z_mul, z_and, z_or, z_xor, z_shl, z_shr, zcpy, -List.getElem?_cons_succ, zg_0, zg_1, zg_2, zg_3, zg_4, zg_5, zg_6, zg_7, zg_8, zg_9, zc_lt, zc_le, zc_gt, zc_ge, zc_eq, zc_ne, zc_lt0, zc_ge0, zc_gt0, zc_eq0, zc_ne0, zb_ne, zb_eq, zb_01, z_00, z_01, z_11, zb_f, zb_T, zb_F, zbm1, zbm2, zbm5, zbm6, zbm3, zbm4, nI_clamp, zmod_n, pk_div, nI_ne0, pk_mul, nI_add, nI_1, ztb_tag hk, m1, m2, m3, m4, sqB]
theorem qS_cr2 {M : zM} {k n a e b : Nat} {c : tC} (hk : ztb k) (h : kT M k n c) (h8 : n ≤ 8) (hf : tF n c) (ha : a < n) (he : e < n) (hb : b < n) (many : Nat) (hm : many + (q3 n c 0 a e b).length ≤ 5000) : zsg (zwh zc_Squares_countInRows_2 zs_Squares_countInRows_2) [some (Value.ref (k)), some (Value.int (nI a)), some (Value.int (nI e)), some (Value.int (nI many)), some (Value.int (nI b)), some (Value.int (nI (b + 1)))] M (-1) many (q3 n c 0 a e b) (fun m => [some (Value.ref (k)), some (Value.int (nI a)), some (Value.int (nI e)), some (Value.int (nI m)), some (Value.int (nI b)), some (Value.int (nI n))]) := by
  refine zwh_seg (K := 5000) (fun _ => True) (fun _ _ _ _ => trivial) (fun j m => [some (Value.ref (k)), some (Value.int (nI a)), some (Value.int (nI e)), some (Value.int (nI m)), some (Value.int (nI b)), some (Value.int (nI j))]) (q4 c 0 a e b) (n := n) ?_ (n - (b + 1)) (b + 1) (by omega) ?_ ?_ many trivial hm
  · intro m _ _
    simp (disch := omega) [zc_Squares_countInRows_2, zmeth, xm_en, zret, zretz, zretv, zseq, zst, zinc, zkl, zskip, zk, zi, za, zbin, zdiv, zrem, zgi, zgr, zld, zldr, zlen, zn, zc, zcall, zcallv, zrcv, zdo, zdov, zpf, zpfc, zas, zasc, zmin, zmax, zcmp, zcz, zand_e, zor_e, zite_e, zbite_e, zif_e, znot_e, z_add, z_sub, z_mul, z_and, z_or, z_xor, z_shl, z_shr, zcpy, -List.getElem?_cons_succ, zg_0, zg_1, zg_2, zg_3, zg_4, zg_5, zg_6, zg_7, zg_8, zg_9, zc_lt, zc_le, zc_gt, zc_ge, zc_eq, zc_ne, zc_lt0, zc_ge0, zc_gt0, zc_eq0, zc_ne0, zb_ne, zb_eq, zb_01, z_00, z_01, z_11, zb_f, zb_T, zb_F, zbm1, zbm2, zbm5, zbm6, zbm3, zbm4, nI_clamp, zmod_n, pk_div, nI_ne0, pk_mul, nI_add, nI_1, ztb_tag hk, h.1]
  · intro j m _ h2 _ _
    simp (disch := omega) [zc_Squares_countInRows_2, zmeth, xm_en, zret, zretz, zretv, zseq, zst, zinc, zkl, zskip, zk, zi, za, zbin, zdiv, zrem, zgi, zgr, zld, zldr, zlen, zn, zc, zcall, zcallv, zrcv, zdo, zdov, zpf, zpfc, zas, zasc, zmin, zmax, zcmp, zcz, zand_e, zor_e, zite_e, zbite_e, zif_e, znot_e, z_add, z_sub, z_mul, z_and, z_or, z_xor, z_shl, z_shr, zcpy, -List.getElem?_cons_succ, zg_0, zg_1, zg_2, zg_3, zg_4, zg_5, zg_6, zg_7, zg_8, zg_9, zc_lt, zc_le, zc_gt, zc_ge, zc_eq, zc_ne, zc_lt0, zc_ge0, zc_gt0, zc_eq0, zc_ne0, zb_ne, zb_eq, zb_01, z_00, z_01, z_11, zb_f, zb_T, zb_F, zbm1, zbm2, zbm5, zbm6, zbm3, zbm4, nI_clamp, zmod_n, pk_div, nI_ne0, pk_mul, nI_add, nI_1, ztb_tag hk, h.1, h2]
  · intro j m _ h2 _ hK
    refine ⟨fun v hv => (by rw [hit_neg] at hv; cases hv), fun _ => ?_⟩
    have hs := qS_is hk h h8 hf ha he hb h2
    unfold q4
    cases hq : sqB c a e b j with
    | false =>
      rw [hq] at hs
      simp (disch := omega) [zs_Squares_countInRows_2, zmeth, xm_en, zret, zretz, zretv, zseq, zst, zinc, zkl, zskip, zk, zi, za, zbin, zdiv, zrem, zgi, zgr, zld, zldr, zlen, zn, zc, zcall, zcallv, zrcv, zdo, zdov, zpf, zpfc, zas, zasc, zmin, zmax, zcmp, zcz, zand_e, zor_e, zite_e, zbite_e, zif_e, znot_e, z_add, z_sub, z_mul, z_and, z_or, z_xor, z_shl, z_shr, zcpy, -List.getElem?_cons_succ, zg_0, zg_1, zg_2, zg_3, zg_4, zg_5, zg_6, zg_7, zg_8, zg_9, hs, zb_ne, nI_1]
    | true =>
      rw [hq] at hs
      simp (disch := omega) [zs_Squares_countInRows_2, zmeth, xm_en, zret, zretz, zretv, zseq, zst, zinc, zkl, zskip, zk, zi, za, zbin, zdiv, zrem, zgi, zgr, zld, zldr, zlen, zn, zc, zcall, zcallv, zrcv, zdo, zdov, zpf, zpfc, zas, zasc, zmin, zmax, zcmp, zcz, zand_e, zor_e, zite_e, zbite_e, zif_e, znot_e, z_add, z_sub, z_mul, z_and, z_or, z_xor, z_shl, z_shr, zcpy, -List.getElem?_cons_succ, zg_0, zg_1, zg_2, zg_3, zg_4, zg_5, zg_6, zg_7, zg_8, zg_9, hs, zb_ne, nI_1]
theorem qS_countInRows {M : zM} {k n a e : Nat} {c : tC} (hk : ztb k) (h : kT M k n c) (h1n : 1 ≤ n) (h8 : n ≤ 8) (hf : tF n c) (ha : a < n) (he : e < n) : zf_Squares_countInRows [.ref k, .int (nI a), .int (nI e)] M = some (some (nI (q2 n c 0 a e).length), M) := by
  have R : zsg (zwh zc_Squares_countInRows_1 zs_Squares_countInRows_1) [some (Value.ref (k)), some (Value.int (nI a)), some (Value.int (nI e)), some (Value.int (nI 0)), some (Value.int (nI 1)), none] M (-1) 0 (q2 n c 0 a e) (fun m => [some (Value.ref (k)), some (Value.int (nI a)), some (Value.int (nI e)), some (Value.int (nI m)), some (Value.int (nI n)), none]) := by
    refine zwh_seg (K := 5000) (fun _ => True) (fun _ _ _ _ => trivial) (fun j m => [some (Value.ref (k)), some (Value.int (nI a)), some (Value.int (nI e)), some (Value.int (nI m)), some (Value.int (nI j)), none]) (q3 n c 0 a e) (n := n) ?_ (n - 1) 1 (by omega) ?_ ?_ 0 trivial (by have := q2_len h8 c 0 a e; unfold q2 at this; omega)
    · intro m _ _
      simp (disch := omega) [zc_Squares_countInRows_1, zmeth, xm_en, zret, zretz, zretv, zseq, zst, zinc, zkl, zskip, zk, zi, za, zbin, zdiv, zrem, zgi, zgr, zld, zldr, zlen, zn, zc, zcall, zcallv, zrcv, zdo, zdov, zpf, zpfc, zas, zasc, zmin, zmax, zcmp, zcz, zand_e, zor_e, zite_e, zbite_e, zif_e, znot_e, z_add, z_sub, z_mul, z_and, z_or, z_xor, z_shl, z_shr, zcpy, -List.getElem?_cons_succ, zg_0, zg_1, zg_2, zg_3, zg_4, zg_5, zg_6, zg_7, zg_8, zg_9, zc_lt, zc_le, zc_gt, zc_ge, zc_eq, zc_ne, zc_lt0, zc_ge0, zc_gt0, zc_eq0, zc_ne0, zb_ne, zb_eq, zb_01, z_00, z_01, z_11, zb_f, zb_T, zb_F, zbm1, zbm2, zbm5, zbm6, zbm3, zbm4, nI_clamp, zmod_n, pk_div, nI_ne0, pk_mul, nI_add, nI_1, ztb_tag hk, h.1]
    · intro j m _ h2 _ _
      simp (disch := omega) [zc_Squares_countInRows_1, zmeth, xm_en, zret, zretz, zretv, zseq, zst, zinc, zkl, zskip, zk, zi, za, zbin, zdiv, zrem, zgi, zgr, zld, zldr, zlen, zn, zc, zcall, zcallv, zrcv, zdo, zdov, zpf, zpfc, zas, zasc, zmin, zmax, zcmp, zcz, zand_e, zor_e, zite_e, zbite_e, zif_e, znot_e, z_add, z_sub, z_mul, z_and, z_or, z_xor, z_shl, z_shr, zcpy, -List.getElem?_cons_succ, zg_0, zg_1, zg_2, zg_3, zg_4, zg_5, zg_6, zg_7, zg_8, zg_9, zc_lt, zc_le, zc_gt, zc_ge, zc_eq, zc_ne, zc_lt0, zc_ge0, zc_gt0, zc_eq0, zc_ne0, zb_ne, zb_eq, zb_01, z_00, z_01, z_11, zb_f, zb_T, zb_F, zbm1, zbm2, zbm5, zbm6, zbm3, zbm4, nI_clamp, zmod_n, pk_div, nI_ne0, pk_mul, nI_add, nI_1, ztb_tag hk, h.1, h2]
    · intro j m _ h2 _ hK
      refine zsg_inc (zsg_kl (v := .int (nI (j + 1))) ?_ (Nat.le_of_ble_eq_true rfl) rfl (qS_cr2 hk h h8 hf ha he h2 m hK) (fun m => rfl)) (fun m => rfl) (fun m => rfl)
      simp (disch := omega) [zmeth, xm_en, zret, zretz, zretv, zseq, zst, zinc, zkl, zskip, zk, zi, za, zbin, zdiv, zrem, zgi, zgr, zld, zldr, zlen, zn, zc, zcall, zcallv, zrcv, zdo, zdov, zpf, zpfc, zas, zasc, zmin, zmax, zcmp, zcz, zand_e, zor_e, zite_e, zbite_e, zif_e, znot_e, z_add, z_sub, z_mul, z_and, z_or, z_xor, z_shl, z_shr, zcpy, -List.getElem?_cons_succ, zg_0, zg_1, zg_2, zg_3, zg_4, zg_5, zg_6, zg_7, zg_8, zg_9, zc_lt, zc_le, zc_gt, zc_ge, zc_eq, zc_ne, zc_lt0, zc_ge0, zc_gt0, zc_eq0, zc_ne0, zb_ne, zb_eq, zb_01, z_00, z_01, z_11, zb_f, zb_T, zb_F, zbm1, zbm2, zbm5, zbm6, zbm3, zbm4, nI_clamp, zmod_n, pk_div, nI_ne0, pk_mul, nI_add, nI_1]
  have g := R.2 hit_neg
  simp (disch := omega) [zf_Squares_countInRows, zmeth, xm_en, zret, zretz, zretv, zseq, zst, zinc, zkl, zskip, zk, zi, za, zbin, zdiv, zrem, zgi, zgr, zld, zldr, zlen, zn, zc, zcall, zcallv, zrcv, zdo, zdov, zpf, zpfc, zas, zasc, zmin, zmax, zcmp, zcz, zand_e, zor_e, zite_e, zbite_e, zif_e, znot_e, z_add, z_sub, z_mul, z_and, z_or, z_xor, z_shl, z_shr, zcpy, -List.getElem?_cons_succ, zg_0, zg_1, zg_2, zg_3, zg_4, zg_5, zg_6, zg_7, zg_8, zg_9, g]
theorem qS_fc2 {M : zM} {k n a e b i : Nat} {c : tC} (hk : ztb k) (h : kT M k n c) (h8 : n ≤ 8) (hf : tF n c) (ha : a < n) (he : e < n) (hb : b < n) (hi : i < 2 ^ 31) (many : Nat) (hm : many + (q3 n c 0 a e b).length ≤ 5000) : zsg (zwh zc_Squares_findColumns_2 zs_Squares_findColumns_2) [some (Value.ref (k)), some (Value.int (nI a)), some (Value.int (nI e)), some (Value.int (nI i)), some (Value.int (nI many)), some (Value.int (nI b)), some (Value.int (nI (b + 1)))] M i many (q3 n c 0 a e b) (fun m => [some (Value.ref (k)), some (Value.int (nI a)), some (Value.int (nI e)), some (Value.int (nI i)), some (Value.int (nI m)), some (Value.int (nI b)), some (Value.int (nI n))]) := by
  refine zwh_seg (K := 5000) (fun _ => True) (fun _ _ _ _ => trivial) (fun j m => [some (Value.ref (k)), some (Value.int (nI a)), some (Value.int (nI e)), some (Value.int (nI i)), some (Value.int (nI m)), some (Value.int (nI b)), some (Value.int (nI j))]) (q4 c 0 a e b) (n := n) ?_ (n - (b + 1)) (b + 1) (by omega) ?_ ?_ many trivial hm
  · intro m _ _
    simp (disch := omega) [zc_Squares_findColumns_2, zmeth, xm_en, zret, zretz, zretv, zseq, zst, zinc, zkl, zskip, zk, zi, za, zbin, zdiv, zrem, zgi, zgr, zld, zldr, zlen, zn, zc, zcall, zcallv, zrcv, zdo, zdov, zpf, zpfc, zas, zasc, zmin, zmax, zcmp, zcz, zand_e, zor_e, zite_e, zbite_e, zif_e, znot_e, z_add, z_sub, z_mul, z_and, z_or, z_xor, z_shl, z_shr, zcpy, -List.getElem?_cons_succ, zg_0, zg_1, zg_2, zg_3, zg_4, zg_5, zg_6, zg_7, zg_8, zg_9, zc_lt, zc_le, zc_gt, zc_ge, zc_eq, zc_ne, zc_lt0, zc_ge0, zc_gt0, zc_eq0, zc_ne0, zb_ne, zb_eq, zb_01, z_00, z_01, z_11, zb_f, zb_T, zb_F, zbm1, zbm2, zbm5, zbm6, zbm3, zbm4, nI_clamp, zmod_n, pk_div, nI_ne0, pk_mul, nI_add, nI_1, ztb_tag hk, h.1]
  · intro j m _ h2 _ _
    simp (disch := omega) [zc_Squares_findColumns_2, zmeth, xm_en, zret, zretz, zretv, zseq, zst, zinc, zkl, zskip, zk, zi, za, zbin, zdiv, zrem, zgi, zgr, zld, zldr, zlen, zn, zc, zcall, zcallv, zrcv, zdo, zdov, zpf, zpfc, zas, zasc, zmin, zmax, zcmp, zcz, zand_e, zor_e, zite_e, zbite_e, zif_e, znot_e, z_add, z_sub, z_mul, z_and, z_or, z_xor, z_shl, z_shr, zcpy, -List.getElem?_cons_succ, zg_0, zg_1, zg_2, zg_3, zg_4, zg_5, zg_6, zg_7, zg_8, zg_9, zc_lt, zc_le, zc_gt, zc_ge, zc_eq, zc_ne, zc_lt0, zc_ge0, zc_gt0, zc_eq0, zc_ne0, zb_ne, zb_eq, zb_01, z_00, z_01, z_11, zb_f, zb_T, zb_F, zbm1, zbm2, zbm5, zbm6, zbm3, zbm4, nI_clamp, zmod_n, pk_div, nI_ne0, pk_mul, nI_add, nI_1, ztb_tag hk, h.1, h2]
  · intro j m _ h2 _ hK
    have hs := qS_is hk h h8 hf ha he hb h2
    unfold q4
    cases hq : sqB c a e b j with
    | false =>
      rw [hq] at hs
      refine ⟨fun v hv => (by rw [cond_false, hit_nil] at hv; cases hv), fun _ => ?_⟩
      simp (disch := omega) [zs_Squares_findColumns_2, zmeth, xm_en, zret, zretz, zretv, zseq, zst, zinc, zkl, zskip, zk, zi, za, zbin, zdiv, zrem, zgi, zgr, zld, zldr, zlen, zn, zc, zcall, zcallv, zrcv, zdo, zdov, zpf, zpfc, zas, zasc, zmin, zmax, zcmp, zcz, zand_e, zor_e, zite_e, zbite_e, zif_e, znot_e, z_add, z_sub, z_mul, z_and, z_or, z_xor, z_shl, z_shr, zcpy, -List.getElem?_cons_succ, zg_0, zg_1, zg_2, zg_3, zg_4, zg_5, zg_6, zg_7, zg_8, zg_9, hs, zb_ne, nI_1]
    | true =>
      rw [hq] at hs
      rw [cond_true]
      by_cases hh : m = i
      · refine ⟨fun v hv => ?_, fun hn => ?_⟩
        · rw [hit_1, if_pos (by omega)] at hv
          cases hv
          refine ⟨[some (Value.ref (k)), some (Value.int (nI a)), some (Value.int (nI e)), some (Value.int (nI i)), some (Value.int (nI m)), some (Value.int (nI b)), some (Value.int (nI j))], ?_⟩
          simp (disch := omega) [zs_Squares_findColumns_2, zmeth, xm_en, zret, zretz, zretv, zseq, zst, zinc, zkl, zskip, zk, zi, za, zbin, zdiv, zrem, zgi, zgr, zld, zldr, zlen, zn, zc, zcall, zcallv, zrcv, zdo, zdov, zpf, zpfc, zas, zasc, zmin, zmax, zcmp, zcz, zand_e, zor_e, zite_e, zbite_e, zif_e, znot_e, z_add, z_sub, z_mul, z_and, z_or, z_xor, z_shl, z_shr, zcpy, -List.getElem?_cons_succ, zg_0, zg_1, zg_2, zg_3, zg_4, zg_5, zg_6, zg_7, zg_8, zg_9, zc_lt, zc_le, zc_gt, zc_ge, zc_eq, zc_ne, zc_lt0, zc_ge0, zc_gt0, zc_eq0, zc_ne0, zb_ne, zb_eq, zb_01, z_00, z_01, z_11, zb_f, zb_T, zb_F, zbm1, zbm2, zbm5, zbm6, zbm3, zbm4, nI_clamp, zmod_n, pk_div, nI_ne0, pk_mul, nI_add, nI_1, hs, hh]
        · rw [hit_1, if_pos (by omega)] at hn
          cases hn
      · refine ⟨fun v hv => ?_, fun hn => ?_⟩
        · rw [hit_1, if_neg (by omega)] at hv
          cases hv
        · simp (disch := omega) [zs_Squares_findColumns_2, zmeth, xm_en, zret, zretz, zretv, zseq, zst, zinc, zkl, zskip, zk, zi, za, zbin, zdiv, zrem, zgi, zgr, zld, zldr, zlen, zn, zc, zcall, zcallv, zrcv, zdo, zdov, zpf, zpfc, zas, zasc, zmin, zmax, zcmp, zcz, zand_e, zor_e, zite_e, zbite_e, zif_e, znot_e, z_add, z_sub, z_mul, z_and, z_or, z_xor, z_shl, z_shr, zcpy, -List.getElem?_cons_succ, zg_0, zg_1, zg_2, zg_3, zg_4, zg_5, zg_6, zg_7, zg_8, zg_9, zc_lt, zc_le, zc_gt, zc_ge, zc_eq, zc_ne, zc_lt0, zc_ge0, zc_gt0, zc_eq0, zc_ne0, zb_ne, zb_eq, zb_01, z_00, z_01, z_11, zb_f, zb_T, zb_F, zbm1, zbm2, zbm5, zbm6, zbm3, zbm4, nI_clamp, zmod_n, pk_div, nI_ne0, pk_mul, nI_add, nI_1, hs, hh]
theorem qS_findColumns {M : zM} {k n a e i v : Nat} {c : tC} (hk : ztb k) (h : kT M k n c) (h1n : 1 ≤ n) (h8 : n ≤ 8) (hf : tF n c) (ha : a < n) (he : e < n) (hi : i < 2 ^ 31) (hv : hit i 0 (q2 n c 0 a e) = some v) : zf_Squares_findColumns [.ref k, .int (nI a), .int (nI e), .int (nI i)] M = some (some (nI v), M) := by
  have R : zsg (zwh zc_Squares_findColumns_1 zs_Squares_findColumns_1) [some (Value.ref (k)), some (Value.int (nI a)), some (Value.int (nI e)), some (Value.int (nI i)), some (Value.int (nI 0)), some (Value.int (nI 1)), none] M i 0 (q2 n c 0 a e) (fun m => [some (Value.ref (k)), some (Value.int (nI a)), some (Value.int (nI e)), some (Value.int (nI i)), some (Value.int (nI m)), some (Value.int (nI n)), none]) := by
    refine zwh_seg (K := 5000) (fun _ => True) (fun _ _ _ _ => trivial) (fun j m => [some (Value.ref (k)), some (Value.int (nI a)), some (Value.int (nI e)), some (Value.int (nI i)), some (Value.int (nI m)), some (Value.int (nI j)), none]) (q3 n c 0 a e) (n := n) ?_ (n - 1) 1 (by omega) ?_ ?_ 0 trivial (by have := q2_len h8 c 0 a e; unfold q2 at this; omega)
    · intro m _ _
      simp (disch := omega) [zc_Squares_findColumns_1, zmeth, xm_en, zret, zretz, zretv, zseq, zst, zinc, zkl, zskip, zk, zi, za, zbin, zdiv, zrem, zgi, zgr, zld, zldr, zlen, zn, zc, zcall, zcallv, zrcv, zdo, zdov, zpf, zpfc, zas, zasc, zmin, zmax, zcmp, zcz, zand_e, zor_e, zite_e, zbite_e, zif_e, znot_e, z_add, z_sub, z_mul, z_and, z_or, z_xor, z_shl, z_shr, zcpy, -List.getElem?_cons_succ, zg_0, zg_1, zg_2, zg_3, zg_4, zg_5, zg_6, zg_7, zg_8, zg_9, zc_lt, zc_le, zc_gt, zc_ge, zc_eq, zc_ne, zc_lt0, zc_ge0, zc_gt0, zc_eq0, zc_ne0, zb_ne, zb_eq, zb_01, z_00, z_01, z_11, zb_f, zb_T, zb_F, zbm1, zbm2, zbm5, zbm6, zbm3, zbm4, nI_clamp, zmod_n, pk_div, nI_ne0, pk_mul, nI_add, nI_1, ztb_tag hk, h.1]
    · intro j m _ h2 _ _
      simp (disch := omega) [zc_Squares_findColumns_1, zmeth, xm_en, zret, zretz, zretv, zseq, zst, zinc, zkl, zskip, zk, zi, za, zbin, zdiv, zrem, zgi, zgr, zld, zldr, zlen, zn, zc, zcall, zcallv, zrcv, zdo, zdov, zpf, zpfc, zas, zasc, zmin, zmax, zcmp, zcz, zand_e, zor_e, zite_e, zbite_e, zif_e, znot_e, z_add, z_sub, z_mul, z_and, z_or, z_xor, z_shl, z_shr, zcpy, -List.getElem?_cons_succ, zg_0, zg_1, zg_2, zg_3, zg_4, zg_5, zg_6, zg_7, zg_8, zg_9, zc_lt, zc_le, zc_gt, zc_ge, zc_eq, zc_ne, zc_lt0, zc_ge0, zc_gt0, zc_eq0, zc_ne0, zb_ne, zb_eq, zb_01, z_00, z_01, z_11, zb_f, zb_T, zb_F, zbm1, zbm2, zbm5, zbm6, zbm3, zbm4, nI_clamp, zmod_n, pk_div, nI_ne0, pk_mul, nI_add, nI_1, ztb_tag hk, h.1, h2]
    · intro j m _ h2 _ hK
      refine zsg_inc (zsg_kl (v := .int (nI (j + 1))) ?_ (Nat.le_of_ble_eq_true rfl) rfl (qS_fc2 hk h h8 hf ha he h2 hi m hK) (fun m => rfl)) (fun m => rfl) (fun m => rfl)
      simp (disch := omega) [zmeth, xm_en, zret, zretz, zretv, zseq, zst, zinc, zkl, zskip, zk, zi, za, zbin, zdiv, zrem, zgi, zgr, zld, zldr, zlen, zn, zc, zcall, zcallv, zrcv, zdo, zdov, zpf, zpfc, zas, zasc, zmin, zmax, zcmp, zcz, zand_e, zor_e, zite_e, zbite_e, zif_e, znot_e, z_add, z_sub, z_mul, z_and, z_or, z_xor, z_shl, z_shr, zcpy, -List.getElem?_cons_succ, zg_0, zg_1, zg_2, zg_3, zg_4, zg_5, zg_6, zg_7, zg_8, zg_9, zc_lt, zc_le, zc_gt, zc_ge, zc_eq, zc_ne, zc_lt0, zc_ge0, zc_gt0, zc_eq0, zc_ne0, zb_ne, zb_eq, zb_01, z_00, z_01, z_11, zb_f, zb_T, zb_F, zbm1, zbm2, zbm5, zbm6, zbm3, zbm4, nI_clamp, zmod_n, pk_div, nI_ne0, pk_mul, nI_add, nI_1]
  obtain ⟨ls', g⟩ := R.1 v hv
  simp (disch := omega) [zf_Squares_findColumns, zmeth, xm_en, zret, zretz, zretv, zseq, zst, zinc, zkl, zskip, zk, zi, za, zbin, zdiv, zrem, zgi, zgr, zld, zldr, zlen, zn, zc, zcall, zcallv, zrcv, zdo, zdov, zpf, zpfc, zas, zasc, zmin, zmax, zcmp, zcz, zand_e, zor_e, zite_e, zbite_e, zif_e, znot_e, z_add, z_sub, z_mul, z_and, z_or, z_xor, z_shl, z_shr, zcpy, -List.getElem?_cons_succ, zg_0, zg_1, zg_2, zg_3, zg_4, zg_5, zg_6, zg_7, zg_8, zg_9, g]
theorem qS_f2 {M : zM} {k n a i : Nat} {c : tC} (hk : ztb k) (h : kT M k n c) (h1n : 1 ≤ n) (h8 : n ≤ 8) (hf : tF n c) (ha : a < n) (hi : i < 2 ^ 31) (many : Nat) (hp : many ≤ i) (hm : many + (q1 n c a).length ≤ 5000) : zsg (zwh zc_Squares_find_2 zs_Squares_find_2) [some (Value.ref (k)), some (Value.int (nI i)), some (Value.int (nI many)), some (Value.int (nI a)), some (Value.int (nI (a + 1))), none] M i many (q1 n c a) (fun m => [some (Value.ref (k)), some (Value.int (nI i)), some (Value.int (nI m)), some (Value.int (nI a)), some (Value.int (nI n)), none]) := by
  have hP : ∀ many (seg : List Nat), many ≤ i → hit (i : Int) many seg = none → many + seg.length ≤ i := fun m seg h1 h2 => by
    unfold hit at h2
    split at h2
    · cases h2
    · omega
  refine zwh_seg (K := 5000) (fun m => m ≤ i) hP (fun j m => [some (Value.ref (k)), some (Value.int (nI i)), some (Value.int (nI m)), some (Value.int (nI a)), some (Value.int (nI j)), none]) (fun e => q2 n c (512 * a + 64 * e) a e) (n := n) ?_ (n - (a + 1)) (a + 1) (by omega) ?_ ?_ many hp hm
  · intro m _ _
    simp (disch := omega) [zc_Squares_find_2, zmeth, xm_en, zret, zretz, zretv, zseq, zst, zinc, zkl, zskip, zk, zi, za, zbin, zdiv, zrem, zgi, zgr, zld, zldr, zlen, zn, zc, zcall, zcallv, zrcv, zdo, zdov, zpf, zpfc, zas, zasc, zmin, zmax, zcmp, zcz, zand_e, zor_e, zite_e, zbite_e, zif_e, znot_e, z_add, z_sub, z_mul, z_and, z_or, z_xor, z_shl, z_shr, zcpy, -List.getElem?_cons_succ, zg_0, zg_1, zg_2, zg_3, zg_4, zg_5, zg_6, zg_7, zg_8, zg_9, zc_lt, zc_le, zc_gt, zc_ge, zc_eq, zc_ne, zc_lt0, zc_ge0, zc_gt0, zc_eq0, zc_ne0, zb_ne, zb_eq, zb_01, z_00, z_01, z_11, zb_f, zb_T, zb_F, zbm1, zbm2, zbm5, zbm6, zbm3, zbm4, nI_clamp, zmod_n, pk_div, nI_ne0, pk_mul, nI_add, nI_1, ztb_tag hk, h.1]
  · intro j m _ h2 _ _
    simp (disch := omega) [zc_Squares_find_2, zmeth, xm_en, zret, zretz, zretv, zseq, zst, zinc, zkl, zskip, zk, zi, za, zbin, zdiv, zrem, zgi, zgr, zld, zldr, zlen, zn, zc, zcall, zcallv, zrcv, zdo, zdov, zpf, zpfc, zas, zasc, zmin, zmax, zcmp, zcz, zand_e, zor_e, zite_e, zbite_e, zif_e, znot_e, z_add, z_sub, z_mul, z_and, z_or, z_xor, z_shl, z_shr, zcpy, -List.getElem?_cons_succ, zg_0, zg_1, zg_2, zg_3, zg_4, zg_5, zg_6, zg_7, zg_8, zg_9, zc_lt, zc_le, zc_gt, zc_ge, zc_eq, zc_ne, zc_lt0, zc_ge0, zc_gt0, zc_eq0, zc_ne0, zb_ne, zb_eq, zb_01, z_00, z_01, z_11, zb_f, zb_T, zb_F, zbm1, zbm2, zbm5, zbm6, zbm3, zbm4, nI_clamp, zmod_n, pk_div, nI_ne0, pk_mul, nI_add, nI_1, ztb_tag hk, h.1, h2]
  · intro j m _ h2 hmi hK
    have cr := qS_countInRows hk h h1n h8 hf ha h2
    have l64 := q2_len h8 c 0 a j
    have em : hit (i : Int) m (q2 n c (512 * a + 64 * j) a j) = (hit ((i - m : Nat) : Int) 0 (q2 n c 0 a j)).map (fun v => 512 * a + 64 * j + v) := by rw [q2_map, hit_map, hit_shift hmi]
    have el : (q2 n c (512 * a + 64 * j) a j).length = (q2 n c 0 a j).length := by rw [q2_map, List.length_map]
    have hsub : nI i - nI m = nI (i - m) := pk_sub hmi
    cases hh : hit ((i - m : Nat) : Int) 0 (q2 n c 0 a j) with
    | some w =>
      have hlt : i - m < (q2 n c 0 a j).length := by
        unfold hit at hh
        split at hh
        · omega
        · cases hh
      have fc := qS_findColumns hk h h1n h8 hf ha h2 (show i - m < 2 ^ 31 by omega) hh
      refine ⟨fun v hv => ?_, fun hn => ?_⟩
      · rw [em, hh] at hv
        cases hv
        refine ⟨[some (Value.ref (k)), some (Value.int (nI i)), some (Value.int (nI m)), some (Value.int (nI a)), some (Value.int (nI j)), some (Value.int (nI (q2 n c 0 a j).length))], ?_⟩
        simp (disch := omega) [zs_Squares_find_2, zmeth, xm_en, zret, zretz, zretv, zseq, zst, zinc, zkl, zskip, zk, zi, za, zbin, zdiv, zrem, zgi, zgr, zld, zldr, zlen, zn, zc, zcall, zcallv, zrcv, zdo, zdov, zpf, zpfc, zas, zasc, zmin, zmax, zcmp, zcz, zand_e, zor_e, zite_e, zbite_e, zif_e, znot_e, z_add, z_sub, z_mul, z_and, z_or, z_xor, z_shl, z_shr, zcpy, -List.getElem?_cons_succ, zg_0, zg_1, zg_2, zg_3, zg_4, zg_5, zg_6, zg_7, zg_8, zg_9, zc_lt, zc_le, zc_gt, zc_ge, zc_eq, zc_ne, zc_lt0, zc_ge0, zc_gt0, zc_eq0, zc_ne0, zb_ne, zb_eq, zb_01, z_00, z_01, z_11, zb_f, zb_T, zb_F, zbm1, zbm2, zbm5, zbm6, zbm3, zbm4, nI_clamp, zmod_n, pk_div, nI_ne0, pk_mul, nI_add, nI_1, cr, hsub, hlt, fc]
      · rw [em, hh] at hn
        cases hn
    | none =>
      have hlt : ¬ i - m < (q2 n c 0 a j).length := by
        unfold hit at hh
        split at hh
        · cases hh
        · omega
      refine ⟨fun v hv => ?_, fun hn => ?_⟩
      · rw [em, hh] at hv
        cases hv
      · rw [el]
        simp (disch := omega) [zs_Squares_find_2, zmeth, xm_en, zret, zretz, zretv, zseq, zst, zinc, zkl, zskip, zk, zi, za, zbin, zdiv, zrem, zgi, zgr, zld, zldr, zlen, zn, zc, zcall, zcallv, zrcv, zdo, zdov, zpf, zpfc, zas, zasc, zmin, zmax, zcmp, zcz, zand_e, zor_e, zite_e, zbite_e, zif_e, znot_e, z_add, z_sub, z_mul, z_and, z_or, z_xor, z_shl, z_shr, zcpy, -List.getElem?_cons_succ, zg_0, zg_1, zg_2, zg_3, zg_4, zg_5, zg_6, zg_7, zg_8, zg_9, zc_lt, zc_le, zc_gt, zc_ge, zc_eq, zc_ne, zc_lt0, zc_ge0, zc_gt0, zc_eq0, zc_ne0, zb_ne, zb_eq, zb_01, z_00, z_01, z_11, zb_f, zb_T, zb_F, zbm1, zbm2, zbm5, zbm6, zbm3, zbm4, nI_clamp, zmod_n, pk_div, nI_ne0, pk_mul, nI_add, nI_1, cr, hsub, hlt]
theorem qS_find {M : zM} {k n i : Nat} {c : tC} (hk : ztb k) (h : kT M k n c) (h1n : 1 ≤ n) (h8 : n ≤ 8) (hf : tF n c) (hi : i < 2 ^ 31) : zf_Squares_find [.ref k, .int (nI i)] M = some (some (aSq n c (nI i)), M) := by
  have hP : ∀ many (seg : List Nat), many ≤ i → hit (i : Int) many seg = none → many + seg.length ≤ i := fun m seg h1 h2 => by
    unfold hit at h2
    split at h2
    · cases h2
    · omega
  have R : zsg (zwh zc_Squares_find_1 zs_Squares_find_1) [some (Value.ref (k)), some (Value.int (nI i)), some (Value.int (nI 0)), some (Value.int (nI 1)), none, none] M i 0 (sqs n c) (fun m => [some (Value.ref (k)), some (Value.int (nI i)), some (Value.int (nI m)), some (Value.int (nI n)), none, none]) := by
    refine zwh_seg (K := 5000) (fun m => m ≤ i) hP (fun j m => [some (Value.ref (k)), some (Value.int (nI i)), some (Value.int (nI m)), some (Value.int (nI j)), none, none]) (q1 n c) (n := n) ?_ (n - 1) 1 (by omega) ?_ ?_ 0 (by omega) (by have := sqs_len h8 c; unfold sqs at this; omega)
    · intro m _ _
      simp (disch := omega) [zc_Squares_find_1, zmeth, xm_en, zret, zretz, zretv, zseq, zst, zinc, zkl, zskip, zk, zi, za, zbin, zdiv, zrem, zgi, zgr, zld, zldr, zlen, zn, zc, zcall, zcallv, zrcv, zdo, zdov, zpf, zpfc, zas, zasc, zmin, zmax, zcmp, zcz, zand_e, zor_e, zite_e, zbite_e, zif_e, znot_e, z_add, z_sub, z_mul, z_and, z_or, z_xor, z_shl, z_shr, zcpy, -List.getElem?_cons_succ, zg_0, zg_1, zg_2, zg_3, zg_4, zg_5, zg_6, zg_7, zg_8, zg_9, zc_lt, zc_le, zc_gt, zc_ge, zc_eq, zc_ne, zc_lt0, zc_ge0, zc_gt0, zc_eq0, zc_ne0, zb_ne, zb_eq, zb_01, z_00, z_01, z_11, zb_f, zb_T, zb_F, zbm1, zbm2, zbm5, zbm6, zbm3, zbm4, nI_clamp, zmod_n, pk_div, nI_ne0, pk_mul, nI_add, nI_1, ztb_tag hk, h.1]
    · intro j m _ h2 _ _
      simp (disch := omega) [zc_Squares_find_1, zmeth, xm_en, zret, zretz, zretv, zseq, zst, zinc, zkl, zskip, zk, zi, za, zbin, zdiv, zrem, zgi, zgr, zld, zldr, zlen, zn, zc, zcall, zcallv, zrcv, zdo, zdov, zpf, zpfc, zas, zasc, zmin, zmax, zcmp, zcz, zand_e, zor_e, zite_e, zbite_e, zif_e, znot_e, z_add, z_sub, z_mul, z_and, z_or, z_xor, z_shl, z_shr, zcpy, -List.getElem?_cons_succ, zg_0, zg_1, zg_2, zg_3, zg_4, zg_5, zg_6, zg_7, zg_8, zg_9, zc_lt, zc_le, zc_gt, zc_ge, zc_eq, zc_ne, zc_lt0, zc_ge0, zc_gt0, zc_eq0, zc_ne0, zb_ne, zb_eq, zb_01, z_00, z_01, z_11, zb_f, zb_T, zb_F, zbm1, zbm2, zbm5, zbm6, zbm3, zbm4, nI_clamp, zmod_n, pk_div, nI_ne0, pk_mul, nI_add, nI_1, ztb_tag hk, h.1, h2]
    · intro j m _ h2 hmi hK
      refine zsg_inc (zsg_kl (v := .int (nI (j + 1))) ?_ (Nat.le_of_ble_eq_true rfl) rfl (qS_f2 hk h h1n h8 hf h2 hi m hmi hK) (fun m => rfl)) (fun m => rfl) (fun m => rfl)
      simp (disch := omega) [zmeth, xm_en, zret, zretz, zretv, zseq, zst, zinc, zkl, zskip, zk, zi, za, zbin, zdiv, zrem, zgi, zgr, zld, zldr, zlen, zn, zc, zcall, zcallv, zrcv, zdo, zdov, zpf, zpfc, zas, zasc, zmin, zmax, zcmp, zcz, zand_e, zor_e, zite_e, zbite_e, zif_e, znot_e, z_add, z_sub, z_mul, z_and, z_or, z_xor, z_shl, z_shr, zcpy, -List.getElem?_cons_succ, zg_0, zg_1, zg_2, zg_3, zg_4, zg_5, zg_6, zg_7, zg_8, zg_9, zc_lt, zc_le, zc_gt, zc_ge, zc_eq, zc_ne, zc_lt0, zc_ge0, zc_gt0, zc_eq0, zc_ne0, zb_ne, zb_eq, zb_01, z_00, z_01, z_11, zb_f, zb_T, zb_F, zbm1, zbm2, zbm5, zbm6, zbm3, zbm4, nI_clamp, zmod_n, pk_div, nI_ne0, pk_mul, nI_add, nI_1]
  unfold aSq
  rw [nI_toInt hi]
  cases hh : hit (i : Int) 0 (sqs n c) with
  | some v =>
    obtain ⟨ls', g⟩ := R.1 v hh
    simp (disch := omega) [zf_Squares_find, zmeth, xm_en, zret, zretz, zretv, zseq, zst, zinc, zkl, zskip, zk, zi, za, zbin, zdiv, zrem, zgi, zgr, zld, zldr, zlen, zn, zc, zcall, zcallv, zrcv, zdo, zdov, zpf, zpfc, zas, zasc, zmin, zmax, zcmp, zcz, zand_e, zor_e, zite_e, zbite_e, zif_e, znot_e, z_add, z_sub, z_mul, z_and, z_or, z_xor, z_shl, z_shr, zcpy, -List.getElem?_cons_succ, zg_0, zg_1, zg_2, zg_3, zg_4, zg_5, zg_6, zg_7, zg_8, zg_9, g]
  | none =>
    have g := R.2 hh
    have hx : ¬ nI i < 0 := nI_pos hi
    simp (disch := omega) [zf_Squares_find, zmeth, xm_en, zret, zretz, zretv, zseq, zst, zinc, zkl, zskip, zk, zi, za, zbin, zdiv, zrem, zgi, zgr, zld, zldr, zlen, zn, zc, zcall, zcallv, zrcv, zdo, zdov, zpf, zpfc, zas, zasc, zmin, zmax, zcmp, zcz, zand_e, zor_e, zite_e, zbite_e, zif_e, znot_e, z_add, z_sub, z_mul, z_and, z_or, z_xor, z_shl, z_shr, zcpy, -List.getElem?_cons_succ, zg_0, zg_1, zg_2, zg_3, zg_4, zg_5, zg_6, zg_7, zg_8, zg_9, g, hx]
/-! square, turn -/
theorem qS_count {M : zM} {k n : Nat} {c : tC} (hk : ztb k) (h : kT M k n c) (h1n : 1 ≤ n) (h8 : n ≤ 8) (hf : tF n c) : zf_Squares_count [.ref k] M = some (some (nI (sqs n c).length), M) := by
  have R2 : ∀ a many, a < n → many + (q1 n c a).length ≤ 5000 → zsg (zwh zc_Squares_count_2 zs_Squares_count_2) [some (Value.ref (k)), some (Value.int (nI many)), some (Value.int (nI a)), some (Value.int (nI (a + 1)))] M (-1) many (q1 n c a) (fun m => [some (Value.ref (k)), some (Value.int (nI m)), some (Value.int (nI a)), some (Value.int (nI n))]) := by
    intro a many ha hm
    refine zwh_seg (K := 5000) (fun _ => True) (fun _ _ _ _ => trivial) (fun j m => [some (Value.ref (k)), some (Value.int (nI m)), some (Value.int (nI a)), some (Value.int (nI j))]) (fun e => q2 n c (512 * a + 64 * e) a e) (n := n) ?_ (n - (a + 1)) (a + 1) (by omega) ?_ ?_ many trivial hm
    · intro m _ _
      simp (disch := omega) [zc_Squares_count_2, zmeth, xm_en, zret, zretz, zretv, zseq, zst, zinc, zkl, zskip, zk, zi, za, zbin, zdiv, zrem, zgi, zgr, zld, zldr, zlen, zn, zc, zcall, zcallv, zrcv, zdo, zdov, zpf, zpfc, zas, zasc, zmin, zmax, zcmp, zcz, zand_e, zor_e, zite_e, zbite_e, zif_e, znot_e, z_add, z_sub, z_mul, z_and, z_or, z_xor, z_shl, z_shr, zcpy, -List.getElem?_cons_succ, zg_0, zg_1, zg_2, zg_3, zg_4, zg_5, zg_6, zg_7, zg_8, zg_9, zc_lt, zc_le, zc_gt, zc_ge, zc_eq, zc_ne, zc_lt0, zc_ge0, zc_gt0, zc_eq0, zc_ne0, zb_ne, zb_eq, zb_01, z_00, z_01, z_11, zb_f, zb_T, zb_F, zbm1, zbm2, zbm5, zbm6, zbm3, zbm4, nI_clamp, zmod_n, pk_div, nI_ne0, pk_mul, nI_add, nI_1, ztb_tag hk, h.1]
    · intro j m _ h2 _ _
      simp (disch := omega) [zc_Squares_count_2, zmeth, xm_en, zret, zretz, zretv, zseq, zst, zinc, zkl, zskip, zk, zi, za, zbin, zdiv, zrem, zgi, zgr, zld, zldr, zlen, zn, zc, zcall, zcallv, zrcv, zdo, zdov, zpf, zpfc, zas, zasc, zmin, zmax, zcmp, zcz, zand_e, zor_e, zite_e, zbite_e, zif_e, znot_e, z_add, z_sub, z_mul, z_and, z_or, z_xor, z_shl, z_shr, zcpy, -List.getElem?_cons_succ, zg_0, zg_1, zg_2, zg_3, zg_4, zg_5, zg_6, zg_7, zg_8, zg_9, zc_lt, zc_le, zc_gt, zc_ge, zc_eq, zc_ne, zc_lt0, zc_ge0, zc_gt0, zc_eq0, zc_ne0, zb_ne, zb_eq, zb_01, z_00, z_01, z_11, zb_f, zb_T, zb_F, zbm1, zbm2, zbm5, zbm6, zbm3, zbm4, nI_clamp, zmod_n, pk_div, nI_ne0, pk_mul, nI_add, nI_1, ztb_tag hk, h.1, h2]
    · intro j m _ h2 _ hK
      refine ⟨fun v hv => (by rw [hit_neg] at hv; cases hv), fun _ => ?_⟩
      have cr := qS_countInRows hk h h1n h8 hf ha h2
      have el : (q2 n c (512 * a + 64 * j) a j).length = (q2 n c 0 a j).length := by rw [q2_map, List.length_map]
      rw [el]
      simp (disch := omega) [zs_Squares_count_2, zmeth, xm_en, zret, zretz, zretv, zseq, zst, zinc, zkl, zskip, zk, zi, za, zbin, zdiv, zrem, zgi, zgr, zld, zldr, zlen, zn, zc, zcall, zcallv, zrcv, zdo, zdov, zpf, zpfc, zas, zasc, zmin, zmax, zcmp, zcz, zand_e, zor_e, zite_e, zbite_e, zif_e, znot_e, z_add, z_sub, z_mul, z_and, z_or, z_xor, z_shl, z_shr, zcpy, -List.getElem?_cons_succ, zg_0, zg_1, zg_2, zg_3, zg_4, zg_5, zg_6, zg_7, zg_8, zg_9, zc_lt, zc_le, zc_gt, zc_ge, zc_eq, zc_ne, zc_lt0, zc_ge0, zc_gt0, zc_eq0, zc_ne0, zb_ne, zb_eq, zb_01, z_00, z_01, z_11, zb_f, zb_T, zb_F, zbm1, zbm2, zbm5, zbm6, zbm3, zbm4, nI_clamp, zmod_n, pk_div, nI_ne0, pk_mul, nI_add, nI_1, cr]
  have R : zsg (zwh zc_Squares_count_1 zs_Squares_count_1) [some (Value.ref (k)), some (Value.int (nI 0)), some (Value.int (nI 1)), none] M (-1) 0 (sqs n c) (fun m => [some (Value.ref (k)), some (Value.int (nI m)), some (Value.int (nI n)), none]) := by
    refine zwh_seg (K := 5000) (fun _ => True) (fun _ _ _ _ => trivial) (fun j m => [some (Value.ref (k)), some (Value.int (nI m)), some (Value.int (nI j)), none]) (q1 n c) (n := n) ?_ (n - 1) 1 (by omega) ?_ ?_ 0 trivial (by have := sqs_len h8 c; unfold sqs at this; omega)
    · intro m _ _
      simp (disch := omega) [zc_Squares_count_1, zmeth, xm_en, zret, zretz, zretv, zseq, zst, zinc, zkl, zskip, zk, zi, za, zbin, zdiv, zrem, zgi, zgr, zld, zldr, zlen, zn, zc, zcall, zcallv, zrcv, zdo, zdov, zpf, zpfc, zas, zasc, zmin, zmax, zcmp, zcz, zand_e, zor_e, zite_e, zbite_e, zif_e, znot_e, z_add, z_sub, z_mul, z_and, z_or, z_xor, z_shl, z_shr, zcpy, -List.getElem?_cons_succ, zg_0, zg_1, zg_2, zg_3, zg_4, zg_5, zg_6, zg_7, zg_8, zg_9, zc_lt, zc_le, zc_gt, zc_ge, zc_eq, zc_ne, zc_lt0, zc_ge0, zc_gt0, zc_eq0, zc_ne0, zb_ne, zb_eq, zb_01, z_00, z_01, z_11, zb_f, zb_T, zb_F, zbm1, zbm2, zbm5, zbm6, zbm3, zbm4, nI_clamp, zmod_n, pk_div, nI_ne0, pk_mul, nI_add, nI_1, ztb_tag hk, h.1]
    · intro j m _ h2 _ _
      simp (disch := omega) [zc_Squares_count_1, zmeth, xm_en, zret, zretz, zretv, zseq, zst, zinc, zkl, zskip, zk, zi, za, zbin, zdiv, zrem, zgi, zgr, zld, zldr, zlen, zn, zc, zcall, zcallv, zrcv, zdo, zdov, zpf, zpfc, zas, zasc, zmin, zmax, zcmp, zcz, zand_e, zor_e, zite_e, zbite_e, zif_e, znot_e, z_add, z_sub, z_mul, z_and, z_or, z_xor, z_shl, z_shr, zcpy, -List.getElem?_cons_succ, zg_0, zg_1, zg_2, zg_3, zg_4, zg_5, zg_6, zg_7, zg_8, zg_9, zc_lt, zc_le, zc_gt, zc_ge, zc_eq, zc_ne, zc_lt0, zc_ge0, zc_gt0, zc_eq0, zc_ne0, zb_ne, zb_eq, zb_01, z_00, z_01, z_11, zb_f, zb_T, zb_F, zbm1, zbm2, zbm5, zbm6, zbm3, zbm4, nI_clamp, zmod_n, pk_div, nI_ne0, pk_mul, nI_add, nI_1, ztb_tag hk, h.1, h2]
    · intro j m _ h2 _ hK
      refine zsg_inc (zsg_kl (v := .int (nI (j + 1))) ?_ (Nat.le_of_ble_eq_true rfl) rfl (R2 j m h2 hK) (fun m => rfl)) (fun m => rfl) (fun m => rfl)
      simp (disch := omega) [zmeth, xm_en, zret, zretz, zretv, zseq, zst, zinc, zkl, zskip, zk, zi, za, zbin, zdiv, zrem, zgi, zgr, zld, zldr, zlen, zn, zc, zcall, zcallv, zrcv, zdo, zdov, zpf, zpfc, zas, zasc, zmin, zmax, zcmp, zcz, zand_e, zor_e, zite_e, zbite_e, zif_e, znot_e, z_add, z_sub, z_mul, z_and, z_or, z_xor, z_shl, z_shr, zcpy, -List.getElem?_cons_succ, zg_0, zg_1, zg_2, zg_3, zg_4, zg_5, zg_6, zg_7, zg_8, zg_9, zc_lt, zc_le, zc_gt, zc_ge, zc_eq, zc_ne, zc_lt0, zc_ge0, zc_gt0, zc_eq0, zc_ne0, zb_ne, zb_eq, zb_01, z_00, z_01, z_11, zb_f, zb_T, zb_F, zbm1, zbm2, zbm5, zbm6, zbm3, zbm4, nI_clamp, zmod_n, pk_div, nI_ne0, pk_mul, nI_add, nI_1]
  have g := R.2 hit_neg
  simp (disch := omega) [zf_Squares_count, zmeth, xm_en, zret, zretz, zretv, zseq, zst, zinc, zkl, zskip, zk, zi, za, zbin, zdiv, zrem, zgi, zgr, zld, zldr, zlen, zn, zc, zcall, zcallv, zrcv, zdo, zdov, zpf, zpfc, zas, zasc, zmin, zmax, zcmp, zcz, zand_e, zor_e, zite_e, zbite_e, zif_e, znot_e, z_add, z_sub, z_mul, z_and, z_or, z_xor, z_shl, z_shr, zcpy, -List.getElem?_cons_succ, zg_0, zg_1, zg_2, zg_3, zg_4, zg_5, zg_6, zg_7, zg_8, zg_9, g]
def okSq (T : tS) (x : Int32) : Bool := tB (T x.toNatClampNeg).1 (T x.toNatClampNeg).2
def aSquare (T : tS) (x y : Int32) : Int32 := bif zlt x 4 && !xe_cd .lt y (-1) then (bif okSq T x then aSq (T x.toNatClampNeg).1 (T x.toNatClampNeg).2 y else -2) else -1
theorem qL_square {T : tS} {M : zM} (x y : Int32) (hC : CS T M) (hT : TO T) : zf_L_square [.ref 0, .int x, .int y] M = some (some (aSquare T x y), M) := by
  rcases z3 x (n := 4) (by decide) with h | ⟨t, ht, rfl⟩
  · simp [zf_L_square, zmeth, xm_en, zret, zretz, zretv, zseq, zst, zinc, zkl, zskip, zk, zi, za, zbin, zdiv, zrem, zgi, zgr, zld, zldr, zlen, zn, zc, zcall, zcallv, zrcv, zdo, zdov, zpf, zpfc, zas, zasc, zmin, zmax, zcmp, zcz, zand_e, zor_e, zite_e, zbite_e, zif_e, znot_e, z_add, z_sub, z_mul, z_and, z_or, z_xor, z_shl, z_shr, zcpy, -List.getElem?_cons_succ, zg_0, zg_1, zg_2, zg_3, zg_4, zg_5, zg_6, zg_7, zg_8, zg_9, qL_isTable, zb_ne, h, aSquare]
  · have e := zlt_y ht (by decide)
    have ct : (nI t).toNatClampNeg = t := nI_clamp (by omega)
    have h18 := (hT t ht).1
    cases hy : xe_cd .lt y (-1) with
    | true => simp [zf_L_square, zmeth, xm_en, zret, zretz, zretv, zseq, zst, zinc, zkl, zskip, zk, zi, za, zbin, zdiv, zrem, zgi, zgr, zld, zldr, zlen, zn, zc, zcall, zcallv, zrcv, zdo, zdov, zpf, zpfc, zas, zasc, zmin, zmax, zcmp, zcz, zand_e, zor_e, zite_e, zbite_e, zif_e, znot_e, z_add, z_sub, z_mul, z_and, z_or, z_xor, z_shl, z_shr, zcpy, -List.getElem?_cons_succ, zg_0, zg_1, zg_2, zg_3, zg_4, zg_5, zg_6, zg_7, zg_8, zg_9, qL_isTable, zb_ne, e, hy, aSquare]
    | false =>
      cases hb : tB (T t).1 (T t).2 with
      | false => simp (disch := omega) [zf_L_square, zmeth, xm_en, zret, zretz, zretv, zseq, zst, zinc, zkl, zskip, zk, zi, za, zbin, zdiv, zrem, zgi, zgr, zld, zldr, zlen, zn, zc, zcall, zcallv, zrcv, zdo, zdov, zpf, zpfc, zas, zasc, zmin, zmax, zcmp, zcz, zand_e, zor_e, zite_e, zbite_e, zif_e, znot_e, z_add, z_sub, z_mul, z_and, z_or, z_xor, z_shl, z_shr, zcpy, -List.getElem?_cons_succ, zg_0, zg_1, zg_2, zg_3, zg_4, zg_5, zg_6, zg_7, zg_8, zg_9, zt_0, zt_12, zt_20, zt_26, zt_32, zf_0_0, zf_0_1, zf_0_2, zf_0_3, zf_0_4, zf_12_0, zf_12_1, zf_12_2, zf_12_4, zf_12_5, zf_20_1, zf_20_2, zf_20_3, zf_20_4, zf_20_6, zf_26_0, zf_26_1, zf_26_2, zf_26_3, zf_32_0, zf_32_1, zf_32_3, zf_32_4, zf_32_5, zf_32_6, qL_isTable, zb_ne, e, hy, aSquare, okSq, ct, hb, zi_1, zf_1, nI_clamp, ztb_tag (tb4 ht), qT_isFull (tb4 ht) (hC t ht) (hT t ht)]
      | true =>
        have hf := (tB_iff (hT t ht)).mp hb
        by_cases hy1 : y = -1
        · subst hy1
          have e1 : xe_cd .eq (-1) (-1) = true := by decide
          have e2 : aSq (T t).1 (T t).2 (-1) = nI (sqs (T t).1 (T t).2).length := by
            unfold aSq
            have : (-1 : Int32).toInt = -1 := by decide
            rw [this, hit_neg]
            rfl
          simp (disch := omega) [zf_L_square, zmeth, xm_en, zret, zretz, zretv, zseq, zst, zinc, zkl, zskip, zk, zi, za, zbin, zdiv, zrem, zgi, zgr, zld, zldr, zlen, zn, zc, zcall, zcallv, zrcv, zdo, zdov, zpf, zpfc, zas, zasc, zmin, zmax, zcmp, zcz, zand_e, zor_e, zite_e, zbite_e, zif_e, znot_e, z_add, z_sub, z_mul, z_and, z_or, z_xor, z_shl, z_shr, zcpy, -List.getElem?_cons_succ, zg_0, zg_1, zg_2, zg_3, zg_4, zg_5, zg_6, zg_7, zg_8, zg_9, zt_0, zt_12, zt_20, zt_26, zt_32, zf_0_0, zf_0_1, zf_0_2, zf_0_3, zf_0_4, zf_12_0, zf_12_1, zf_12_2, zf_12_4, zf_12_5, zf_20_1, zf_20_2, zf_20_3, zf_20_4, zf_20_6, zf_26_0, zf_26_1, zf_26_2, zf_26_3, zf_32_0, zf_32_1, zf_32_3, zf_32_4, zf_32_5, zf_32_6, qL_isTable, zb_ne, e, hy, aSquare, okSq, ct, hb, zi_1, zf_1, nI_clamp, ztb_tag (tb4 ht), qT_isFull (tb4 ht) (hC t ht) (hT t ht), e1, e2, qS_count (tb4 ht) (hC t ht) h18.1 h18.2 hf]
        · have hy0 : ¬ y < 0 := by
            intro q
            have q1 : ¬ y < -1 := by
              intro w
              have : xe_cd .lt y (-1) = true := decide_eq_true w
              rw [hy] at this
              cases this
            rw [Int32.lt_iff_toInt_lt] at q q1
            have a1 : (-1 : Int32).toInt = -1 := by decide
            have a2 : (0 : Int32).toInt = 0 := by decide
            rw [a1] at q1
            rw [a2] at q
            exact hy1 (Int32.toInt_inj.mp (by rw [a1]; omega))
          obtain ⟨i, hi, rfl⟩ := nI_of hy0
          have e1 : xe_cd .eq (nI i) (-1) = false := decide_eq_false hy1
          simp (disch := omega) [zf_L_square, zmeth, xm_en, zret, zretz, zretv, zseq, zst, zinc, zkl, zskip, zk, zi, za, zbin, zdiv, zrem, zgi, zgr, zld, zldr, zlen, zn, zc, zcall, zcallv, zrcv, zdo, zdov, zpf, zpfc, zas, zasc, zmin, zmax, zcmp, zcz, zand_e, zor_e, zite_e, zbite_e, zif_e, znot_e, z_add, z_sub, z_mul, z_and, z_or, z_xor, z_shl, z_shr, zcpy, -List.getElem?_cons_succ, zg_0, zg_1, zg_2, zg_3, zg_4, zg_5, zg_6, zg_7, zg_8, zg_9, zt_0, zt_12, zt_20, zt_26, zt_32, zf_0_0, zf_0_1, zf_0_2, zf_0_3, zf_0_4, zf_12_0, zf_12_1, zf_12_2, zf_12_4, zf_12_5, zf_20_1, zf_20_2, zf_20_3, zf_20_4, zf_20_6, zf_26_0, zf_26_1, zf_26_2, zf_26_3, zf_32_0, zf_32_1, zf_32_3, zf_32_4, zf_32_5, zf_32_6, qL_isTable, zb_ne, e, hy, aSquare, okSq, ct, hb, zi_1, zf_1, nI_clamp, ztb_tag (tb4 ht), qT_isFull (tb4 ht) (hC t ht) (hT t ht), e1, qS_find (tb4 ht) (hC t ht) h18.1 h18.2 hf hi]
theorem qM_square {T : tS} {M : zM} (x y : Int32) (hR : RS T M) (hT : TO T) : zf_M_square [.ref 32, .int x, .int y] M = some (some (aSquare T x y), M) := by
  rcases z3 x (n := 4) (by decide) with h | ⟨t, ht, rfl⟩
  · simp [zf_M_square, zmeth, xm_en, zret, zretz, zretv, zseq, zst, zinc, zkl, zskip, zk, zi, za, zbin, zdiv, zrem, zgi, zgr, zld, zldr, zlen, zn, zc, zcall, zcallv, zrcv, zdo, zdov, zpf, zpfc, zas, zasc, zmin, zmax, zcmp, zcz, zand_e, zor_e, zite_e, zbite_e, zif_e, znot_e, z_add, z_sub, z_mul, z_and, z_or, z_xor, z_shl, z_shr, zcpy, -List.getElem?_cons_succ, zg_0, zg_1, zg_2, zg_3, zg_4, zg_5, zg_6, zg_7, zg_8, zg_9, qM_isTable, zb_ne, h, aSquare]
  · have e := zlt_y ht (by decide)
    have ct : (nI t).toNatClampNeg = t := nI_clamp (by omega)
    have h18 := (hT t ht).1
    have h6 : t < 6 := by omega
    cases hy : xe_cd .lt y (-1) with
    | true => simp [zf_M_square, zmeth, xm_en, zret, zretz, zretv, zseq, zst, zinc, zkl, zskip, zk, zi, za, zbin, zdiv, zrem, zgi, zgr, zld, zldr, zlen, zn, zc, zcall, zcallv, zrcv, zdo, zdov, zpf, zpfc, zas, zasc, zmin, zmax, zcmp, zcz, zand_e, zor_e, zite_e, zbite_e, zif_e, znot_e, z_add, z_sub, z_mul, z_and, z_or, z_xor, z_shl, z_shr, zcpy, -List.getElem?_cons_succ, zg_0, zg_1, zg_2, zg_3, zg_4, zg_5, zg_6, zg_7, zg_8, zg_9, qM_isTable, zb_ne, e, hy, aSquare]
    | false =>
      cases hb : tB (T t).1 (T t).2 with
      | false => simp (disch := omega) [zf_M_square, zmeth, xm_en, zret, zretz, zretv, zseq, zst, zinc, zkl, zskip, zk, zi, za, zbin, zdiv, zrem, zgi, zgr, zld, zldr, zlen, zn, zc, zcall, zcallv, zrcv, zdo, zdov, zpf, zpfc, zas, zasc, zmin, zmax, zcmp, zcz, zand_e, zor_e, zite_e, zbite_e, zif_e, znot_e, z_add, z_sub, z_mul, z_and, z_or, z_xor, z_shl, z_shr, zcpy, -List.getElem?_cons_succ, zg_0, zg_1, zg_2, zg_3, zg_4, zg_5, zg_6, zg_7, zg_8, zg_9, zt_0, zt_12, zt_20, zt_26, zt_32, zf_0_0, zf_0_1, zf_0_2, zf_0_3, zf_0_4, zf_12_0, zf_12_1, zf_12_2, zf_12_4, zf_12_5, zf_20_1, zf_20_2, zf_20_3, zf_20_4, zf_20_6, zf_26_0, zf_26_1, zf_26_2, zf_26_3, zf_32_0, zf_32_1, zf_32_3, zf_32_4, zf_32_5, zf_32_6, qM_isTable, zb_ne, e, hy, aSquare, okSq, ct, hb, qM_isFull h6 (hR t ht) h18.2]
      | true =>
        have hf := (tB_iff (hT t ht)).mp hb
        simp (disch := omega) [zf_M_square, zmeth, xm_en, zret, zretz, zretv, zseq, zst, zinc, zkl, zskip, zk, zi, za, zbin, zdiv, zrem, zgi, zgr, zld, zldr, zlen, zn, zc, zcall, zcallv, zrcv, zdo, zdov, zpf, zpfc, zas, zasc, zmin, zmax, zcmp, zcz, zand_e, zor_e, zite_e, zbite_e, zif_e, znot_e, z_add, z_sub, z_mul, z_and, z_or, z_xor, z_shl, z_shr, zcpy, -List.getElem?_cons_succ, zg_0, zg_1, zg_2, zg_3, zg_4, zg_5, zg_6, zg_7, zg_8, zg_9, zt_0, zt_12, zt_20, zt_26, zt_32, zf_0_0, zf_0_1, zf_0_2, zf_0_3, zf_0_4, zf_12_0, zf_12_1, zf_12_2, zf_12_4, zf_12_5, zf_20_1, zf_20_2, zf_20_3, zf_20_4, zf_20_6, zf_26_0, zf_26_1, zf_26_2, zf_26_3, zf_32_0, zf_32_1, zf_32_3, zf_32_4, zf_32_5, zf_32_6, qM_isTable, zb_ne, e, hy, aSquare, okSq, ct, hb, qM_isFull h6 (hR t ht) h18.2, qM_squares ht (hR t ht) h18.1 h18.2 hf]
/-! turn -/
theorem sqs_mem {n v : Nat} {c : tC} (h : v ∈ sqs n c) : ∃ a e b d, (1 ≤ a ∧ a < e ∧ e < n) ∧ (1 ≤ b ∧ b < d ∧ d < n) ∧ v = 512 * a + 64 * e + 8 * b + d ∧ sqB c a e b d = true := by
  obtain ⟨a, a1, a2, h⟩ := segs_mem _ _ h
  obtain ⟨e, e1, e2, h⟩ := segs_mem _ _ h
  obtain ⟨b, b1, b2, h⟩ := segs_mem _ _ h
  obtain ⟨d, d1, d2, h⟩ := segs_mem _ _ h
  unfold q4 at h
  cases hs : sqB c a e b d with
  | false => rw [hs] at h; simp at h
  | true =>
    rw [hs] at h
    simp only [cond_true, List.mem_singleton] at h
    exact ⟨a, e, b, d, by omega, by omega, h, hs⟩
def tTn (c : tC) (a e b d : Nat) : tC := fun x y => if (x = a ∧ y = b) ∨ (x = e ∧ y = d) then c a d else if (x = a ∧ y = d) ∨ (x = e ∧ y = b) then c a b else c x y
def tsw (b d y : Nat) : Nat := if y = b then d else if y = d then b else y
theorem tsw_lt {b d y n : Nat} (hb : b < n) (hd : d < n) (hy : y < n) : tsw b d y < n := by
  unfold tsw
  split
  · exact hd
  · split
    · exact hb
    · exact hy
theorem tsw_inj {b d y z : Nat} (h : tsw b d y = tsw b d z) : y = z := by
  unfold tsw at h
  split at h
  · split at h
    · omega
    · split at h <;> omega
  · split at h
    · split at h
      · omega
      · split at h <;> omega
    · split at h
      · omega
      · split at h <;> omega
theorem tTn_row {c : tC} {a e b d : Nat} (hae : a ≠ e) (hbd : b ≠ d) (hs : sqB c a e b d = true) (x y : Nat) : tTn c a e b d x y = c x (if x = a ∨ x = e then tsw b d y else y) := by
  simp only [sqB, Bool.and_eq_true, decide_eq_true_eq] at hs
  unfold tTn tsw
  by_cases hx : x = a
  · subst hx
    rw [if_pos (Or.inl rfl)]
    by_cases h1 : y = b
    · rw [if_pos (by omega), if_pos h1]
    · by_cases h2 : y = d
      · rw [if_neg (by omega), if_pos (by omega), if_neg h1, if_pos h2]
      · rw [if_neg (by omega), if_neg (by omega), if_neg h1, if_neg h2]
  · by_cases hx2 : x = e
    · subst hx2
      rw [if_pos (Or.inr rfl)]
      by_cases h1 : y = b
      · rw [if_neg (by omega), if_pos (by omega), if_pos h1]
        exact hs.1
      · by_cases h2 : y = d
        · rw [if_pos (by omega), if_neg h1, if_pos h2]
          exact hs.2
        · rw [if_neg (by omega), if_neg (by omega), if_neg h1, if_neg h2]
    · rw [if_neg (by omega), if_neg (by omega), if_neg (by omega)]
theorem tTn_col {c : tC} {a e b d : Nat} (hae : a ≠ e) (hbd : b ≠ d) (hs : sqB c a e b d = true) (x y : Nat) : tTn c a e b d x y = c (if y = b ∨ y = d then tsw a e x else x) y := by
  simp only [sqB, Bool.and_eq_true, decide_eq_true_eq] at hs
  unfold tTn tsw
  by_cases hx : y = b
  · subst hx
    rw [if_pos (Or.inl rfl)]
    by_cases h1 : x = a
    · rw [if_pos (by omega), if_pos h1]
      exact hs.2
    · by_cases h2 : x = e
      · rw [if_neg (by omega), if_pos (by omega), if_neg h1, if_pos h2]
      · rw [if_neg (by omega), if_neg (by omega), if_neg h1, if_neg h2]
  · by_cases hx2 : y = d
    · subst hx2
      rw [if_pos (Or.inr rfl)]
      by_cases h1 : x = a
      · rw [if_neg (by omega), if_pos (by omega), if_pos h1]
        exact hs.1
      · by_cases h2 : x = e
        · rw [if_pos (by omega), if_neg h1, if_pos h2]
        · rw [if_neg (by omega), if_neg (by omega), if_neg h1, if_neg h2]
    · rw [if_neg (by omega), if_neg (by omega), if_neg (by omega)]
theorem tF_tn {n a e b d : Nat} {c : tC} (hf : tF n c) (ha : a < n) (hb : b < n) (hd : d < n) : tF n (tTn c a e b d) := fun x y hx hy => by
  unfold tTn
  split
  · exact hf a d ha hd
  · split
    · exact hf a b ha hb
    · exact hf x y hx hy
theorem tO_tn {n a e b d : Nat} {c : tC} (h : tO n c) (hf : tF n c) (hae : 1 ≤ a ∧ a < e ∧ e < n) (hbd : 1 ≤ b ∧ b < d ∧ d < n) (hs : sqB c a e b d = true) : tO n (tTn c a e b d) := by
  have hF := tF_tn (e := e) hf (show a < n by omega) (show b < n by omega) (show d < n by omega)
  have h8 := h.1.2
  refine ⟨h.1, fun x hx => ?_, fun x y hx hy => Or.inl (hF x y hx hy), fun x y z hx hy hz g1 g2 => ?_, fun x y z hx hy hz g1 g2 => ?_⟩
  · unfold tTn
    rw [if_neg (by omega), if_neg (by omega), if_neg (by omega), if_neg (by omega)]
    exact h.2.1 x hx
  · rw [tTn_row (by omega) (by omega) hs, tTn_row (by omega) (by omega) hs] at g1
    by_cases hc : x = a ∨ x = e
    · rw [if_pos hc, if_pos hc] at g1
      have l1 := tsw_lt (show b < n by omega) (show d < n by omega) hy
      have l2 := tsw_lt (show b < n by omega) (show d < n by omega) hz
      exact tsw_inj (h.2.2.2.1 x _ _ hx l1 l2 g1 (by have := hf x _ hx l1; omega))
    · rw [if_neg hc, if_neg hc] at g1
      exact h.2.2.2.1 x _ _ hx hy hz g1 (by have := hf x _ hx hy; omega)
  · rw [tTn_col (by omega) (by omega) hs, tTn_col (by omega) (by omega) hs] at g1
    by_cases hc : z = b ∨ z = d
    · rw [if_pos hc, if_pos hc] at g1
      have l1 := tsw_lt (show a < n by omega) (show e < n by omega) hx
      have l2 := tsw_lt (show a < n by omega) (show e < n by omega) hy
      exact tsw_inj (h.2.2.2.2 _ _ z l1 l2 hz g1 (by have := hf _ z l1 hz; omega))
    · rw [if_neg hc, if_neg hc] at g1
      exact h.2.2.2.2 _ _ z hx hy hz g1 (by have := hf _ z hx hz; omega)
theorem z_dec {v s : Nat} (hv : v < 2 ^ 31) (hs : s < 32) : (nI v >>> (nI s &&& 31)) &&& nI 7 = nI (v / 2 ^ s % 8) := by
  rw [nI_shr hv hs, nI_and, Nat.shiftRight_eq_div_pow]
  congr 1
  exact Nat.and_two_pow_sub_one_eq_mod _ 3
theorem z_dec0 {v : Nat} : nI v &&& nI 7 = nI (v % 8) := by
  rw [nI_and]
  congr 1
  exact Nat.and_two_pow_sub_one_eq_mod _ 3
def tTv (c : tC) (v : Nat) : tC := tTn c (v / 512) (v / 64 % 8) (v / 8 % 8) (v % 8)
theorem qS_change {M : zM} {k n a e b d v : Nat} {c : tC} (hk : ztb k) (h : kT M k n c) (h8 : n ≤ 8) (hf : tF n c) (hae : a < e ∧ e < n) (hbd : b < d ∧ d < n) (hv : v = 512 * a + 64 * e + 8 * b + d) : ∃ M', zf_Squares_change [.ref k, .int (nI v)] M = some (none, M') ∧ kT M' k n (tTv c v) ∧ (∀ q j, q ≠ k + 1 → M' q j = M q j) := by
  have ea : v / 512 % 8 = a := by omega
  have ea2 : v / 512 = a := by omega
  have ee : v / 64 % 8 = e := by omega
  have eb : v / 8 % 8 = b := by omega
  have ed : v % 8 = d := by omega
  have d1 : (nI v >>> (nI 9 &&& 31)) &&& nI 7 = nI a := by rw [z_dec (by omega) (by decide)]; exact congrArg nI ea
  have d2 : (nI v >>> (nI 6 &&& 31)) &&& nI 7 = nI e := by rw [z_dec (by omega) (by decide)]; exact congrArg nI ee
  have d3 : (nI v >>> (nI 3 &&& 31)) &&& nI 7 = nI b := by rw [z_dec (by omega) (by decide)]; exact congrArg nI eb
  have d4 : nI v &&& nI 7 = nI d := by rw [z_dec0, ed]
  have ha : a < n := by omega
  have he : e < n := hae.2
  have hb : b < n := by omega
  have hd : d < n := hbd.2
  have m1 := qT_mul hk h h8 hf ha hb
  have m2 := qT_mul hk h h8 hf ha hd
  have hn := h.1
  have p1 := qT_put (M := M) (v := nI (c a d)) hk hn h8 ha hb
  have p2 := qT_put (M := zup M (k + 1) (8 * a + b) (nI (c a d))) (v := nI (c a d)) hk (by rw [zup_e, if_neg (by omega)]; exact hn) h8 he hd
  have p3 := qT_put (M := zup (zup M (k + 1) (8 * a + b) (nI (c a d))) (k + 1) (8 * e + d) (nI (c a d))) (v := nI (c a b)) hk (by rw [zup_e, if_neg (by omega), zup_e, if_neg (by omega)]; exact hn) h8 ha hd
  have p4 := qT_put (M := zup (zup (zup M (k + 1) (8 * a + b) (nI (c a d))) (k + 1) (8 * e + d) (nI (c a d))) (k + 1) (8 * a + d) (nI (c a b))) (v := nI (c a b)) hk (by rw [zup_e, if_neg (by omega), zup_e, if_neg (by omega), zup_e, if_neg (by omega)]; exact hn) h8 he hb
  refine ⟨zup (zup (zup (zup M (k + 1) (8 * a + b) (nI (c a d))) (k + 1) (8 * e + d) (nI (c a d))) (k + 1) (8 * a + d) (nI (c a b))) (k + 1) (8 * e + b) (nI (c a b)), ?_, ⟨?_, fun x y hx hy => ?_⟩, fun q j hq => ?_⟩
  · simp (disch := omega) [zf_Squares_change, zmeth, xm_en, zret, zretz, zretv, zseq, zst, zinc, zkl, zskip, zk, zi, za, zbin, zdiv, zrem, zgi, zgr, zld, zldr, zlen, zn, zc, zcall, zcallv, zrcv, zdo, zdov, zpf, zpfc, zas, zasc, zmin, zmax, zcmp, zcz, zand_e, zor_e, zite_e, zbite_e, zif_e, znot_e, z_add, z_sub, z_mul, z_and, z_or, z_xor, z_shl, z_shr, zcpy, -List.getElem?_cons_succ, zg_0, zg_1, zg_2, zg_3, zg_4, zg_5, zg_6, zg_7, zg_8, zg_9, d1, d2, d3, d4, ztb_tag hk, m1, m2, p1, p2, p3, p4]
  · rw [zup_e, if_neg (by omega), zup_e, if_neg (by omega), zup_e, if_neg (by omega), zup_e, if_neg (by omega)]
    exact hn
  · have v1 : zcl (-1) (c a d) = nI (c a d) := zcl_lt (by have := hf a d ha hd; omega)
    have v2 : zcl (-1) (c a b) = nI (c a b) := zcl_lt (by have := hf a b ha hb; omega)
    unfold tTv tTn
    rw [ea2, ee, eb, ed, zup_e, zup_e, zup_e, zup_e]
    by_cases g1 : x = e ∧ y = b
    · rw [if_pos (by omega), if_neg (by omega), if_pos (by omega), v2]
    · rw [if_neg (by omega)]
      by_cases g2 : x = a ∧ y = d
      · rw [if_pos (by omega), if_neg (by omega), if_pos (by omega), v2]
      · rw [if_neg (by omega)]
        by_cases g3 : x = e ∧ y = d
        · rw [if_pos (by omega), if_pos (by omega), v1]
        · rw [if_neg (by omega)]
          by_cases g4 : x = a ∧ y = b
          · rw [if_pos (by omega), if_pos (by omega), v1]
          · rw [if_neg (by omega), if_neg (by omega), if_neg (by omega)]
            exact h.2 x y hx hy
  · rw [zup_e, if_neg (by omega), zup_e, if_neg (by omega), zup_e, if_neg (by omega), zup_e, if_neg (by omega)]
def oTn (T : tS) (x y : Int32) : Option Nat := bif zlt x 4 && (!decide (y < 0) && okSq T x) then hit y.toInt 0 (sqs (T x.toNatClampNeg).1 (T x.toNatClampNeg).2) else none
def sTn (T : tS) (x y : Int32) : tS := match oTn T x y with
  | some v => tset T x.toNatClampNeg (T x.toNatClampNeg).1 (tTv (T x.toNatClampNeg).2 v)
  | none => T
def aTn (T : tS) (x y : Int32) : Int32 := bif zlt x 4 && !decide (y < 0) then (bif okSq T x then (match oTn T x y with
  | some _ => nI 1
  | none => -1) else -2) else -1
theorem CS_one {T : tS} {M M' : zM} {t n : Nat} {c : tC} (ht : t < 4) (hC : CS T M) (h : kT M' (2 + 2 * t) n c) (ho : ∀ q j, q ≠ 2 + 2 * t + 1 → M' q j = M q j) : CS (tset T t n c) M' := by
  intro u hu
  unfold tset
  by_cases g : u = t
  · subst g
    simp only [if_true]
    exact h
  · rw [if_neg g]
    exact (hC u hu).same (fun j => ho _ j (by omega)) (fun j => ho _ j (by omega))
theorem qL_turn {T : tS} {M : zM} (x y : Int32) (hC : CS T M) (hT : TO T) : ∃ M', zf_L_turn [.ref 0, .int x, .int y] M = some (some (aTn T x y), M') ∧ CS (sTn T x y) M' ∧ zhi M M' := by
  rcases z3 x (n := 4) (by decide) with h | ⟨t, ht, rfl⟩
  · refine ⟨M, ?_, by simpa [sTn, oTn, h] using hC, zhi.refl M⟩
    simp [zf_L_turn, zmeth, xm_en, zret, zretz, zretv, zseq, zst, zinc, zkl, zskip, zk, zi, za, zbin, zdiv, zrem, zgi, zgr, zld, zldr, zlen, zn, zc, zcall, zcallv, zrcv, zdo, zdov, zpf, zpfc, zas, zasc, zmin, zmax, zcmp, zcz, zand_e, zor_e, zite_e, zbite_e, zif_e, znot_e, z_add, z_sub, z_mul, z_and, z_or, z_xor, z_shl, z_shr, zcpy, -List.getElem?_cons_succ, zg_0, zg_1, zg_2, zg_3, zg_4, zg_5, zg_6, zg_7, zg_8, zg_9, qL_isTable, zb_ne, h, aTn]
  · have e := zlt_y ht (by decide)
    have ct : (nI t).toNatClampNeg = t := nI_clamp (by omega)
    have h18 := (hT t ht).1
    have elt : ∀ q : Int32, xe_cd .lt q 0 = decide (q < 0) := fun q => rfl
    by_cases hy : y < 0
    · refine ⟨M, ?_, by simpa [sTn, oTn, hy] using hC, zhi.refl M⟩
      simp [zf_L_turn, zmeth, xm_en, zret, zretz, zretv, zseq, zst, zinc, zkl, zskip, zk, zi, za, zbin, zdiv, zrem, zgi, zgr, zld, zldr, zlen, zn, zc, zcall, zcallv, zrcv, zdo, zdov, zpf, zpfc, zas, zasc, zmin, zmax, zcmp, zcz, zand_e, zor_e, zite_e, zbite_e, zif_e, znot_e, z_add, z_sub, z_mul, z_and, z_or, z_xor, z_shl, z_shr, zcpy, -List.getElem?_cons_succ, zg_0, zg_1, zg_2, zg_3, zg_4, zg_5, zg_6, zg_7, zg_8, zg_9, qL_isTable, zb_ne, e, elt, hy, aTn]
    · obtain ⟨i, hi, rfl⟩ := nI_of hy
      cases hb : tB (T t).1 (T t).2 with
      | false =>
        refine ⟨M, ?_, by simpa [sTn, oTn, okSq, ct, hb] using hC, zhi.refl M⟩
        simp (disch := omega) [zf_L_turn, zmeth, xm_en, zret, zretz, zretv, zseq, zst, zinc, zkl, zskip, zk, zi, za, zbin, zdiv, zrem, zgi, zgr, zld, zldr, zlen, zn, zc, zcall, zcallv, zrcv, zdo, zdov, zpf, zpfc, zas, zasc, zmin, zmax, zcmp, zcz, zand_e, zor_e, zite_e, zbite_e, zif_e, znot_e, z_add, z_sub, z_mul, z_and, z_or, z_xor, z_shl, z_shr, zcpy, -List.getElem?_cons_succ, zg_0, zg_1, zg_2, zg_3, zg_4, zg_5, zg_6, zg_7, zg_8, zg_9, zt_0, zt_12, zt_20, zt_26, zt_32, zf_0_0, zf_0_1, zf_0_2, zf_0_3, zf_0_4, zf_12_0, zf_12_1, zf_12_2, zf_12_4, zf_12_5, zf_20_1, zf_20_2, zf_20_3, zf_20_4, zf_20_6, zf_26_0, zf_26_1, zf_26_2, zf_26_3, zf_32_0, zf_32_1, zf_32_3, zf_32_4, zf_32_5, zf_32_6, qL_isTable, zb_ne, e, elt, hy, aTn, okSq, ct, hb, zi_1, zf_1, nI_clamp, ztb_tag (tb4 ht), qT_isFull (tb4 ht) (hC t ht) (hT t ht)]
      | true =>
        have hf := (tB_iff (hT t ht)).mp hb
        have hfi := qS_find (tb4 ht) (hC t ht) h18.1 h18.2 hf hi
        have ho : oTn T (nI t) (nI i) = hit (i : Int) 0 (sqs (T t).1 (T t).2) := by simp [oTn, e, hy, okSq, ct, hb, nI_toInt hi]
        cases hh : hit (i : Int) 0 (sqs (T t).1 (T t).2) with
        | none =>
          rw [hh] at ho
          have ea : aSq (T t).1 (T t).2 (nI i) = -4 := by
            unfold aSq
            rw [nI_toInt hi, hh]
            exact if_neg hy
          rw [ea] at hfi
          have e4 : xe_cd .eq (-4) (-4) = true := by decide
          refine ⟨M, ?_, by simpa [sTn, ho] using hC, zhi.refl M⟩
          simp (disch := omega) [zf_L_turn, zmeth, xm_en, zret, zretz, zretv, zseq, zst, zinc, zkl, zskip, zk, zi, za, zbin, zdiv, zrem, zgi, zgr, zld, zldr, zlen, zn, zc, zcall, zcallv, zrcv, zdo, zdov, zpf, zpfc, zas, zasc, zmin, zmax, zcmp, zcz, zand_e, zor_e, zite_e, zbite_e, zif_e, znot_e, z_add, z_sub, z_mul, z_and, z_or, z_xor, z_shl, z_shr, zcpy, -List.getElem?_cons_succ, zg_0, zg_1, zg_2, zg_3, zg_4, zg_5, zg_6, zg_7, zg_8, zg_9, zt_0, zt_12, zt_20, zt_26, zt_32, zf_0_0, zf_0_1, zf_0_2, zf_0_3, zf_0_4, zf_12_0, zf_12_1, zf_12_2, zf_12_4, zf_12_5, zf_20_1, zf_20_2, zf_20_3, zf_20_4, zf_20_6, zf_26_0, zf_26_1, zf_26_2, zf_26_3, zf_32_0, zf_32_1, zf_32_3, zf_32_4, zf_32_5, zf_32_6, qL_isTable, zb_ne, e, elt, hy, aTn, okSq, ct, hb, zi_1, zf_1, nI_clamp, ztb_tag (tb4 ht), qT_isFull (tb4 ht) (hC t ht) (hT t ht), hfi, e4, ho]
        | some v =>
          rw [hh] at ho
          have ea : aSq (T t).1 (T t).2 (nI i) = nI v := by
            unfold aSq
            rw [nI_toInt hi, hh]
          rw [ea] at hfi
          obtain ⟨a, e', b, d, h1, h2, h3, h4⟩ := sqs_mem (hit_mem hh)
          obtain ⟨M1, g1, g2, g3⟩ := qS_change (tb4 ht) (hC t ht) h18.2 hf h1.2 h2.2 h3
          have e4 : xe_cd .eq (nI v) (-4) = false := by
            refine decide_eq_false (fun q => ?_)
            have : nI v < 0 := by rw [q]; decide
            exact nI_pos (by omega) this
          refine ⟨M1, ?_, ?_, fun k j hk => g3 k j (by omega)⟩
          · simp (disch := omega) [zf_L_turn, zmeth, xm_en, zret, zretz, zretv, zseq, zst, zinc, zkl, zskip, zk, zi, za, zbin, zdiv, zrem, zgi, zgr, zld, zldr, zlen, zn, zc, zcall, zcallv, zrcv, zdo, zdov, zpf, zpfc, zas, zasc, zmin, zmax, zcmp, zcz, zand_e, zor_e, zite_e, zbite_e, zif_e, znot_e, z_add, z_sub, z_mul, z_and, z_or, z_xor, z_shl, z_shr, zcpy, -List.getElem?_cons_succ, zg_0, zg_1, zg_2, zg_3, zg_4, zg_5, zg_6, zg_7, zg_8, zg_9, zt_0, zt_12, zt_20, zt_26, zt_32, zf_0_0, zf_0_1, zf_0_2, zf_0_3, zf_0_4, zf_12_0, zf_12_1, zf_12_2, zf_12_4, zf_12_5, zf_20_1, zf_20_2, zf_20_3, zf_20_4, zf_20_6, zf_26_0, zf_26_1, zf_26_2, zf_26_3, zf_32_0, zf_32_1, zf_32_3, zf_32_4, zf_32_5, zf_32_6, qL_isTable, zb_ne, e, elt, hy, aTn, okSq, ct, hb, zi_1, zf_1, nI_clamp, ztb_tag (tb4 ht), qT_isFull (tb4 ht) (hC t ht) (hT t ht), hfi, e4, g1, ho]
          · simp only [sTn, ho, ct]
            exact CS_one ht hC g2 g3
theorem qM_turn {T : tS} {M : zM} (x y : Int32) (hR : RS T M) (hT : TO T) : ∃ M', zf_M_turn [.ref 32, .int x, .int y] M = some (some (aTn T x y), M') ∧ RS (sTn T x y) M' ∧ TO (sTn T x y) ∧ zlo M M' := by
  rcases z3 x (n := 4) (by decide) with h | ⟨t, ht, rfl⟩
  · refine ⟨M, ?_, by simpa [sTn, oTn, h] using hR, by simpa [sTn, oTn, h] using hT, zlo.refl M⟩
    simp [zf_M_turn, zmeth, xm_en, zret, zretz, zretv, zseq, zst, zinc, zkl, zskip, zk, zi, za, zbin, zdiv, zrem, zgi, zgr, zld, zldr, zlen, zn, zc, zcall, zcallv, zrcv, zdo, zdov, zpf, zpfc, zas, zasc, zmin, zmax, zcmp, zcz, zand_e, zor_e, zite_e, zbite_e, zif_e, znot_e, z_add, z_sub, z_mul, z_and, z_or, z_xor, z_shl, z_shr, zcpy, -List.getElem?_cons_succ, zg_0, zg_1, zg_2, zg_3, zg_4, zg_5, zg_6, zg_7, zg_8, zg_9, qM_isTable, zb_ne, h, aTn]
  · have e := zlt_y ht (by decide)
    have ct : (nI t).toNatClampNeg = t := nI_clamp (by omega)
    have h18 := (hT t ht).1
    have h8 := h18.2
    have h6 : t < 6 := by omega
    have elt : ∀ q : Int32, xe_cd .lt q 0 = decide (q < 0) := fun q => rfl
    by_cases hy : y < 0
    · refine ⟨M, ?_, by simpa [sTn, oTn, hy] using hR, by simpa [sTn, oTn, hy] using hT, zlo.refl M⟩
      simp [zf_M_turn, zmeth, xm_en, zret, zretz, zretv, zseq, zst, zinc, zkl, zskip, zk, zi, za, zbin, zdiv, zrem, zgi, zgr, zld, zldr, zlen, zn, zc, zcall, zcallv, zrcv, zdo, zdov, zpf, zpfc, zas, zasc, zmin, zmax, zcmp, zcz, zand_e, zor_e, zite_e, zbite_e, zif_e, znot_e, z_add, z_sub, z_mul, z_and, z_or, z_xor, z_shl, z_shr, zcpy, -List.getElem?_cons_succ, zg_0, zg_1, zg_2, zg_3, zg_4, zg_5, zg_6, zg_7, zg_8, zg_9, qM_isTable, zb_ne, e, elt, hy, aTn]
    · obtain ⟨i, hi, rfl⟩ := nI_of hy
      cases hb : tB (T t).1 (T t).2 with
      | false =>
        refine ⟨M, ?_, by simpa [sTn, oTn, okSq, ct, hb] using hR, by simpa [sTn, oTn, okSq, ct, hb] using hT, zlo.refl M⟩
        simp (disch := omega) [zf_M_turn, zmeth, xm_en, zret, zretz, zretv, zseq, zst, zinc, zkl, zskip, zk, zi, za, zbin, zdiv, zrem, zgi, zgr, zld, zldr, zlen, zn, zc, zcall, zcallv, zrcv, zdo, zdov, zpf, zpfc, zas, zasc, zmin, zmax, zcmp, zcz, zand_e, zor_e, zite_e, zbite_e, zif_e, znot_e, z_add, z_sub, z_mul, z_and, z_or, z_xor, z_shl, z_shr, zcpy, -List.getElem?_cons_succ, zg_0, zg_1, zg_2, zg_3, zg_4, zg_5, zg_6, zg_7, zg_8, zg_9, zt_0, zt_12, zt_20, zt_26, zt_32, zf_0_0, zf_0_1, zf_0_2, zf_0_3, zf_0_4, zf_12_0, zf_12_1, zf_12_2, zf_12_4, zf_12_5, zf_20_1, zf_20_2, zf_20_3, zf_20_4, zf_20_6, zf_26_0, zf_26_1, zf_26_2, zf_26_3, zf_32_0, zf_32_1, zf_32_3, zf_32_4, zf_32_5, zf_32_6, qM_isTable, zb_ne, e, elt, hy, aTn, okSq, ct, hb, qM_isFull h6 (hR t ht) h18.2]
      | true =>
        have hf := (tB_iff (hT t ht)).mp hb
        have hfi := qM_squares (x := nI i) ht (hR t ht) h18.1 h18.2 hf
        have ho : oTn T (nI t) (nI i) = hit (i : Int) 0 (sqs (T t).1 (T t).2) := by simp [oTn, e, hy, okSq, ct, hb, nI_toInt hi]
        cases hh : hit (i : Int) 0 (sqs (T t).1 (T t).2) with
        | none =>
          rw [hh] at ho
          have ea : aSq (T t).1 (T t).2 (nI i) = -4 := by
            unfold aSq
            rw [nI_toInt hi, hh]
            exact if_neg hy
          rw [ea] at hfi
          have e4 : decide ((-4 : Int32) < 0) = true := by decide
          refine ⟨M, ?_, by simpa [sTn, ho] using hR, by simpa [sTn, ho] using hT, zlo.refl M⟩
          simp (disch := omega) [zf_M_turn, zmeth, xm_en, zret, zretz, zretv, zseq, zst, zinc, zkl, zskip, zk, zi, za, zbin, zdiv, zrem, zgi, zgr, zld, zldr, zlen, zn, zc, zcall, zcallv, zrcv, zdo, zdov, zpf, zpfc, zas, zasc, zmin, zmax, zcmp, zcz, zand_e, zor_e, zite_e, zbite_e, zif_e, znot_e, z_add, z_sub, z_mul, z_and, z_or, z_xor, z_shl, z_shr, zcpy, -List.getElem?_cons_succ, zg_0, zg_1, zg_2, zg_3, zg_4, zg_5, zg_6, zg_7, zg_8, zg_9, zt_0, zt_12, zt_20, zt_26, zt_32, zf_0_0, zf_0_1, zf_0_2, zf_0_3, zf_0_4, zf_12_0, zf_12_1, zf_12_2, zf_12_4, zf_12_5, zf_20_1, zf_20_2, zf_20_3, zf_20_4, zf_20_6, zf_26_0, zf_26_1, zf_26_2, zf_26_3, zf_32_0, zf_32_1, zf_32_3, zf_32_4, zf_32_5, zf_32_6, qM_isTable, zb_ne, e, elt, hy, aTn, okSq, ct, hb, qM_isFull h6 (hR t ht) h18.2, hfi, e4, ho]
        | some v =>
          rw [hh] at ho
          have ea : aSq (T t).1 (T t).2 (nI i) = nI v := by
            unfold aSq
            rw [nI_toInt hi, hh]
          rw [ea] at hfi
          obtain ⟨a, f, b, d, h1, h2, h3, h4⟩ := sqs_mem (hit_mem hh)
          have hvlt : v < 5000 := by omega
          have ea2 : v / 512 = a := by omega
          have ee : v / 64 % 8 = f := by omega
          have eb : v / 8 % 8 = b := by omega
          have ed : v % 8 = d := by omega
          have e4 : ¬ nI v < 0 := nI_pos (by omega)
          have ha : a < (T t).1 := by omega
          have hf' : f < (T t).1 := by omega
          have hb' : b < (T t).1 := by omega
          have hd' : d < (T t).1 := by omega
          have m1 := qM_mul h6 (hR t ht) h8 hf ha hb'
          have m2 := qM_mul h6 (hR t ht) h8 hf ha hd'
          have es : sTn T (nI t) (nI i) = tset T t (T t).1 (tTn (T t).2 a f b d) := by simp only [sTn, ho, ct, tTv, ea2, ee, eb, ed]
          rw [es]
          refine ⟨zup (zup (zup (zup M 34 (64 * t + 8 * a + b) (nI ((T t).2 a d))) 34 (64 * t + 8 * a + d) (nI ((T t).2 a b))) 34 (64 * t + 8 * f + b) (nI ((T t).2 a b))) 34 (64 * t + 8 * f + d) (nI ((T t).2 a d)), ?_, ?_, TO_set hT (tO_tn (hT t ht) hf h1 h2 h4), fun k j hk => ?_⟩
          · simp (disch := omega) [zf_M_turn, zmeth, xm_en, zret, zretz, zretv, zseq, zst, zinc, zkl, zskip, zk, zi, za, zbin, zdiv, zrem, zgi, zgr, zld, zldr, zlen, zn, zc, zcall, zcallv, zrcv, zdo, zdov, zpf, zpfc, zas, zasc, zmin, zmax, zcmp, zcz, zand_e, zor_e, zite_e, zbite_e, zif_e, znot_e, z_add, z_sub, z_mul, z_and, z_or, z_xor, z_shl, z_shr, zcpy, -List.getElem?_cons_succ, zg_0, zg_1, zg_2, zg_3, zg_4, zg_5, zg_6, zg_7, zg_8, zg_9, zc_lt, zc_le, zc_gt, zc_ge, zc_eq, zc_ne, zc_lt0, zc_ge0, zc_gt0, zc_eq0, zc_ne0, zb_ne, zb_eq, zb_01, z_00, z_01, z_11, zb_f, zb_T, zb_F, zbm1, zbm2, zbm5, zbm6, zbm3, zbm4, nI_clamp, zmod_n, pk_div, nI_ne0, pk_mul, nI_add, nI_1, zt_0, zt_12, zt_20, zt_26, zt_32, zf_0_0, zf_0_1, zf_0_2, zf_0_3, zf_0_4, zf_12_0, zf_12_1, zf_12_2, zf_12_4, zf_12_5, zf_20_1, zf_20_2, zf_20_3, zf_20_4, zf_20_6, zf_26_0, zf_26_1, zf_26_2, zf_26_3, zf_32_0, zf_32_1, zf_32_3, zf_32_4, zf_32_5, zf_32_6, qM_isTable, e, elt, hy, e4, aTn, okSq, ct, hb, qM_isFull h6 (hR t ht) h18.2, hfi, ho, ea2, ee, eb, ed, m1, m2, qM_puts]
          · intro u hu
            unfold tset
            by_cases g : u = t
            · subst g
              simp only [if_true]
              refine ⟨by rw [zup_e, if_neg (by omega), zup_e, if_neg (by omega), zup_e, if_neg (by omega), zup_e, if_neg (by omega)]; exact (hR u hu).1, fun p q hp hq => ?_⟩
              have v1 : zcl (-4) ((T u).2 a d) = nI ((T u).2 a d) := zcl_lt (by have := hf a d ha hd'; omega)
              have v2 : zcl (-4) ((T u).2 a b) = nI ((T u).2 a b) := zcl_lt (by have := hf a b ha hb'; omega)
              unfold tTn
              rw [zup_e, zup_e, zup_e, zup_e]
              by_cases g1 : p = f ∧ q = d
              · rw [if_pos (by omega), if_pos (by omega), v1]
              · rw [if_neg (by omega)]
                by_cases g2 : p = f ∧ q = b
                · rw [if_pos (by omega), if_neg (by omega), if_pos (by omega), v2]
                · rw [if_neg (by omega)]
                  by_cases g3 : p = a ∧ q = d
                  · rw [if_pos (by omega), if_neg (by omega), if_pos (by omega), v2]
                  · rw [if_neg (by omega)]
                    by_cases g4 : p = a ∧ q = b
                    · rw [if_pos (by omega), if_pos (by omega), v1]
                    · rw [if_neg (by omega), if_neg (by omega), if_neg (by omega)]
                      exact (hR u hu).2 p q hp hq
            · rw [if_neg g]
              exact (hR u hu).same (hT u hu).1.2 (by rw [zup_e, if_neg (by omega), zup_e, if_neg (by omega), zup_e, if_neg (by omega), zup_e, if_neg (by omega)]) (fun j g1 g2 => by rw [zup_e, if_neg (by omega), zup_e, if_neg (by omega), zup_e, if_neg (by omega), zup_e, if_neg (by omega)])
          · rw [zup_e, if_neg (by omega), zup_e, if_neg (by omega), zup_e, if_neg (by omega), zup_e, if_neg (by omega)]
