/-! set -/
def tSt (n : Nat) (c : tC) (a b w : Nat) (k : Nat) : Bool := (!decide (k = b) && decide (c a k = w)) || (!decide (k = a) && decide (c k b = w))
theorem qM_stands {M : zM} {t n a b w : Nat} {c : tC} (ht : t < 6) (h : rT M t n c) (h8 : n ≤ 8) (ha : a < n) (hb : b < n) (hw : w < 8) : zf_M_stands [.ref 32, .int (nI t), .int (nI a), .int (nI b), .int (nI w)] M = some (some (zb (zany (tSt n c a b w) n)), M) := by
  have R := zwh_up (c := zc_M_stands_1) (s := zs_M_stands_1) (fun j => [some (Value.ref (32)), some (Value.int (nI t)), some (Value.int (nI a)), some (Value.int (nI b)), some (Value.int (nI w)), some (Value.int (zb (zany (tSt n c a b w) j))), some (Value.int (nI j))]) (fun _ => M) (n := n) n 0 (by omega) ?_ ?_ ?_
  · have e0 : zb (zany (tSt n c a b w) 0) = nI 0 := rfl
    rw [e0] at R
    simp (disch := omega) [zf_M_stands, zmeth, xm_en, zret, zretz, zretv, zseq, zst, zinc, zkl, zskip, zk, zi, za, zbin, zdiv, zrem, zgi, zgr, zld, zldr, zlen, zn, zc, zcall, zcallv, zrcv, zdo, zdov, zpf, zpfc, zas, zasc, zmin, zmax, zcmp, zcz, zand_e, zor_e, zite_e, zbite_e, zif_e, znot_e, z_add, z_sub, z_mul, z_and, z_or, z_xor, z_shl, z_shr, zcpy, -List.getElem?_cons_succ, zg_0, zg_1, zg_2, zg_3, zg_4, zg_5, zg_6, zg_7, zg_8, zg_9, R, zb_01]
  · intro j _ h2
    simp (disch := omega) [zc_M_stands_1, zmeth, xm_en, zret, zretz, zretv, zseq, zst, zinc, zkl, zskip, zk, zi, za, zbin, zdiv, zrem, zgi, zgr, zld, zldr, zlen, zn, zc, zcall, zcallv, zrcv, zdo, zdov, zpf, zpfc, zas, zasc, zmin, zmax, zcmp, zcz, zand_e, zor_e, zite_e, zbite_e, zif_e, znot_e, z_add, z_sub, z_mul, z_and, z_or, z_xor, z_shl, z_shr, zcpy, -List.getElem?_cons_succ, zg_0, zg_1, zg_2, zg_3, zg_4, zg_5, zg_6, zg_7, zg_8, zg_9, zc_lt, zc_le, zc_gt, zc_ge, zc_eq, zc_ne, zc_lt0, zc_ge0, zc_gt0, zc_eq0, zc_ne0, zb_ne, zb_eq, zb_01, z_00, z_01, z_11, zb_f, zb_T, zb_F, zbm1, zbm2, zbm5, zbm6, zbm3, zbm4, nI_clamp, zmod_n, pk_div, nI_ne0, pk_mul, nI_add, nI_1, zt_0, zt_12, zt_20, zt_26, zt_32, zf_0_0, zf_0_1, zf_0_2, zf_0_3, zf_0_4, zf_12_0, zf_12_1, zf_12_2, zf_12_4, zf_12_5, zf_20_1, zf_20_2, zf_20_3, zf_20_4, zf_20_6, zf_26_0, zf_26_1, zf_26_2, zf_26_3, zf_32_0, zf_32_1, zf_32_3, zf_32_4, zf_32_5, zf_32_6, zi_33, h.1, h2]
  · intro j _ h2
    have e : zany (tSt n c a b w) (j + 1) = (zany (tSt n c a b w) j || tSt n c a b w j) := rfl
    simp (disch := omega) [zs_M_stands_1, zmeth, xm_en, zret, zretz, zretv, zseq, zst, zinc, zkl, zskip, zk, zi, za, zbin, zdiv, zrem, zgi, zgr, zld, zldr, zlen, zn, zc, zcall, zcallv, zrcv, zdo, zdov, zpf, zpfc, zas, zasc, zmin, zmax, zcmp, zcz, zand_e, zor_e, zite_e, zbite_e, zif_e, znot_e, z_add, z_sub, z_mul, z_and, z_or, z_xor, z_shl, z_shr, zcpy, -List.getElem?_cons_succ, zg_0, zg_1, zg_2, zg_3, zg_4, zg_5, zg_6, zg_7, zg_8, zg_9, zc_lt, zc_le, zc_gt, zc_ge, zc_eq, zc_ne, zc_lt0, zc_ge0, zc_gt0, zc_eq0, zc_ne0, zb_ne, zb_eq, zb_01, z_00, z_01, z_11, zb_f, zb_T, zb_F, zbm1, zbm2, zbm5, zbm6, zbm3, zbm4, nI_clamp, zmod_n, pk_div, nI_ne0, pk_mul, nI_add, nI_1, zt_0, zt_12, zt_20, zt_26, zt_32, zf_0_0, zf_0_1, zf_0_2, zf_0_3, zf_0_4, zf_12_0, zf_12_1, zf_12_2, zf_12_4, zf_12_5, zf_20_1, zf_20_2, zf_20_3, zf_20_4, zf_20_6, zf_26_0, zf_26_1, zf_26_2, zf_26_3, zf_32_0, zf_32_1, zf_32_3, zf_32_4, zf_32_5, zf_32_6, qM_rcell ht h h8 ha h2, qM_rcell ht h h8 h2 hb, zcl_eq4 hw, e, tSt, Bool.or_assoc]
  · simp (disch := omega) [zc_M_stands_1, zmeth, xm_en, zret, zretz, zretv, zseq, zst, zinc, zkl, zskip, zk, zi, za, zbin, zdiv, zrem, zgi, zgr, zld, zldr, zlen, zn, zc, zcall, zcallv, zrcv, zdo, zdov, zpf, zpfc, zas, zasc, zmin, zmax, zcmp, zcz, zand_e, zor_e, zite_e, zbite_e, zif_e, znot_e, z_add, z_sub, z_mul, z_and, z_or, z_xor, z_shl, z_shr, zcpy, -List.getElem?_cons_succ, zg_0, zg_1, zg_2, zg_3, zg_4, zg_5, zg_6, zg_7, zg_8, zg_9, zc_lt, zc_le, zc_gt, zc_ge, zc_eq, zc_ne, zc_lt0, zc_ge0, zc_gt0, zc_eq0, zc_ne0, zb_ne, zb_eq, zb_01, z_00, z_01, z_11, zb_f, zb_T, zb_F, zbm1, zbm2, zbm5, zbm6, zbm3, zbm4, nI_clamp, zmod_n, pk_div, nI_ne0, pk_mul, nI_add, nI_1, zt_0, zt_12, zt_20, zt_26, zt_32, zf_0_0, zf_0_1, zf_0_2, zf_0_3, zf_0_4, zf_12_0, zf_12_1, zf_12_2, zf_12_4, zf_12_5, zf_20_1, zf_20_2, zf_20_3, zf_20_4, zf_20_6, zf_26_0, zf_26_1, zf_26_2, zf_26_3, zf_32_0, zf_32_1, zf_32_3, zf_32_4, zf_32_5, zf_32_6, zi_33, h.1]
def cset (c : tC) (a b v : Nat) : tC := fun x y => if x = a ∧ y = b then v else c x y
theorem kT_cset {M : zM} {k n a b v : Nat} {c : tC} (h8 : n ≤ 8) (ha : a < n) (hb : b < n) (h : kT M k n c) : kT (zup M (k + 1) (8 * a + b) (zcl (-1) v)) k n (cset c a b v) := by
  refine ⟨by rw [zup_e, if_neg (by omega)]; exact h.1, fun x y hx hy => ?_⟩
  rw [zup_e]
  unfold cset
  by_cases g : x = a ∧ y = b
  · rw [if_pos g, if_pos (by omega)]
  · rw [if_neg g, if_neg (by omega)]
    exact h.2 x y hx hy
theorem rT_cset {M : zM} {t n a b v : Nat} {c : tC} (h8 : n ≤ 8) (ha : a < n) (hb : b < n) (h : rT M t n c) : rT (zup M 34 (64 * t + 8 * a + b) (zcl (-4) v)) t n (cset c a b v) := by
  refine ⟨by rw [zup_e, if_neg (by omega)]; exact h.1, fun x y hx hy => ?_⟩
  rw [zup_e]
  unfold cset
  by_cases g : x = a ∧ y = b
  · rw [if_pos g, if_pos (by omega)]
  · rw [if_neg g, if_neg (by omega)]
    exact h.2 x y hx hy
theorem tO_cset {n a b v : Nat} {c : tC} (h : tO n c) (ha : 1 ≤ a ∧ a < n) (hb : 1 ≤ b ∧ b < n) (hv : v = 8 ∨ (v < n ∧ ∀ x, x < n → c a x ≠ v ∧ c x b ≠ v)) : tO n (cset c a b v) := by
  obtain ⟨h1, h2, h3, h4, h5⟩ := h
  refine ⟨h1, fun x hx => ?_, fun x y hx hy => ?_, fun x y z hx hy hz g1 g2 => ?_, fun x y z hx hy hz g1 g2 => ?_⟩
  · unfold cset
    rw [if_neg (by omega), if_neg (by omega)]
    exact h2 x hx
  · unfold cset
    split
    · rcases hv with g | g
      · exact Or.inr g
      · exact Or.inl g.1
    · exact h3 x y hx hy
  · unfold cset at g1 g2
    by_cases e1 : x = a ∧ y = b
    · rw [if_pos e1] at g1 g2
      by_cases e2 : x = a ∧ z = b
      · omega
      · rw [if_neg e2] at g1
        rcases hv with g | g
        · omega
        · exact absurd g1.symm (by rw [e1.1]; exact (g.2 z hz).1)
    · rw [if_neg e1] at g1 g2
      by_cases e2 : x = a ∧ z = b
      · rw [if_pos e2] at g1
        rcases hv with g | g
        · omega
        · exact absurd g1 (by rw [e2.1]; exact (g.2 y hy).1)
      · rw [if_neg e2] at g1
        exact h4 x y z hx hy hz g1 g2
  · unfold cset at g1 g2
    by_cases e1 : x = a ∧ z = b
    · rw [if_pos e1] at g1 g2
      by_cases e2 : y = a ∧ z = b
      · omega
      · rw [if_neg e2] at g1
        rcases hv with g | g
        · omega
        · exact absurd g1.symm (by rw [e1.2]; exact (g.2 y hy).2)
    · rw [if_neg e1] at g1 g2
      by_cases e2 : y = a ∧ z = b
      · rw [if_pos e2] at g1
        rcases hv with g | g
        · omega
        · exact absurd g1 (by rw [e2.2]; exact (g.2 x hx).2)
      · rw [if_neg e2] at g1
        exact h5 x y z hx hy hz g1 g2
/-- v stands in row a or column b -/
def tIn (n : Nat) (c : tC) (a b v : Nat) : Bool := decide (zidx (fun x => decide (c a x = v) || decide (c x b = v)) 0 n < n)
theorem tIn_iff {n a b v : Nat} {c : tC} : tIn n c a b v = true ↔ ∃ x, x < n ∧ (c a x = v ∨ c x b = v) := by
  unfold tIn
  rw [decide_eq_true_eq]
  constructor
  · intro h
    have := zidx_lt (p := fun x => decide (c a x = v) || decide (c x b = v)) n 0 (by omega)
    simp only [Bool.or_eq_true, decide_eq_true_eq] at this
    exact ⟨_, h, this⟩
  · rintro ⟨x, hx, h⟩
    rcases Nat.lt_or_ge (zidx (fun x => decide (c a x = v) || decide (c x b = v)) 0 n) n with g | g
    · exact g
    · have := zidx_no (p := fun x => decide (c a x = v) || decide (c x b = v)) n 0 x (by omega) (by omega)
      simp only [Bool.or_eq_false_iff, decide_eq_false_iff_not] at this
      rcases h with h | h
      · exact absurd h this.1
      · exact absurd h this.2
theorem tSt_in {n a b v : Nat} {c : tC} (h : tO n c) (ha : a < n) (hb : b < n) (hv : v < n) : zany (tSt n c a b v) n = (tIn n c a b v && !decide (c a b = v)) := by
  have h8 := h.1.2
  rw [Bool.eq_iff_iff, Bool.and_eq_true, zany_t, tIn_iff]
  simp only [tSt, Bool.or_eq_true, Bool.and_eq_true, Bool.not_eq_true', decide_eq_false_iff_not, decide_eq_true_eq]
  constructor
  · rintro ⟨i, hi, g | g⟩
    · refine ⟨⟨i, hi, Or.inl g.2⟩, fun e => g.1 ?_⟩
      exact h.2.2.2.1 a i b ha hi hb (g.2.trans e.symm) (by omega)
    · refine ⟨⟨i, hi, Or.inr g.2⟩, fun e => g.1 ?_⟩
      exact h.2.2.2.2 i a b hi ha hb (g.2.trans e.symm) (by omega)
  · rintro ⟨⟨i, hi, g | g⟩, e⟩
    · exact ⟨i, hi, Or.inl ⟨fun q => e (by rw [← q]; exact g), g⟩⟩
    · exact ⟨i, hi, Or.inr ⟨fun q => e (by rw [← q]; exact g), g⟩⟩
def okSet (T : tS) (x y z v : Int32) : Bool := zlt x 4 && ((!decide (y = nI 0) && zlt y (T x.toNatClampNeg).1) && ((!decide (z = nI 0) && zlt z (T x.toNatClampNeg).1) && (decide (v = -1) || zlt v (T x.toNatClampNeg).1)))
def sSet1 (T : tS) (t a b : Nat) (v : Int32) : tS := if v = -1 then tset T t (T t).1 (cset (T t).2 a b 8) else bif tIn (T t).1 (T t).2 a b v.toNatClampNeg then T else tset T t (T t).1 (cset (T t).2 a b v.toNatClampNeg)
def sSet (T : tS) (x y z v : Int32) : tS := bif okSet T x y z v then sSet1 T x.toNatClampNeg y.toNatClampNeg z.toNatClampNeg v else T
theorem ze0 (y : Int32) : xe_cd .eq y 0 = decide (y = nI 0) := by rw [nI_0]; rfl
theorem zem (v : Int32) : xe_cd .ne v (-1) = !decide (v = -1) := rfl
theorem zinm (x : Int32) {m : Nat} (hm : m < 2 ^ 30) : (xe_cd .ge x (-1) && xe_cd .le x (nI m)) = (decide (x = -1) || zlt x (m + 1)) := by
  rw [zlt_i x (by omega), Bool.eq_iff_iff]
  have e1 : (-1 : Int32).toInt = -1 := by decide
  simp only [xe_cd, Bool.and_eq_true, Bool.or_eq_true, decide_eq_true_eq, Int32.le_iff_toInt_le, nI_toInt (n := m) (by omega), e1, ← Int32.toInt_inj]
  omega
theorem CS_cset {T : tS} {M : zM} {t a b v : Nat} (hT : TO T) (ht : t < 4) (ha : a < (T t).1) (hb : b < (T t).1) (hC : CS T M) : CS (tset T t (T t).1 (cset (T t).2 a b v)) (zup M (2 + 2 * t + 1) (8 * a + b) (zcl (-1) v)) := by
  intro u hu
  unfold tset
  by_cases h : u = t
  · subst h
    simp only [if_true]
    exact kT_cset (hT u hu).1.2 ha hb (hC u hu)
  · rw [if_neg h]
    exact (hC u hu).same (fun j => by rw [zup_e, if_neg (by omega)]) (fun j => by rw [zup_e, if_neg (by omega)])
theorem RS_cset {T : tS} {M : zM} {t a b v : Nat} (hT : TO T) (ht : t < 4) (ha : a < (T t).1) (hb : b < (T t).1) (hR : RS T M) : RS (tset T t (T t).1 (cset (T t).2 a b v)) (zup M 34 (64 * t + 8 * a + b) (zcl (-4) v)) := by
  intro u hu
  have h8 := (hT t ht).1.2
  unfold tset
  by_cases h : u = t
  · subst h
    simp only [if_true]
    exact rT_cset h8 ha hb (hR u hu)
  · rw [if_neg h]
    exact (hR u hu).same (hT u hu).1.2 (by rw [zup_e, if_neg (by omega)]) (fun j g1 g2 => by rw [zup_e, if_neg (by omega)])
theorem qL_set {T : tS} {M : zM} (x y z v : Int32) (hC : CS T M) (hT : TO T) : ∃ r M', zf_L_set [.ref 0, .int x, .int y, .int z, .int v] M = some (some r, M') ∧ CS (sSet T x y z v) M' ∧ zhi M M' := by
  rcases z3 x (n := 4) (by decide) with h | ⟨t, ht, rfl⟩
  · refine ⟨-1, M, ?_, by simpa [sSet, okSet, h] using hC, zhi.refl M⟩
    simp [zf_L_set, zmeth, xm_en, zret, zretz, zretv, zseq, zst, zinc, zkl, zskip, zk, zi, za, zbin, zdiv, zrem, zgi, zgr, zld, zldr, zlen, zn, zc, zcall, zcallv, zrcv, zdo, zdov, zpf, zpfc, zas, zasc, zmin, zmax, zcmp, zcz, zand_e, zor_e, zite_e, zbite_e, zif_e, znot_e, z_add, z_sub, z_mul, z_and, z_or, z_xor, z_shl, z_shr, zcpy, -List.getElem?_cons_succ, zg_0, zg_1, zg_2, zg_3, zg_4, zg_5, zg_6, zg_7, zg_8, zg_9, qL_isTable, zb_ne, h]
  · have e := zlt_y ht (by decide)
    have h8 := (hT t ht).1.2
    have ct : (nI t).toNatClampNeg = t := nI_clamp (by omega)
    have bad : okSet T (nI t) y z v = false → CS (sSet T (nI t) y z v) M := fun h => by simpa [sSet, h] using hC
    cases hy : decide (y = nI 0) with
    | true =>
      refine ⟨-1, M, ?_, bad (by simp [okSet, hy]), zhi.refl M⟩
      simp [zf_L_set, zmeth, xm_en, zret, zretz, zretv, zseq, zst, zinc, zkl, zskip, zk, zi, za, zbin, zdiv, zrem, zgi, zgr, zld, zldr, zlen, zn, zc, zcall, zcallv, zrcv, zdo, zdov, zpf, zpfc, zas, zasc, zmin, zmax, zcmp, zcz, zand_e, zor_e, zite_e, zbite_e, zif_e, znot_e, z_add, z_sub, z_mul, z_and, z_or, z_xor, z_shl, z_shr, zcpy, -List.getElem?_cons_succ, zg_0, zg_1, zg_2, zg_3, zg_4, zg_5, zg_6, zg_7, zg_8, zg_9, qL_isTable, zb_ne, e, ze0, hy]
    | false =>
    cases hz : decide (z = nI 0) with
    | true =>
      refine ⟨-1, M, ?_, bad (by simp [okSet, hz]), zhi.refl M⟩
      simp [zf_L_set, zmeth, xm_en, zret, zretz, zretv, zseq, zst, zinc, zkl, zskip, zk, zi, za, zbin, zdiv, zrem, zgi, zgr, zld, zldr, zlen, zn, zc, zcall, zcallv, zrcv, zdo, zdov, zpf, zpfc, zas, zasc, zmin, zmax, zcmp, zcz, zand_e, zor_e, zite_e, zbite_e, zif_e, znot_e, z_add, z_sub, z_mul, z_and, z_or, z_xor, z_shl, z_shr, zcpy, -List.getElem?_cons_succ, zg_0, zg_1, zg_2, zg_3, zg_4, zg_5, zg_6, zg_7, zg_8, zg_9, qL_isTable, zb_ne, e, ze0, hy, hz]
    | false =>
    rcases z3 y (n := (T t).1) (by omega) with h1 | ⟨a, ha, rfl⟩
    · refine ⟨-1, M, ?_, bad (by simp [okSet, ct, h1]), zhi.refl M⟩
      simp [zf_L_set, zmeth, xm_en, zret, zretz, zretv, zseq, zst, zinc, zkl, zskip, zk, zi, za, zbin, zdiv, zrem, zgi, zgr, zld, zldr, zlen, zn, zc, zcall, zcallv, zrcv, zdo, zdov, zpf, zpfc, zas, zasc, zmin, zmax, zcmp, zcz, zand_e, zor_e, zite_e, zbite_e, zif_e, znot_e, z_add, z_sub, z_mul, z_and, z_or, z_xor, z_shl, z_shr, zcpy, -List.getElem?_cons_succ, zg_0, zg_1, zg_2, zg_3, zg_4, zg_5, zg_6, zg_7, zg_8, zg_9, zt_0, zt_12, zt_20, zt_26, zt_32, zf_0_0, zf_0_1, zf_0_2, zf_0_3, zf_0_4, zf_12_0, zf_12_1, zf_12_2, zf_12_4, zf_12_5, zf_20_1, zf_20_2, zf_20_3, zf_20_4, zf_20_6, zf_26_0, zf_26_1, zf_26_2, zf_26_3, zf_32_0, zf_32_1, zf_32_3, zf_32_4, zf_32_5, zf_32_6, qL_isTable, zb_ne, e, ze0, hy, hz, qL_isElement hC ht, h1]
    · have e1 := zlt_y ha (by omega)
      rcases z3 z (n := (T t).1) (by omega) with h2 | ⟨b, hb, rfl⟩
      · refine ⟨-1, M, ?_, bad (by simp [okSet, ct, h2]), zhi.refl M⟩
        simp [zf_L_set, zmeth, xm_en, zret, zretz, zretv, zseq, zst, zinc, zkl, zskip, zk, zi, za, zbin, zdiv, zrem, zgi, zgr, zld, zldr, zlen, zn, zc, zcall, zcallv, zrcv, zdo, zdov, zpf, zpfc, zas, zasc, zmin, zmax, zcmp, zcz, zand_e, zor_e, zite_e, zbite_e, zif_e, znot_e, z_add, z_sub, z_mul, z_and, z_or, z_xor, z_shl, z_shr, zcpy, -List.getElem?_cons_succ, zg_0, zg_1, zg_2, zg_3, zg_4, zg_5, zg_6, zg_7, zg_8, zg_9, zt_0, zt_12, zt_20, zt_26, zt_32, zf_0_0, zf_0_1, zf_0_2, zf_0_3, zf_0_4, zf_12_0, zf_12_1, zf_12_2, zf_12_4, zf_12_5, zf_20_1, zf_20_2, zf_20_3, zf_20_4, zf_20_6, zf_26_0, zf_26_1, zf_26_2, zf_26_3, zf_32_0, zf_32_1, zf_32_3, zf_32_4, zf_32_5, zf_32_6, qL_isTable, zb_ne, e, ze0, hy, hz, qL_isElement hC ht, e1, h2]
      · have e2 := zlt_y hb (by omega)
        have ca : (nI a).toNatClampNeg = a := nI_clamp (by omega)
        have cb : (nI b).toNatClampNeg = b := nI_clamp (by omega)
        have hn := (hC t ht).1
        cases hv : decide (v = -1) with
        | true =>
          have hv1 : v = -1 := by simpa using hv
          have hok : okSet T (nI t) (nI a) (nI b) v = true := by simp [okSet, ct, e, e1, e2, hy, hz, hv]
          refine ⟨zcl (-4) ((T t).2 a b), zup M (2 + 2 * t + 1) (8 * a + b) (zcl (-1) 8), ?_, ?_, fun k j hk => by rw [zup_e, if_neg (by omega)]⟩
          · have ez : zcl (-1) 8 = v := by rw [hv1]; rfl
            rw [ez]
            simp (disch := omega) [zf_L_set, zmeth, xm_en, zret, zretz, zretv, zseq, zst, zinc, zkl, zskip, zk, zi, za, zbin, zdiv, zrem, zgi, zgr, zld, zldr, zlen, zn, zc, zcall, zcallv, zrcv, zdo, zdov, zpf, zpfc, zas, zasc, zmin, zmax, zcmp, zcz, zand_e, zor_e, zite_e, zbite_e, zif_e, znot_e, z_add, z_sub, z_mul, z_and, z_or, z_xor, z_shl, z_shr, zcpy, -List.getElem?_cons_succ, zg_0, zg_1, zg_2, zg_3, zg_4, zg_5, zg_6, zg_7, zg_8, zg_9, zt_0, zt_12, zt_20, zt_26, zt_32, zf_0_0, zf_0_1, zf_0_2, zf_0_3, zf_0_4, zf_12_0, zf_12_1, zf_12_2, zf_12_4, zf_12_5, zf_20_1, zf_20_2, zf_20_3, zf_20_4, zf_20_6, zf_26_0, zf_26_1, zf_26_2, zf_26_3, zf_32_0, zf_32_1, zf_32_3, zf_32_4, zf_32_5, zf_32_6, qL_isTable, zb_ne, e, ze0, zem, hy, hz, qL_isElement hC ht, e1, e2, hv, zi_1, zf_1, nI_clamp, ztb_tag (tb4 ht), qT_cell (tb4 ht) (hC t ht) h8 ha hb, qT_put (tb4 ht) hn h8 ha hb, qL_orNone]
          · simp only [sSet, hok, cond_true, ct, ca, cb, sSet1, if_pos hv1]
            exact CS_cset hT ht ha hb hC
        | false =>
          have hv1 : ¬ v = -1 := by simpa using hv
          rcases z3 v (n := (T t).1) (by omega) with h3 | ⟨w, hw, rfl⟩
          · refine ⟨-1, M, ?_, bad (by simp [okSet, ct, h3, hv]), zhi.refl M⟩
            simp [zf_L_set, zmeth, xm_en, zret, zretz, zretv, zseq, zst, zinc, zkl, zskip, zk, zi, za, zbin, zdiv, zrem, zgi, zgr, zld, zldr, zlen, zn, zc, zcall, zcallv, zrcv, zdo, zdov, zpf, zpfc, zas, zasc, zmin, zmax, zcmp, zcz, zand_e, zor_e, zite_e, zbite_e, zif_e, znot_e, z_add, z_sub, z_mul, z_and, z_or, z_xor, z_shl, z_shr, zcpy, -List.getElem?_cons_succ, zg_0, zg_1, zg_2, zg_3, zg_4, zg_5, zg_6, zg_7, zg_8, zg_9, zt_0, zt_12, zt_20, zt_26, zt_32, zf_0_0, zf_0_1, zf_0_2, zf_0_3, zf_0_4, zf_12_0, zf_12_1, zf_12_2, zf_12_4, zf_12_5, zf_20_1, zf_20_2, zf_20_3, zf_20_4, zf_20_6, zf_26_0, zf_26_1, zf_26_2, zf_26_3, zf_32_0, zf_32_1, zf_32_3, zf_32_4, zf_32_5, zf_32_6, qL_isTable, zb_ne, e, ze0, zem, hy, hz, qL_isElement hC ht, e1, e2, h3, hv]
          · have e3 := zlt_y hw (by omega)
            have cw : (nI w).toNatClampNeg = w := nI_clamp (by omega)
            have hok : okSet T (nI t) (nI a) (nI b) (nI w) = true := by simp [okSet, ct, e, e1, e2, e3, hy, hz]
            cases hin : tIn (T t).1 (T t).2 a b w with
            | true =>
              refine ⟨-2, M, ?_, ?_, zhi.refl M⟩
              · have hin2 := hin
                unfold tIn at hin2
                simp (disch := omega) [zf_L_set, zmeth, xm_en, zret, zretz, zretv, zseq, zst, zinc, zkl, zskip, zk, zi, za, zbin, zdiv, zrem, zgi, zgr, zld, zldr, zlen, zn, zc, zcall, zcallv, zrcv, zdo, zdov, zpf, zpfc, zas, zasc, zmin, zmax, zcmp, zcz, zand_e, zor_e, zite_e, zbite_e, zif_e, znot_e, z_add, z_sub, z_mul, z_and, z_or, z_xor, z_shl, z_shr, zcpy, -List.getElem?_cons_succ, zg_0, zg_1, zg_2, zg_3, zg_4, zg_5, zg_6, zg_7, zg_8, zg_9, zt_0, zt_12, zt_20, zt_26, zt_32, zf_0_0, zf_0_1, zf_0_2, zf_0_3, zf_0_4, zf_12_0, zf_12_1, zf_12_2, zf_12_4, zf_12_5, zf_20_1, zf_20_2, zf_20_3, zf_20_4, zf_20_6, zf_26_0, zf_26_1, zf_26_2, zf_26_3, zf_32_0, zf_32_1, zf_32_3, zf_32_4, zf_32_5, zf_32_6, qL_isTable, zb_ne, e, ze0, zem, hy, hz, qL_isElement hC ht, e1, e2, e3, hv, zi_1, zf_1, nI_clamp, ztb_tag (tb4 ht), qT_hasInLines (tb4 ht) (hC t ht) h8 ha hb (show w < 8 by omega), hin2]
              · simp only [sSet, hok, cond_true, ct, ca, cb, cw, sSet1, if_neg hv1, hin]
                exact hC
            | false =>
              refine ⟨zcl (-4) ((T t).2 a b), zup M (2 + 2 * t + 1) (8 * a + b) (zcl (-1) w), ?_, ?_, fun k j hk => by rw [zup_e, if_neg (by omega)]⟩
              · have hin2 := hin
                unfold tIn at hin2
                rw [zcl_lt (show w < 8 by omega)]
                simp (disch := omega) [zf_L_set, zmeth, xm_en, zret, zretz, zretv, zseq, zst, zinc, zkl, zskip, zk, zi, za, zbin, zdiv, zrem, zgi, zgr, zld, zldr, zlen, zn, zc, zcall, zcallv, zrcv, zdo, zdov, zpf, zpfc, zas, zasc, zmin, zmax, zcmp, zcz, zand_e, zor_e, zite_e, zbite_e, zif_e, znot_e, z_add, z_sub, z_mul, z_and, z_or, z_xor, z_shl, z_shr, zcpy, -List.getElem?_cons_succ, zg_0, zg_1, zg_2, zg_3, zg_4, zg_5, zg_6, zg_7, zg_8, zg_9, zt_0, zt_12, zt_20, zt_26, zt_32, zf_0_0, zf_0_1, zf_0_2, zf_0_3, zf_0_4, zf_12_0, zf_12_1, zf_12_2, zf_12_4, zf_12_5, zf_20_1, zf_20_2, zf_20_3, zf_20_4, zf_20_6, zf_26_0, zf_26_1, zf_26_2, zf_26_3, zf_32_0, zf_32_1, zf_32_3, zf_32_4, zf_32_5, zf_32_6, qL_isTable, zb_ne, e, ze0, zem, hy, hz, qL_isElement hC ht, e1, e2, e3, hv, zi_1, zf_1, nI_clamp, ztb_tag (tb4 ht), qT_hasInLines (tb4 ht) (hC t ht) h8 ha hb (show w < 8 by omega), hin2, qT_cell (tb4 ht) (hC t ht) h8 ha hb, qT_put (tb4 ht) hn h8 ha hb, qL_orNone]
              · simp only [sSet, hok, cond_true, ct, ca, cb, cw, sSet1, if_neg hv1, hin, cond_false]
                exact CS_cset hT ht ha hb hC
theorem zup_id {M : zM} {k j : Nat} {x : Int32} (h : M k j = x) : zup M k j x = M := by
  funext q i
  rw [zup_e]
  split
  · rename_i g
    rw [g.1, g.2, h]
  · rfl
theorem qM_set {T : tS} {M : zM} (x y z v : Int32) (hR : RS T M) (hT : TO T) : ∃ r M', zf_M_set [.ref 32, .int x, .int y, .int z, .int v] M = some (some r, M') ∧ RS (sSet T x y z v) M' ∧ TO (sSet T x y z v) ∧ zlo M M' := by
  rcases z3 x (n := 4) (by decide) with h | ⟨t, ht, rfl⟩
  · refine ⟨-1, M, ?_, by simpa [sSet, okSet, h] using hR, by simpa [sSet, okSet, h] using hT, zlo.refl M⟩
    simp [zf_M_set, zmeth, xm_en, zret, zretz, zretv, zseq, zst, zinc, zkl, zskip, zk, zi, za, zbin, zdiv, zrem, zgi, zgr, zld, zldr, zlen, zn, zc, zcall, zcallv, zrcv, zdo, zdov, zpf, zpfc, zas, zasc, zmin, zmax, zcmp, zcz, zand_e, zor_e, zite_e, zbite_e, zif_e, znot_e, z_add, z_sub, z_mul, z_and, z_or, z_xor, z_shl, z_shr, zcpy, -List.getElem?_cons_succ, zg_0, zg_1, zg_2, zg_3, zg_4, zg_5, zg_6, zg_7, zg_8, zg_9, qM_isTable, zb_ne, h]
  · have e := zlt_y ht (by decide)
    have h8 := (hT t ht).1.2
    have h18 := (hT t ht).1.1
    have en : (T t).1 - 1 + 1 = (T t).1 := by omega
    have hsz := (hR t ht).1
    have ct : (nI t).toNatClampNeg = t := nI_clamp (by omega)
    have bad : okSet T (nI t) y z v = false → RS (sSet T (nI t) y z v) M ∧ TO (sSet T (nI t) y z v) ∧ zlo M M := fun h => ⟨by simpa [sSet, h] using hR, by simpa [sSet, h] using hT, zlo.refl M⟩
    have b1 : ∀ q : Int32, zf_M_in [.int q, .int (nI 1), .int (nI ((T t).1 - 1))] M = some (some (zb (zlt q (T t).1 && !decide (q = nI 0))), M) := fun q => by rw [qM_in, zin1 q (by omega), en]
    have b2 : ∀ q : Int32, zf_M_in [.int q, .int (-1), .int (nI ((T t).1 - 1))] M = some (some (zb (decide (q = -1) || zlt q (T t).1)), M) := fun q => by rw [qM_in, zinm q (by omega), en]
    cases hok : okSet T (nI t) y z v with
    | false =>
      refine ⟨-1, M, ?_, bad hok⟩
      unfold okSet at hok
      rw [e, ct, Bool.true_and] at hok
      cases p1 : zlt y (T t).1 && !decide (y = nI 0) with
      | false => simp (disch := omega) [zf_M_set, zmeth, xm_en, zret, zretz, zretv, zseq, zst, zinc, zkl, zskip, zk, zi, za, zbin, zdiv, zrem, zgi, zgr, zld, zldr, zlen, zn, zc, zcall, zcallv, zrcv, zdo, zdov, zpf, zpfc, zas, zasc, zmin, zmax, zcmp, zcz, zand_e, zor_e, zite_e, zbite_e, zif_e, znot_e, z_add, z_sub, z_mul, z_and, z_or, z_xor, z_shl, z_shr, zcpy, -List.getElem?_cons_succ, zg_0, zg_1, zg_2, zg_3, zg_4, zg_5, zg_6, zg_7, zg_8, zg_9, zt_0, zt_12, zt_20, zt_26, zt_32, zf_0_0, zf_0_1, zf_0_2, zf_0_3, zf_0_4, zf_12_0, zf_12_1, zf_12_2, zf_12_4, zf_12_5, zf_20_1, zf_20_2, zf_20_3, zf_20_4, zf_20_6, zf_26_0, zf_26_1, zf_26_2, zf_26_3, zf_32_0, zf_32_1, zf_32_3, zf_32_4, zf_32_5, zf_32_6, qM_isTable, zb_ne, e, zi_33, nI_clamp, hsz, nI_m1, b1, b2, p1]
      | true =>
        cases p2 : zlt z (T t).1 && !decide (z = nI 0) with
        | false => simp (disch := omega) [zf_M_set, zmeth, xm_en, zret, zretz, zretv, zseq, zst, zinc, zkl, zskip, zk, zi, za, zbin, zdiv, zrem, zgi, zgr, zld, zldr, zlen, zn, zc, zcall, zcallv, zrcv, zdo, zdov, zpf, zpfc, zas, zasc, zmin, zmax, zcmp, zcz, zand_e, zor_e, zite_e, zbite_e, zif_e, znot_e, z_add, z_sub, z_mul, z_and, z_or, z_xor, z_shl, z_shr, zcpy, -List.getElem?_cons_succ, zg_0, zg_1, zg_2, zg_3, zg_4, zg_5, zg_6, zg_7, zg_8, zg_9, zt_0, zt_12, zt_20, zt_26, zt_32, zf_0_0, zf_0_1, zf_0_2, zf_0_3, zf_0_4, zf_12_0, zf_12_1, zf_12_2, zf_12_4, zf_12_5, zf_20_1, zf_20_2, zf_20_3, zf_20_4, zf_20_6, zf_26_0, zf_26_1, zf_26_2, zf_26_3, zf_32_0, zf_32_1, zf_32_3, zf_32_4, zf_32_5, zf_32_6, qM_isTable, zb_ne, e, zi_33, nI_clamp, hsz, nI_m1, b1, b2, p1, p2]
        | true =>
          have p3 : (decide (v = -1) || zlt v (T t).1) = false := by
            rw [Bool.and_comm (!decide (y = nI 0)), p1, Bool.and_comm (!decide (z = nI 0)), p2] at hok
            simpa using hok
          simp (disch := omega) [zf_M_set, zmeth, xm_en, zret, zretz, zretv, zseq, zst, zinc, zkl, zskip, zk, zi, za, zbin, zdiv, zrem, zgi, zgr, zld, zldr, zlen, zn, zc, zcall, zcallv, zrcv, zdo, zdov, zpf, zpfc, zas, zasc, zmin, zmax, zcmp, zcz, zand_e, zor_e, zite_e, zbite_e, zif_e, znot_e, z_add, z_sub, z_mul, z_and, z_or, z_xor, z_shl, z_shr, zcpy, -List.getElem?_cons_succ, zg_0, zg_1, zg_2, zg_3, zg_4, zg_5, zg_6, zg_7, zg_8, zg_9, zt_0, zt_12, zt_20, zt_26, zt_32, zf_0_0, zf_0_1, zf_0_2, zf_0_3, zf_0_4, zf_12_0, zf_12_1, zf_12_2, zf_12_4, zf_12_5, zf_20_1, zf_20_2, zf_20_3, zf_20_4, zf_20_6, zf_26_0, zf_26_1, zf_26_2, zf_26_3, zf_32_0, zf_32_1, zf_32_3, zf_32_4, zf_32_5, zf_32_6, qM_isTable, zb_ne, e, zi_33, nI_clamp, hsz, nI_m1, b1, b2, p1, p2, p3]
    | true =>
      have hok0 := hok
      unfold okSet at hok
      rw [e, ct, Bool.true_and] at hok
      simp only [Bool.and_eq_true] at hok
      obtain ⟨⟨g1, g2⟩, ⟨g3, g4⟩, g5⟩ := hok
      obtain ⟨a, ha, rfl⟩ := zlt_t (by omega) g2
      obtain ⟨b, hb, rfl⟩ := zlt_t (by omega) g4
      have ca : (nI a).toNatClampNeg = a := nI_clamp (by omega)
      have cb : (nI b).toNatClampNeg = b := nI_clamp (by omega)
      have ha1 : 1 ≤ a := by
        rcases Nat.eq_zero_or_pos a with q | q
        · rw [q] at g1; simp at g1
        · exact q
      have hb1 : 1 ≤ b := by
        rcases Nat.eq_zero_or_pos b with q | q
        · rw [q] at g3; simp at g3
        · exact q
      cases hv : decide (v = -1) with
      | true =>
        have hv1 : v = -1 := by simpa using hv
        subst hv1
        have es : sSet T (nI t) (nI a) (nI b) (-1) = tset T t (T t).1 (cset (T t).2 a b 8) := by simp only [sSet, hok0, cond_true, ct, ca, cb, sSet1, if_true]
        rw [es]
        refine ⟨zcl (-4) ((T t).2 a b), zup M 34 (64 * t + 8 * a + b) (zcl (-4) 8), ?_, RS_cset hT ht ha hb hR, TO_set hT (tO_cset (hT t ht) ⟨ha1, ha⟩ ⟨hb1, hb⟩ (Or.inl rfl)), fun k j hk => by rw [zup_e, if_neg (by omega)]⟩
        have ez : zcl (-4) 8 = -4 := rfl
        have em : xe_cd .ge (-1) 0 = false := by decide
        have em2 : xe_cd .lt (-1) 0 = true := by decide
        rw [ez]
        simp (disch := omega) [zf_M_set, zmeth, xm_en, zret, zretz, zretv, zseq, zst, zinc, zkl, zskip, zk, zi, za, zbin, zdiv, zrem, zgi, zgr, zld, zldr, zlen, zn, zc, zcall, zcallv, zrcv, zdo, zdov, zpf, zpfc, zas, zasc, zmin, zmax, zcmp, zcz, zand_e, zor_e, zite_e, zbite_e, zif_e, znot_e, z_add, z_sub, z_mul, z_and, z_or, z_xor, z_shl, z_shr, zcpy, -List.getElem?_cons_succ, zg_0, zg_1, zg_2, zg_3, zg_4, zg_5, zg_6, zg_7, zg_8, zg_9, zt_0, zt_12, zt_20, zt_26, zt_32, zf_0_0, zf_0_1, zf_0_2, zf_0_3, zf_0_4, zf_12_0, zf_12_1, zf_12_2, zf_12_4, zf_12_5, zf_20_1, zf_20_2, zf_20_3, zf_20_4, zf_20_6, zf_26_0, zf_26_1, zf_26_2, zf_26_3, zf_32_0, zf_32_1, zf_32_3, zf_32_4, zf_32_5, zf_32_6, qM_isTable, zb_ne, e, zi_33, nI_clamp, hsz, nI_m1, b1, b2, g1, g2, g3, g4, em, em2, qM_rcell (show t < 6 by omega) (hR t ht) h8 ha hb, qM_puts]
      | false =>
        have hv1 : ¬ v = -1 := by simpa using hv
        rw [hv, Bool.false_or] at g5
        obtain ⟨w, hw, rfl⟩ := zlt_t (by omega) g5
        have cw : (nI w).toNatClampNeg = w := nI_clamp (by omega)
        have hst := qM_stands (M := M) (w := w) (show t < 6 by omega) (hR t ht) h8 ha hb (by omega)
        rw [tSt_in (hT t ht) ha hb hw] at hst
        cases hin : tIn (T t).1 (T t).2 a b w with
        | true =>
          have es : sSet T (nI t) (nI a) (nI b) (nI w) = T := by simp only [sSet, hok0, cond_true, ct, ca, cb, cw, sSet1, if_neg hv1, hin]
          rw [es]
          by_cases hc : (T t).2 a b = w
          · refine ⟨nI w, M, ?_, hR, hT, zlo.refl M⟩
            have hce := (hR t ht).2 a b ha hb
            rw [hc, zcl_lt (show w < 8 by omega)] at hce
            have hz := zup_id hce
            have hr := qM_rcell (M := M) (show t < 6 by omega) (hR t ht) h8 ha hb
            rw [hc, zcl_lt (show w < 8 by omega)] at hr
            simp (disch := omega) [zf_M_set, zmeth, xm_en, zret, zretz, zretv, zseq, zst, zinc, zkl, zskip, zk, zi, za, zbin, zdiv, zrem, zgi, zgr, zld, zldr, zlen, zn, zc, zcall, zcallv, zrcv, zdo, zdov, zpf, zpfc, zas, zasc, zmin, zmax, zcmp, zcz, zand_e, zor_e, zite_e, zbite_e, zif_e, znot_e, z_add, z_sub, z_mul, z_and, z_or, z_xor, z_shl, z_shr, zcpy, -List.getElem?_cons_succ, zg_0, zg_1, zg_2, zg_3, zg_4, zg_5, zg_6, zg_7, zg_8, zg_9, zt_0, zt_12, zt_20, zt_26, zt_32, zf_0_0, zf_0_1, zf_0_2, zf_0_3, zf_0_4, zf_12_0, zf_12_1, zf_12_2, zf_12_4, zf_12_5, zf_20_1, zf_20_2, zf_20_3, zf_20_4, zf_20_6, zf_26_0, zf_26_1, zf_26_2, zf_26_3, zf_32_0, zf_32_1, zf_32_3, zf_32_4, zf_32_5, zf_32_6, qM_isTable, zb_ne, e, zi_33, nI_clamp, hsz, nI_m1, b1, b2, g1, g2, g3, g4, g5, hst, hin, hc, zc_ge0, zc_lt0, hr, qM_puts, hz]
          · refine ⟨-2, M, ?_, hR, hT, zlo.refl M⟩
            simp (disch := omega) [zf_M_set, zmeth, xm_en, zret, zretz, zretv, zseq, zst, zinc, zkl, zskip, zk, zi, za, zbin, zdiv, zrem, zgi, zgr, zld, zldr, zlen, zn, zc, zcall, zcallv, zrcv, zdo, zdov, zpf, zpfc, zas, zasc, zmin, zmax, zcmp, zcz, zand_e, zor_e, zite_e, zbite_e, zif_e, znot_e, z_add, z_sub, z_mul, z_and, z_or, z_xor, z_shl, z_shr, zcpy, -List.getElem?_cons_succ, zg_0, zg_1, zg_2, zg_3, zg_4, zg_5, zg_6, zg_7, zg_8, zg_9, zt_0, zt_12, zt_20, zt_26, zt_32, zf_0_0, zf_0_1, zf_0_2, zf_0_3, zf_0_4, zf_12_0, zf_12_1, zf_12_2, zf_12_4, zf_12_5, zf_20_1, zf_20_2, zf_20_3, zf_20_4, zf_20_6, zf_26_0, zf_26_1, zf_26_2, zf_26_3, zf_32_0, zf_32_1, zf_32_3, zf_32_4, zf_32_5, zf_32_6, qM_isTable, zb_ne, e, zi_33, nI_clamp, hsz, nI_m1, b1, b2, g1, g2, g3, g4, g5, hst, hin, hc, zc_ge0]
        | false =>
          have es : sSet T (nI t) (nI a) (nI b) (nI w) = tset T t (T t).1 (cset (T t).2 a b w) := by simp only [sSet, hok0, cond_true, ct, ca, cb, cw, sSet1, if_neg hv1, hin, cond_false]
          rw [es]
          have hni : ∀ x, x < (T t).1 → (T t).2 a x ≠ w ∧ (T t).2 x b ≠ w := fun x hx => by
            have : ¬ ∃ x, x < (T t).1 ∧ ((T t).2 a x = w ∨ (T t).2 x b = w) := fun q => by
              rw [tIn_iff.mpr q] at hin
              cases hin
            exact ⟨fun q => this ⟨x, hx, Or.inl q⟩, fun q => this ⟨x, hx, Or.inr q⟩⟩
          refine ⟨zcl (-4) ((T t).2 a b), zup M 34 (64 * t + 8 * a + b) (zcl (-4) w), ?_, RS_cset hT ht ha hb hR, TO_set hT (tO_cset (hT t ht) ⟨ha1, ha⟩ ⟨hb1, hb⟩ (Or.inr ⟨hw, hni⟩)), fun k j hk => by rw [zup_e, if_neg (by omega)]⟩
          rw [zcl_lt (show w < 8 by omega)]
          simp (disch := omega) [zf_M_set, zmeth, xm_en, zret, zretz, zretv, zseq, zst, zinc, zkl, zskip, zk, zi, za, zbin, zdiv, zrem, zgi, zgr, zld, zldr, zlen, zn, zc, zcall, zcallv, zrcv, zdo, zdov, zpf, zpfc, zas, zasc, zmin, zmax, zcmp, zcz, zand_e, zor_e, zite_e, zbite_e, zif_e, znot_e, z_add, z_sub, z_mul, z_and, z_or, z_xor, z_shl, z_shr, zcpy, -List.getElem?_cons_succ, zg_0, zg_1, zg_2, zg_3, zg_4, zg_5, zg_6, zg_7, zg_8, zg_9, zt_0, zt_12, zt_20, zt_26, zt_32, zf_0_0, zf_0_1, zf_0_2, zf_0_3, zf_0_4, zf_12_0, zf_12_1, zf_12_2, zf_12_4, zf_12_5, zf_20_1, zf_20_2, zf_20_3, zf_20_4, zf_20_6, zf_26_0, zf_26_1, zf_26_2, zf_26_3, zf_32_0, zf_32_1, zf_32_3, zf_32_4, zf_32_5, zf_32_6, qM_isTable, zb_ne, e, zi_33, nI_clamp, hsz, nI_m1, b1, b2, g1, g2, g3, g4, g5, hst, hin, zc_ge0, zc_lt0, qM_rcell (show t < 6 by omega) (hR t ht) h8 ha hb, qM_puts]
