/-! THE STATE of both sides, and the small methods that look at arguments -/
abbrev tS : Type := Nat → Nat × tC
def CS (T : tS) (M : zM) : Prop := ∀ t, t < 4 → kT M (2 + 2 * t) (T t).1 (T t).2
def RS (T : tS) (M : zM) : Prop := ∀ t, t < 4 → rT M t (T t).1 (T t).2
def TO (T : tS) : Prop := ∀ t, t < 4 → tO (T t).1 (T t).2
def zlo (M M' : zM) : Prop := ∀ k j, k < 32 → M' k j = M k j
def zhi (M M' : zM) : Prop := ∀ k j, 32 ≤ k → M' k j = M k j
/-- only the class's scratch has changed -/
def zsc (M M' : zM) : Prop := ∀ k j, k < 10 ∨ 32 ≤ k → M' k j = M k j
/-- only the reference's scratch has changed -/
def zsr (M M' : zM) : Prop := ∀ k j, k < 32 ∨ (k = 33 ∧ j < 4) ∨ (k = 34 ∧ j < 256) → M' k j = M k j
def tset (T : tS) (s n : Nat) (c : tC) : tS := fun t => if t = s then (n, c) else T t
theorem zsc.refl (M : zM) : zsc M M := fun _ _ _ => rfl
theorem zsr.refl (M : zM) : zsr M M := fun _ _ _ => rfl
theorem zsc.trans {M M1 M2 : zM} (h : zsc M M1) (h2 : zsc M1 M2) : zsc M M2 := fun k j q => (h2 k j q).trans (h k j q)
theorem zsr.trans {M M1 M2 : zM} (h : zsr M M1) (h2 : zsr M1 M2) : zsr M M2 := fun k j q => (h2 k j q).trans (h k j q)
theorem zsc.hi {M M' : zM} (h : zsc M M') : zhi M M' := fun k j q => h k j (Or.inr q)
theorem zsr.lo {M M' : zM} (h : zsr M M') : zlo M M' := fun k j q => h k j (Or.inl q)
theorem zhi.trans {M M1 M2 : zM} (h : zhi M M1) (h2 : zhi M1 M2) : zhi M M2 := fun k j q => (h2 k j q).trans (h k j q)
theorem zlo.trans {M M1 M2 : zM} (h : zlo M M1) (h2 : zlo M1 M2) : zlo M M2 := fun k j q => (h2 k j q).trans (h k j q)
theorem zhi.refl (M : zM) : zhi M M := fun _ _ _ => rfl
theorem zlo.refl (M : zM) : zlo M M := fun _ _ _ => rfl
theorem kT.same {M M' : zM} {k n : Nat} {c : tC} (h : kT M k n c) (h1 : ∀ j, M' k j = M k j) (h2 : ∀ j, M' (k + 1) j = M (k + 1) j) : kT M' k n c := ⟨(h1 0).trans h.1, fun a b ha hb => (h2 _).trans (h.2 a b ha hb)⟩
theorem CS.sc {T : tS} {M M' : zM} (h : CS T M) (h2 : zsc M M') : CS T M' := fun t ht => (h t ht).same (fun j => h2 _ j (Or.inl (by omega))) (fun j => h2 _ j (Or.inl (by omega)))
theorem CS.lo {T : tS} {M M' : zM} (h : CS T M) (h2 : zlo M M') : CS T M' := fun t ht => (h t ht).same (fun j => h2 _ j (by omega)) (fun j => h2 _ j (by omega))
theorem rT.same {M M' : zM} {t n : Nat} {c : tC} (h8 : n ≤ 8) (h : rT M t n c) (h1 : M' 33 t = M 33 t) (h2 : ∀ j, 64 * t ≤ j → j < 64 * t + 64 → M' 34 j = M 34 j) : rT M' t n c := ⟨h1.trans h.1, fun a b ha hb => (h2 _ (by omega) (by omega)).trans (h.2 a b ha hb)⟩
theorem RS.sr {T : tS} {M M' : zM} (hT : TO T) (h : RS T M) (h2 : zsr M M') : RS T M' := fun t ht => (h t ht).same (hT t ht).1.2 (h2 _ _ (Or.inr (Or.inl ⟨rfl, ht⟩))) (fun j _ g => h2 _ _ (Or.inr (Or.inr ⟨rfl, by omega⟩)))
theorem RS.hi {T : tS} {M M' : zM} (hT : TO T) (h : RS T M) (h2 : zhi M M') : RS T M' := fun t ht => (h t ht).same (hT t ht).1.2 (h2 _ _ (by omega)) (fun j _ _ => h2 _ _ (by omega))
theorem tb4 {t : Nat} (h : t < 4) : ztb (2 + 2 * t) := by
  match t, h with
  | 0, _ => exact Or.inl rfl
  | 1, _ => exact Or.inr (Or.inl rfl)
  | 2, _ => exact Or.inr (Or.inr (Or.inl rfl))
  | 3, _ => exact Or.inr (Or.inr (Or.inr (Or.inl rfl)))
theorem tb10 : ztb 10 := by unfold ztb; omega
theorem tb13 : ztb 13 := by unfold ztb; omega
theorem tb15 : ztb 15 := by unfold ztb; omega
theorem tb27 : ztb 27 := by unfold ztb; omega
/-! arguments -/
theorem z3 (x : Int32) {n : Nat} (hn : n < 2 ^ 31) : zlt x n = false ∨ ∃ j, j < n ∧ x = nI j := by
  cases h : zlt x n with
  | false => exact Or.inl rfl
  | true => exact Or.inr (zlt_t hn h)
theorem zlt_i (x : Int32) {n : Nat} (hn : n < 2 ^ 31) : zlt x n = decide (0 ≤ x.toInt ∧ x.toInt < n) := by
  unfold zlt
  rw [Bool.eq_iff_iff]
  simp only [Bool.and_eq_true, Bool.not_eq_true', decide_eq_false_iff_not, decide_eq_true_eq, Int32.lt_iff_toInt_lt, nI_toInt hn]
  have e : (0 : Int32).toInt = 0 := by decide
  rw [e]
  omega
theorem qL_isTable {M : zM} {x : Int32} : zf_L_isTable [.int x] M = some (some (zb (zlt x 4)), M) := by
  simp [zf_L_isTable, zmeth, xm_en, zret, zretz, zretv, zseq, zst, zinc, zkl, zskip, zk, zi, za, zbin, zdiv, zrem, zgi, zgr, zld, zldr, zlen, zn, zc, zcall, zcallv, zrcv, zdo, zdov, zpf, zpfc, zas, zasc, zmin, zmax, zcmp, zcz, zand_e, zor_e, zite_e, zbite_e, zif_e, znot_e, z_add, z_sub, z_mul, z_and, z_or, z_xor, z_shl, z_shr, zcpy, -List.getElem?_cons_succ, zg_0, zg_1, zg_2, zg_3, zg_4, zg_5, zg_6, zg_7, zg_8, zg_9, qL_isBelow, zb_01]
theorem qM_in {M : zM} {x lo hi : Int32} : zf_M_in [.int x, .int lo, .int hi] M = some (some (zb (xe_cd .ge x lo && xe_cd .le x hi)), M) := by
  simp [zf_M_in, zmeth, xm_en, zret, zretz, zretv, zseq, zst, zinc, zkl, zskip, zk, zi, za, zbin, zdiv, zrem, zgi, zgr, zld, zldr, zlen, zn, zc, zcall, zcallv, zrcv, zdo, zdov, zpf, zpfc, zas, zasc, zmin, zmax, zcmp, zcz, zand_e, zor_e, zite_e, zbite_e, zif_e, znot_e, z_add, z_sub, z_mul, z_and, z_or, z_xor, z_shl, z_shr, zcpy, -List.getElem?_cons_succ, zg_0, zg_1, zg_2, zg_3, zg_4, zg_5, zg_6, zg_7, zg_8, zg_9, zbm2, zbm3, zbm4, zb_f, zb_01]
theorem zin0 (x : Int32) {m : Nat} (hm : m < 2 ^ 30) : (xe_cd .ge x (nI 0) && xe_cd .le x (nI m)) = zlt x (m + 1) := by
  rw [zlt_i x (by omega), Bool.eq_iff_iff]
  simp only [xe_cd, Bool.and_eq_true, decide_eq_true_eq, Int32.le_iff_toInt_le, nI_toInt (n := 0) (by decide), nI_toInt (n := m) (by omega)]
  omega
theorem zin1 (x : Int32) {m : Nat} (hm : m < 2 ^ 30) : (xe_cd .ge x (nI 1) && xe_cd .le x (nI m)) = (zlt x (m + 1) && !decide (x = nI 0)) := by
  rw [zlt_i x (by omega), Bool.eq_iff_iff]
  simp only [xe_cd, Bool.and_eq_true, Bool.not_eq_true', decide_eq_false_iff_not, decide_eq_true_eq, Int32.le_iff_toInt_le, nI_toInt (n := 1) (by decide), nI_toInt (n := m) (by omega)]
  have e : x = nI 0 ↔ x.toInt = 0 := by
    rw [← Int32.toInt_inj, nI_toInt (n := 0) (by decide)]
    rfl
  rw [e]
  omega
theorem qM_isTable {M : zM} {x : Int32} : zf_M_isTable [.int x] M = some (some (zb (zlt x 4)), M) := by
  simp [zf_M_isTable, zmeth, xm_en, zret, zretz, zretv, zseq, zst, zinc, zkl, zskip, zk, zi, za, zbin, zdiv, zrem, zgi, zgr, zld, zldr, zlen, zn, zc, zcall, zcallv, zrcv, zdo, zdov, zpf, zpfc, zas, zasc, zmin, zmax, zcmp, zcz, zand_e, zor_e, zite_e, zbite_e, zif_e, znot_e, z_add, z_sub, z_mul, z_and, z_or, z_xor, z_shl, z_shr, zcpy, -List.getElem?_cons_succ, zg_0, zg_1, zg_2, zg_3, zg_4, zg_5, zg_6, zg_7, zg_8, zg_9, qM_in, zin0, zb_01]
theorem qL_isElement {T : tS} {M : zM} {t : Nat} {x : Int32} (hC : CS T M) (ht : t < 4) : zf_L_isElement [.ref 0, .int (nI t), .int x] M = some (some (zb (zlt x (T t).1)), M) := by
  simp (disch := omega) [zf_L_isElement, zmeth, xm_en, zret, zretz, zretv, zseq, zst, zinc, zkl, zskip, zk, zi, za, zbin, zdiv, zrem, zgi, zgr, zld, zldr, zlen, zn, zc, zcall, zcallv, zrcv, zdo, zdov, zpf, zpfc, zas, zasc, zmin, zmax, zcmp, zcz, zand_e, zor_e, zite_e, zbite_e, zif_e, znot_e, z_add, z_sub, z_mul, z_and, z_or, z_xor, z_shl, z_shr, zcpy, -List.getElem?_cons_succ, zg_0, zg_1, zg_2, zg_3, zg_4, zg_5, zg_6, zg_7, zg_8, zg_9, zt_0, zt_12, zt_20, zt_26, zt_32, zf_0_0, zf_0_1, zf_0_2, zf_0_3, zf_0_4, zf_12_0, zf_12_1, zf_12_2, zf_12_4, zf_12_5, zf_20_1, zf_20_2, zf_20_3, zf_20_4, zf_20_6, zf_26_0, zf_26_1, zf_26_2, zf_26_3, zf_32_0, zf_32_1, zf_32_3, zf_32_4, zf_32_5, zf_32_6, zi_1, zf_1, nI_clamp, ztb_tag (tb4 ht), (hC t ht).1, qL_isBelow, zb_01]
theorem nI_m1 {n : Nat} (h : 1 ≤ n) : nI n - nI 1 = nI (n - 1) := pk_sub h
theorem qM_isElement {T : tS} {M : zM} {t : Nat} {x : Int32} (hR : RS T M) (hT : TO T) (ht : t < 4) : zf_M_isElement [.ref 32, .int (nI t), .int x] M = some (some (zb (zlt x (T t).1)), M) := by
  have h1 := (hT t ht).1
  have e : (T t).1 - 1 + 1 = (T t).1 := by omega
  simp (disch := omega) [zf_M_isElement, zmeth, xm_en, zret, zretz, zretv, zseq, zst, zinc, zkl, zskip, zk, zi, za, zbin, zdiv, zrem, zgi, zgr, zld, zldr, zlen, zn, zc, zcall, zcallv, zrcv, zdo, zdov, zpf, zpfc, zas, zasc, zmin, zmax, zcmp, zcz, zand_e, zor_e, zite_e, zbite_e, zif_e, znot_e, z_add, z_sub, z_mul, z_and, z_or, z_xor, z_shl, z_shr, zcpy, -List.getElem?_cons_succ, zg_0, zg_1, zg_2, zg_3, zg_4, zg_5, zg_6, zg_7, zg_8, zg_9, zt_0, zt_12, zt_20, zt_26, zt_32, zf_0_0, zf_0_1, zf_0_2, zf_0_3, zf_0_4, zf_12_0, zf_12_1, zf_12_2, zf_12_4, zf_12_5, zf_20_1, zf_20_2, zf_20_3, zf_20_4, zf_20_6, zf_26_0, zf_26_1, zf_26_2, zf_26_3, zf_32_0, zf_32_1, zf_32_3, zf_32_4, zf_32_5, zf_32_6, zi_33, nI_clamp, (hR t ht).1, qM_in, nI_m1, zin0, zb_01, e]
theorem qL_orNone {M : zM} (v : Nat) : zf_L_orNone [.int (zcl (-1) v)] M = some (some (zcl (-4) v), M) := by
  by_cases h : v < 8
  · have e : decide (8 ≤ v) = false := decide_eq_false (by omega)
    simp [zf_L_orNone, zmeth, xm_en, zret, zretz, zretv, zseq, zst, zinc, zkl, zskip, zk, zi, za, zbin, zdiv, zrem, zgi, zgr, zld, zldr, zlen, zn, zc, zcall, zcallv, zrcv, zdo, zdov, zpf, zpfc, zas, zasc, zmin, zmax, zcmp, zcz, zand_e, zor_e, zite_e, zbite_e, zif_e, znot_e, z_add, z_sub, z_mul, z_and, z_or, z_xor, z_shl, z_shr, zcpy, -List.getElem?_cons_succ, zg_0, zg_1, zg_2, zg_3, zg_4, zg_5, zg_6, zg_7, zg_8, zg_9, zcl_m1, e]
    rw [zcl_lt h, zcl_lt h]
  · have e : decide (8 ≤ v) = true := decide_eq_true (by omega)
    simp [zf_L_orNone, zmeth, xm_en, zret, zretz, zretv, zseq, zst, zinc, zkl, zskip, zk, zi, za, zbin, zdiv, zrem, zgi, zgr, zld, zldr, zlen, zn, zc, zcall, zcallv, zrcv, zdo, zdov, zpf, zpfc, zas, zasc, zmin, zmax, zcmp, zcz, zand_e, zor_e, zite_e, zbite_e, zif_e, znot_e, z_add, z_sub, z_mul, z_and, z_or, z_xor, z_shl, z_shr, zcpy, -List.getElem?_cons_succ, zg_0, zg_1, zg_2, zg_3, zg_4, zg_5, zg_6, zg_7, zg_8, zg_9, zcl_m1, e]
    rw [zcl_ge h]
