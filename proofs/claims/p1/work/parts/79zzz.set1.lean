/-! set, while every table has one element: both sides answer that there is no such cell -/
theorem qL_set1 {T : tS} {M : zM} (x y z v : Int32) (hC : CS T M) (h1 : ∀ t, t < 4 → (T t).1 = 1) : zf_L_set [.ref 0, .int x, .int y, .int z, .int v] M = some (some (-1), M) := by
  rcases z3 x (n := 4) (by decide) with h | ⟨t, ht, rfl⟩
  · simp [zf_L_set, zmeth, xm_en, zret, zretz, zretv, zseq, zst, zinc, zkl, zskip, zk, zi, za, zbin, zdiv, zrem, zgi, zgr, zld, zldr, zlen, zn, zc, zcall, zcallv, zrcv, zdo, zdov, zpf, zpfc, zas, zasc, zmin, zmax, zcmp, zcz, zand_e, zor_e, zite_e, zbite_e, zif_e, znot_e, z_add, z_sub, z_mul, z_and, z_or, z_xor, z_shl, z_shr, zcpy, -List.getElem?_cons_succ, zg_0, zg_1, zg_2, zg_3, zg_4, zg_5, zg_6, zg_7, zg_8, zg_9, qL_isTable, zb_ne, h]
  · have e := zlt_y ht (by decide)
    have hn := h1 t ht
    cases hy : decide (y = nI 0) with
    | true => simp [zf_L_set, zmeth, xm_en, zret, zretz, zretv, zseq, zst, zinc, zkl, zskip, zk, zi, za, zbin, zdiv, zrem, zgi, zgr, zld, zldr, zlen, zn, zc, zcall, zcallv, zrcv, zdo, zdov, zpf, zpfc, zas, zasc, zmin, zmax, zcmp, zcz, zand_e, zor_e, zite_e, zbite_e, zif_e, znot_e, z_add, z_sub, z_mul, z_and, z_or, z_xor, z_shl, z_shr, zcpy, -List.getElem?_cons_succ, zg_0, zg_1, zg_2, zg_3, zg_4, zg_5, zg_6, zg_7, zg_8, zg_9, qL_isTable, zb_ne, e, ze0, hy]
    | false =>
    cases hz : decide (z = nI 0) with
    | true => simp [zf_L_set, zmeth, xm_en, zret, zretz, zretv, zseq, zst, zinc, zkl, zskip, zk, zi, za, zbin, zdiv, zrem, zgi, zgr, zld, zldr, zlen, zn, zc, zcall, zcallv, zrcv, zdo, zdov, zpf, zpfc, zas, zasc, zmin, zmax, zcmp, zcz, zand_e, zor_e, zite_e, zbite_e, zif_e, znot_e, z_add, z_sub, z_mul, z_and, z_or, z_xor, z_shl, z_shr, zcpy, -List.getElem?_cons_succ, zg_0, zg_1, zg_2, zg_3, zg_4, zg_5, zg_6, zg_7, zg_8, zg_9, qL_isTable, zb_ne, e, ze0, hy, hz]
    | false =>
    rcases z3 y (n := (T t).1) (by omega) with h2 | ⟨a, ha, rfl⟩
    · simp [zf_L_set, zmeth, xm_en, zret, zretz, zretv, zseq, zst, zinc, zkl, zskip, zk, zi, za, zbin, zdiv, zrem, zgi, zgr, zld, zldr, zlen, zn, zc, zcall, zcallv, zrcv, zdo, zdov, zpf, zpfc, zas, zasc, zmin, zmax, zcmp, zcz, zand_e, zor_e, zite_e, zbite_e, zif_e, znot_e, z_add, z_sub, z_mul, z_and, z_or, z_xor, z_shl, z_shr, zcpy, -List.getElem?_cons_succ, zg_0, zg_1, zg_2, zg_3, zg_4, zg_5, zg_6, zg_7, zg_8, zg_9, zt_0, zt_12, zt_20, zt_26, zt_32, zf_0_0, zf_0_1, zf_0_2, zf_0_3, zf_0_4, zf_12_0, zf_12_1, zf_12_2, zf_12_4, zf_12_5, zf_20_1, zf_20_2, zf_20_3, zf_20_4, zf_20_6, zf_26_0, zf_26_1, zf_26_2, zf_26_3, zf_32_0, zf_32_1, zf_32_3, zf_32_4, zf_32_5, zf_32_6, qL_isTable, zb_ne, e, ze0, hy, hz, qL_isElement hC ht, h2]
    · have a0 : a = 0 := by omega
      subst a0
      exact absurd rfl (of_decide_eq_false hy)
theorem qM_set1 {T : tS} {M : zM} (x y z v : Int32) (hR : RS T M) (h1 : ∀ t, t < 4 → (T t).1 = 1) : zf_M_set [.ref 32, .int x, .int y, .int z, .int v] M = some (some (-1), M) := by
  rcases z3 x (n := 4) (by decide) with h | ⟨t, ht, rfl⟩
  · simp [zf_M_set, zmeth, xm_en, zret, zretz, zretv, zseq, zst, zinc, zkl, zskip, zk, zi, za, zbin, zdiv, zrem, zgi, zgr, zld, zldr, zlen, zn, zc, zcall, zcallv, zrcv, zdo, zdov, zpf, zpfc, zas, zasc, zmin, zmax, zcmp, zcz, zand_e, zor_e, zite_e, zbite_e, zif_e, znot_e, z_add, z_sub, z_mul, z_and, z_or, z_xor, z_shl, z_shr, zcpy, -List.getElem?_cons_succ, zg_0, zg_1, zg_2, zg_3, zg_4, zg_5, zg_6, zg_7, zg_8, zg_9, qM_isTable, zb_ne, h]
  · have e := zlt_y ht (by decide)
    have hn := h1 t ht
    have h8 : (T t).1 ≤ 8 := by omega
    have h18 : 1 ≤ (T t).1 := by omega
    have en : (T t).1 - 1 + 1 = (T t).1 := by omega
    have hsz := (hR t ht).1
    have b1 : ∀ q : Int32, zf_M_in [.int q, .int (nI 1), .int (nI ((T t).1 - 1))] M = some (some (zb (zlt q (T t).1 && !decide (q = nI 0))), M) := fun q => by rw [qM_in, zin1 q (by omega), en]
    have p1 : (zlt y (T t).1 && !decide (y = nI 0)) = false := by
      rcases z3 y (n := (T t).1) (by omega) with h2 | ⟨a, ha, rfl⟩
      · rw [h2]; rfl
      · have a0 : a = 0 := by omega
        subst a0
        simp
    clear hn
    simp (disch := omega) [zf_M_set, zmeth, xm_en, zret, zretz, zretv, zseq, zst, zinc, zkl, zskip, zk, zi, za, zbin, zdiv, zrem, zgi, zgr, zld, zldr, zlen, zn, zc, zcall, zcallv, zrcv, zdo, zdov, zpf, zpfc, zas, zasc, zmin, zmax, zcmp, zcz, zand_e, zor_e, zite_e, zbite_e, zif_e, znot_e, z_add, z_sub, z_mul, z_and, z_or, z_xor, z_shl, z_shr, zcpy, -List.getElem?_cons_succ, zg_0, zg_1, zg_2, zg_3, zg_4, zg_5, zg_6, zg_7, zg_8, zg_9, zt_0, zt_12, zt_20, zt_26, zt_32, zf_0_0, zf_0_1, zf_0_2, zf_0_3, zf_0_4, zf_12_0, zf_12_1, zf_12_2, zf_12_4, zf_12_5, zf_20_1, zf_20_2, zf_20_3, zf_20_4, zf_20_6, zf_26_0, zf_26_1, zf_26_2, zf_26_3, zf_32_0, zf_32_1, zf_32_3, zf_32_4, zf_32_5, zf_32_6, qM_isTable, zb_ne, e, zi_33, nI_clamp, hsz, nI_m1, b1, p1]
theorem Inv_1 : CS (fun _ => (1, fun _ _ => 0)) xp_mm ∧ RS (fun _ => (1, fun _ _ => 0)) xp_mm := by
  refine ⟨fun t ht => ?_, fun t ht => ?_⟩
  · refine kT_1 ?_ ?_
    · match t, ht with
      | 0, _ => rfl
      | 1, _ => rfl
      | 2, _ => rfl
      | 3, _ => rfl
    · match t, ht with
      | 0, _ => rfl
      | 1, _ => rfl
      | 2, _ => rfl
      | 3, _ => rfl
  · refine rT_1 ?_ ?_
    · match t, ht with
      | 0, _ => rfl
      | 1, _ => rfl
      | 2, _ => rfl
      | 3, _ => rfl
    · match t, ht with
      | 0, _ => rfl
      | 1, _ => rfl
      | 2, _ => rfl
      | 3, _ => rfl
theorem pr_set1 (x1 x2 x3 x4 : Int32) : ∃ r r' M1 M2, zf_L_set [.ref 0, .int x1, .int x2, .int x3, .int x4] xp_mm = some (some r, M1) ∧ zf_M_set [.ref 32, .int x1, .int x2, .int x3, .int x4] M1 = some (some r', M2) ∧ Inv M2 ∧ r = r' := ⟨-1, -1, xp_mm, xp_mm, qL_set1 x1 x2 x3 x4 Inv_1.1 (fun _ _ => rfl), qM_set1 x1 x2 x3 x4 Inv_1.2 (fun _ _ => rfl), Inv_0, rfl⟩
