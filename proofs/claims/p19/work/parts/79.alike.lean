/-! alike: the class -/
theorem qL_alike {T : tS} {M : zM} (x y z : Int32) (hC : CS T M) (hT : TO T) : ∃ r M', zf_L_alike [.ref 0, .int x, .int y, .int z] M = some (some r, M') ∧ zsc M M' := by
  rcases z3 x (n := 4) (by decide) with h | ⟨s, hs, rfl⟩
  · refine ⟨-1, M, ?_, zsc.refl M⟩
    simp [zf_L_alike, zmeth, xm_en, zret, zretz, zretv, zseq, zst, zinc, zkl, zskip, zk, zi, za, zbin, zdiv, zrem, zgi, zgr, zld, zldr, zlen, zn, zc, zcall, zcallv, zrcv, zdo, zdov, zpf, zpfc, zas, zasc, zmin, zmax, zcmp, zcz, zand_e, zor_e, zite_e, zbite_e, zif_e, znot_e, z_add, z_sub, z_mul, z_and, z_or, z_xor, z_shl, z_shr, zcpy, -List.getElem?_cons_succ, zg_0, zg_1, zg_2, zg_3, zg_4, zg_5, zg_6, zg_7, zg_8, zg_9, qL_isTable, zb_ne, h]
  · have e := zlt_y hs (by decide)
    rcases z3 y (n := 4) (by decide) with h | ⟨t, ht, rfl⟩
    · refine ⟨-1, M, ?_, zsc.refl M⟩
      simp [zf_L_alike, zmeth, xm_en, zret, zretz, zretv, zseq, zst, zinc, zkl, zskip, zk, zi, za, zbin, zdiv, zrem, zgi, zgr, zld, zldr, zlen, zn, zc, zcall, zcallv, zrcv, zdo, zdov, zpf, zpfc, zas, zasc, zmin, zmax, zcmp, zcz, zand_e, zor_e, zite_e, zbite_e, zif_e, znot_e, z_add, z_sub, z_mul, z_and, z_or, z_xor, z_shl, z_shr, zcpy, -List.getElem?_cons_succ, zg_0, zg_1, zg_2, zg_3, zg_4, zg_5, zg_6, zg_7, zg_8, zg_9, qL_isTable, zb_ne, e, h]
    · have e2 := zlt_y ht (by decide)
      have ct : (nI t).toNatClampNeg = t := nI_clamp (by omega)
      have cs : (nI s).toNatClampNeg = s := nI_clamp (by omega)
      have fs := qT_isFull (tb4 hs) (hC s hs) (hT s hs)
      have ft := qT_isFull (tb4 ht) (hC t ht) (hT t ht)
      have s8 := (hT s hs).1
      have t8 := (hT t ht).1
      cases hb : tB (T s).1 (T s).2 with
      | false =>
        rw [hb] at fs
        refine ⟨-2, M, ?_, zsc.refl M⟩
        simp (disch := omega) [zf_L_alike, zmeth, xm_en, zret, zretz, zretv, zseq, zst, zinc, zkl, zskip, zk, zi, za, zbin, zdiv, zrem, zgi, zgr, zld, zldr, zlen, zn, zc, zcall, zcallv, zrcv, zdo, zdov, zpf, zpfc, zas, zasc, zmin, zmax, zcmp, zcz, zand_e, zor_e, zite_e, zbite_e, zif_e, znot_e, z_add, z_sub, z_mul, z_and, z_or, z_xor, z_shl, z_shr, zcpy, -List.getElem?_cons_succ, zg_0, zg_1, zg_2, zg_3, zg_4, zg_5, zg_6, zg_7, zg_8, zg_9, zt_0, zt_12, zt_20, zt_26, zt_32, zf_0_0, zf_0_1, zf_0_2, zf_0_3, zf_0_4, zf_12_0, zf_12_1, zf_12_2, zf_12_4, zf_12_5, zf_20_1, zf_20_2, zf_20_3, zf_20_4, zf_20_6, zf_26_0, zf_26_1, zf_26_2, zf_26_3, zf_32_0, zf_32_1, zf_32_3, zf_32_4, zf_32_5, zf_32_6, qL_isTable, zb_ne, e, e2, zi_1, zf_1, ct, cs, ztb_tag (tb4 ht), ztb_tag (tb4 hs), fs]
      | true =>
        rw [hb] at fs
        cases hb2 : tB (T t).1 (T t).2 with
        | false =>
          rw [hb2] at ft
          refine ⟨-2, M, ?_, zsc.refl M⟩
          simp (disch := omega) [zf_L_alike, zmeth, xm_en, zret, zretz, zretv, zseq, zst, zinc, zkl, zskip, zk, zi, za, zbin, zdiv, zrem, zgi, zgr, zld, zldr, zlen, zn, zc, zcall, zcallv, zrcv, zdo, zdov, zpf, zpfc, zas, zasc, zmin, zmax, zcmp, zcz, zand_e, zor_e, zite_e, zbite_e, zif_e, znot_e, z_add, z_sub, z_mul, z_and, z_or, z_xor, z_shl, z_shr, zcpy, -List.getElem?_cons_succ, zg_0, zg_1, zg_2, zg_3, zg_4, zg_5, zg_6, zg_7, zg_8, zg_9, zt_0, zt_12, zt_20, zt_26, zt_32, zf_0_0, zf_0_1, zf_0_2, zf_0_3, zf_0_4, zf_12_0, zf_12_1, zf_12_2, zf_12_4, zf_12_5, zf_20_1, zf_20_2, zf_20_3, zf_20_4, zf_20_6, zf_26_0, zf_26_1, zf_26_2, zf_26_3, zf_32_0, zf_32_1, zf_32_3, zf_32_4, zf_32_5, zf_32_6, qL_isTable, zb_ne, e, e2, zi_1, zf_1, ct, cs, ztb_tag (tb4 ht), ztb_tag (tb4 hs), fs, ft]
        | true =>
          rw [hb2] at ft
          have hf := (tB_iff (hT s hs)).mp hb
          cases hz : xe_cd .ne z 0 with
          | false =>
            obtain ⟨b, M1, e1, g1⟩ := qR_areAlike (tb4 hs) (tb4 ht) (hC s hs).1 (hC t ht).1 s8.1 s8.2 t8.2
            refine ⟨zb b, M1, ?_, fun q j hq => g1 q j (by omega)⟩
            simp (disch := omega) [zf_L_alike, zmeth, xm_en, zret, zretz, zretv, zseq, zst, zinc, zkl, zskip, zk, zi, za, zbin, zdiv, zrem, zgi, zgr, zld, zldr, zlen, zn, zc, zcall, zcallv, zrcv, zdo, zdov, zpf, zpfc, zas, zasc, zmin, zmax, zcmp, zcz, zand_e, zor_e, zite_e, zbite_e, zif_e, znot_e, z_add, z_sub, z_mul, z_and, z_or, z_xor, z_shl, z_shr, zcpy, -List.getElem?_cons_succ, zg_0, zg_1, zg_2, zg_3, zg_4, zg_5, zg_6, zg_7, zg_8, zg_9, zt_0, zt_12, zt_20, zt_26, zt_32, zf_0_0, zf_0_1, zf_0_2, zf_0_3, zf_0_4, zf_12_0, zf_12_1, zf_12_2, zf_12_4, zf_12_5, zf_20_1, zf_20_2, zf_20_3, zf_20_4, zf_20_6, zf_26_0, zf_26_1, zf_26_2, zf_26_3, zf_32_0, zf_32_1, zf_32_3, zf_32_4, zf_32_5, zf_32_6, qL_isTable, zb_ne, e, e2, zi_1, zf_1, ct, cs, ztb_tag (tb4 ht), ztb_tag (tb4 hs), fs, ft, hz, e1, zb_01]
            cases b <;> rfl
          | true =>
            by_cases h6 : 6 < (T s).1 ∨ 6 < (T t).1
            · refine ⟨-2, M, ?_, zsc.refl M⟩
              have mx : xe_cd .gt (if nI (T s).1 < nI (T t).1 then nI (T t).1 else nI (T s).1) (nI 6) = true := by
                by_cases q : (T s).1 < (T t).1
                · rw [if_pos ((nI_ltI (by omega) (by omega)).mpr q), zc_gt (by omega) (by omega), decide_eq_true_eq]
                  omega
                · rw [if_neg (fun w => q ((nI_ltI (by omega) (by omega)).mp w)), zc_gt (by omega) (by omega), decide_eq_true_eq]
                  omega
              simp (disch := omega) [zf_L_alike, zmeth, xm_en, zret, zretz, zretv, zseq, zst, zinc, zkl, zskip, zk, zi, za, zbin, zdiv, zrem, zgi, zgr, zld, zldr, zlen, zn, zc, zcall, zcallv, zrcv, zdo, zdov, zpf, zpfc, zas, zasc, zmin, zmax, zcmp, zcz, zand_e, zor_e, zite_e, zbite_e, zif_e, znot_e, z_add, z_sub, z_mul, z_and, z_or, z_xor, z_shl, z_shr, zcpy, -List.getElem?_cons_succ, zg_0, zg_1, zg_2, zg_3, zg_4, zg_5, zg_6, zg_7, zg_8, zg_9, zt_0, zt_12, zt_20, zt_26, zt_32, zf_0_0, zf_0_1, zf_0_2, zf_0_3, zf_0_4, zf_12_0, zf_12_1, zf_12_2, zf_12_4, zf_12_5, zf_20_1, zf_20_2, zf_20_3, zf_20_4, zf_20_6, zf_26_0, zf_26_1, zf_26_2, zf_26_3, zf_32_0, zf_32_1, zf_32_3, zf_32_4, zf_32_5, zf_32_6, qL_isTable, zb_ne, e, e2, zi_1, zf_1, ct, cs, ztb_tag (tb4 ht), ztb_tag (tb4 hs), fs, ft, hz, (hC s hs).1, (hC t ht).1, mx]
            · have mx : xe_cd .gt (if nI (T s).1 < nI (T t).1 then nI (T t).1 else nI (T s).1) (nI 6) = false := by
                by_cases q : (T s).1 < (T t).1
                · rw [if_pos ((nI_ltI (by omega) (by omega)).mpr q), zc_gt (by omega) (by omega), decide_eq_false_iff_not]
                  omega
                · rw [if_neg (fun w => q ((nI_ltI (by omega) (by omega)).mp w)), zc_gt (by omega) (by omega), decide_eq_false_iff_not]
                  omega
              obtain ⟨b, M1, e1, g1⟩ := qR_three (tb4 hs) (tb4 ht) (by omega) (by omega) (hC s hs) (hC t ht).1 hf s8.1 s8.2 t8.2
              refine ⟨zb b, M1, ?_, fun q j hq => g1 q j (by omega) (by omega) (by omega)⟩
              simp (disch := omega) [zf_L_alike, zmeth, xm_en, zret, zretz, zretv, zseq, zst, zinc, zkl, zskip, zk, zi, za, zbin, zdiv, zrem, zgi, zgr, zld, zldr, zlen, zn, zc, zcall, zcallv, zrcv, zdo, zdov, zpf, zpfc, zas, zasc, zmin, zmax, zcmp, zcz, zand_e, zor_e, zite_e, zbite_e, zif_e, znot_e, z_add, z_sub, z_mul, z_and, z_or, z_xor, z_shl, z_shr, zcpy, -List.getElem?_cons_succ, zg_0, zg_1, zg_2, zg_3, zg_4, zg_5, zg_6, zg_7, zg_8, zg_9, zt_0, zt_12, zt_20, zt_26, zt_32, zf_0_0, zf_0_1, zf_0_2, zf_0_3, zf_0_4, zf_12_0, zf_12_1, zf_12_2, zf_12_4, zf_12_5, zf_20_1, zf_20_2, zf_20_3, zf_20_4, zf_20_6, zf_26_0, zf_26_1, zf_26_2, zf_26_3, zf_32_0, zf_32_1, zf_32_3, zf_32_4, zf_32_5, zf_32_6, qL_isTable, zb_ne, e, e2, zi_1, zf_1, ct, cs, ztb_tag (tb4 ht), ztb_tag (tb4 hs), fs, ft, hz, (hC s hs).1, (hC t ht).1, mx, e1, zb_01]
              cases b <;> rfl
