/-! alike: both answers -/
noncomputable def dP (p : Prop) : Bool := @decide p (Classical.propDecidable p)
theorem dP_b {b : Bool} {p : Prop} (h : b = true ↔ p) : b = dP p := by
  unfold dP
  cases b with
  | false => exact (@decide_eq_false p (Classical.propDecidable p) (fun z => by have := h.mpr z; cases this)).symm
  | true => exact (@decide_eq_true p (Classical.propDecidable p) (h.mp rfl)).symm
/-- D is c under three namings -/
def AL3 (n : Nat) (c D : tC) : Prop := ∃ a b, a < n ∧ b < n ∧ AL n (c a b) (ri c n a b) D
noncomputable def aAk (T : tS) (x y z : Int32) : Int32 := bif zlt x 4 && zlt y 4 then (bif tB (T x.toNatClampNeg).1 (T x.toNatClampNeg).2 && tB (T y.toNatClampNeg).1 (T y.toNatClampNeg).2 then (bif xe_cd .ne z 0 && (decide (6 < (T x.toNatClampNeg).1) || decide (6 < (T y.toNatClampNeg).1)) then -2 else (bif decide ((T x.toNatClampNeg).1 = (T y.toNatClampNeg).1) then (bif xe_cd .ne z 0 then zb (dP (AL3 (T x.toNatClampNeg).1 (T x.toNatClampNeg).2 (T y.toNatClampNeg).2)) else zb (dP (AL (T x.toNatClampNeg).1 0 (T x.toNatClampNeg).2 (T y.toNatClampNeg).2))) else nI 0)) else -2) else -1
theorem qL_alikeF {T : tS} {M : zM} (x y z : Int32) (hC : CS T M) (hT : TO T) : ∃ M', zf_L_alike [.ref 0, .int x, .int y, .int z] M = some (some (aAk T x y z), M') ∧ zsc M M' := by
  rcases z3 x (n := 4) (by decide) with h | ⟨s, hs, rfl⟩
  · refine ⟨M, ?_, zsc.refl M⟩
    simp [zf_L_alike, zmeth, xm_en, zret, zretz, zretv, zseq, zst, zinc, zkl, zskip, zk, zi, za, zbin, zdiv, zrem, zgi, zgr, zld, zldr, zlen, zn, zc, zcall, zcallv, zrcv, zdo, zdov, zpf, zpfc, zas, zasc, zmin, zmax, zcmp, zcz, zand_e, zor_e, zite_e, zbite_e, zif_e, znot_e, z_add, z_sub, z_mul, z_and, z_or, z_xor, z_shl, z_shr, zcpy, -List.getElem?_cons_succ, zg_0, zg_1, zg_2, zg_3, zg_4, zg_5, zg_6, zg_7, zg_8, zg_9, qL_isTable, zb_ne, h, aAk]
  · have e := zlt_y hs (by decide)
    rcases z3 y (n := 4) (by decide) with h | ⟨t, ht, rfl⟩
    · refine ⟨M, ?_, zsc.refl M⟩
      simp [zf_L_alike, zmeth, xm_en, zret, zretz, zretv, zseq, zst, zinc, zkl, zskip, zk, zi, za, zbin, zdiv, zrem, zgi, zgr, zld, zldr, zlen, zn, zc, zcall, zcallv, zrcv, zdo, zdov, zpf, zpfc, zas, zasc, zmin, zmax, zcmp, zcz, zand_e, zor_e, zite_e, zbite_e, zif_e, znot_e, z_add, z_sub, z_mul, z_and, z_or, z_xor, z_shl, z_shr, zcpy, -List.getElem?_cons_succ, zg_0, zg_1, zg_2, zg_3, zg_4, zg_5, zg_6, zg_7, zg_8, zg_9, qL_isTable, zb_ne, e, h, aAk]
    · have e2 := zlt_y ht (by decide)
      have ct : (nI t).toNatClampNeg = t := nI_clamp (by omega)
      have cs : (nI s).toNatClampNeg = s := nI_clamp (by omega)
      have fs := qT_isFull (tb4 hs) (hC s hs) (hT s hs)
      have ft := qT_isFull (tb4 ht) (hC t ht) (hT t ht)
      have s8 := (hT s hs).1
      have t8 := (hT t ht).1
      have n1 := (hC s hs).1
      have n2 := (hC t ht).1
      cases hb : tB (T s).1 (T s).2 with
      | false =>
        rw [hb] at fs
        refine ⟨M, ?_, zsc.refl M⟩
        simp (disch := omega) [zf_L_alike, zmeth, xm_en, zret, zretz, zretv, zseq, zst, zinc, zkl, zskip, zk, zi, za, zbin, zdiv, zrem, zgi, zgr, zld, zldr, zlen, zn, zc, zcall, zcallv, zrcv, zdo, zdov, zpf, zpfc, zas, zasc, zmin, zmax, zcmp, zcz, zand_e, zor_e, zite_e, zbite_e, zif_e, znot_e, z_add, z_sub, z_mul, z_and, z_or, z_xor, z_shl, z_shr, zcpy, -List.getElem?_cons_succ, zg_0, zg_1, zg_2, zg_3, zg_4, zg_5, zg_6, zg_7, zg_8, zg_9, zt_0, zt_12, zt_20, zt_26, zt_32, zf_0_0, zf_0_1, zf_0_2, zf_0_3, zf_0_4, zf_12_0, zf_12_1, zf_12_2, zf_12_4, zf_12_5, zf_20_1, zf_20_2, zf_20_3, zf_20_4, zf_20_6, zf_26_0, zf_26_1, zf_26_2, zf_26_3, zf_32_0, zf_32_1, zf_32_3, zf_32_4, zf_32_5, zf_32_6, qL_isTable, zb_ne, e, e2, zi_1, zf_1, ct, cs, ztb_tag (tb4 ht), ztb_tag (tb4 hs), fs, aAk, hb]
      | true =>
        rw [hb] at fs
        cases hb2 : tB (T t).1 (T t).2 with
        | false =>
          rw [hb2] at ft
          refine ⟨M, ?_, zsc.refl M⟩
          simp (disch := omega) [zf_L_alike, zmeth, xm_en, zret, zretz, zretv, zseq, zst, zinc, zkl, zskip, zk, zi, za, zbin, zdiv, zrem, zgi, zgr, zld, zldr, zlen, zn, zc, zcall, zcallv, zrcv, zdo, zdov, zpf, zpfc, zas, zasc, zmin, zmax, zcmp, zcz, zand_e, zor_e, zite_e, zbite_e, zif_e, znot_e, z_add, z_sub, z_mul, z_and, z_or, z_xor, z_shl, z_shr, zcpy, -List.getElem?_cons_succ, zg_0, zg_1, zg_2, zg_3, zg_4, zg_5, zg_6, zg_7, zg_8, zg_9, zt_0, zt_12, zt_20, zt_26, zt_32, zf_0_0, zf_0_1, zf_0_2, zf_0_3, zf_0_4, zf_12_0, zf_12_1, zf_12_2, zf_12_4, zf_12_5, zf_20_1, zf_20_2, zf_20_3, zf_20_4, zf_20_6, zf_26_0, zf_26_1, zf_26_2, zf_26_3, zf_32_0, zf_32_1, zf_32_3, zf_32_4, zf_32_5, zf_32_6, qL_isTable, zb_ne, e, e2, zi_1, zf_1, ct, cs, ztb_tag (tb4 ht), ztb_tag (tb4 hs), fs, ft, aAk, hb, hb2]
        | true =>
          rw [hb2] at ft
          have hf := (tB_iff (hT s hs)).mp hb
          have hf2 := (tB_iff (hT t ht)).mp hb2
          cases hz : xe_cd .ne z 0 with
          | false =>
            obtain ⟨b, M1, e1, g1, i1⟩ := qR_areAlikeF (tb4 hs) (tb4 ht) (hC s hs) (hC t ht) s8.1 s8.2 t8.2 (hT s hs).2.1 (hT t ht).2.1 hf hf2
            have ea : aAk T (nI s) (nI t) z = zb b := by
              by_cases hn : (T s).1 = (T t).1
              · have : b = dP (AL (T s).1 0 (T s).2 (T t).2) := dP_b (i1.trans ⟨fun q => q.2, fun q => ⟨hn, q⟩⟩)
                rw [this]
                unfold aAk
                rw [ct, cs, e, e2, hb, hb2, hz, decide_eq_true hn]
                rfl
              · have : b = false := by
                  cases b with
                  | false => rfl
                  | true => exact absurd (i1.mp rfl).1 hn
                simp [aAk, e, e2, ct, cs, hb, hb2, hz, hn, this]
                rfl
            refine ⟨M1, ?_, fun q j hq => g1 q j (by omega)⟩
            rw [ea]
            simp (disch := omega) [zf_L_alike, zmeth, xm_en, zret, zretz, zretv, zseq, zst, zinc, zkl, zskip, zk, zi, za, zbin, zdiv, zrem, zgi, zgr, zld, zldr, zlen, zn, zc, zcall, zcallv, zrcv, zdo, zdov, zpf, zpfc, zas, zasc, zmin, zmax, zcmp, zcz, zand_e, zor_e, zite_e, zbite_e, zif_e, znot_e, z_add, z_sub, z_mul, z_and, z_or, z_xor, z_shl, z_shr, zcpy, -List.getElem?_cons_succ, zg_0, zg_1, zg_2, zg_3, zg_4, zg_5, zg_6, zg_7, zg_8, zg_9, zt_0, zt_12, zt_20, zt_26, zt_32, zf_0_0, zf_0_1, zf_0_2, zf_0_3, zf_0_4, zf_12_0, zf_12_1, zf_12_2, zf_12_4, zf_12_5, zf_20_1, zf_20_2, zf_20_3, zf_20_4, zf_20_6, zf_26_0, zf_26_1, zf_26_2, zf_26_3, zf_32_0, zf_32_1, zf_32_3, zf_32_4, zf_32_5, zf_32_6, qL_isTable, zb_ne, e, e2, zi_1, zf_1, ct, cs, ztb_tag (tb4 ht), ztb_tag (tb4 hs), fs, ft, hz, e1, zb_01]
            cases b <;> rfl
          | true =>
            by_cases h6 : 6 < (T s).1 ∨ 6 < (T t).1
            · refine ⟨M, ?_, zsc.refl M⟩
              have ea : aAk T (nI s) (nI t) z = -2 := by
                rcases h6 with h6 | h6 <;> simp [aAk, e, e2, ct, cs, hb, hb2, hz, h6]
              rw [ea]
              have mx : xe_cd .gt (if nI (T s).1 < nI (T t).1 then nI (T t).1 else nI (T s).1) (nI 6) = true := by
                by_cases q : (T s).1 < (T t).1
                · rw [if_pos ((nI_ltI (by omega) (by omega)).mpr q), zc_gt (by omega) (by omega), decide_eq_true_eq]
                  omega
                · rw [if_neg (fun w => q ((nI_ltI (by omega) (by omega)).mp w)), zc_gt (by omega) (by omega), decide_eq_true_eq]
                  omega
              simp (disch := omega) [zf_L_alike, zmeth, xm_en, zret, zretz, zretv, zseq, zst, zinc, zkl, zskip, zk, zi, za, zbin, zdiv, zrem, zgi, zgr, zld, zldr, zlen, zn, zc, zcall, zcallv, zrcv, zdo, zdov, zpf, zpfc, zas, zasc, zmin, zmax, zcmp, zcz, zand_e, zor_e, zite_e, zbite_e, zif_e, znot_e, z_add, z_sub, z_mul, z_and, z_or, z_xor, z_shl, z_shr, zcpy, -List.getElem?_cons_succ, zg_0, zg_1, zg_2, zg_3, zg_4, zg_5, zg_6, zg_7, zg_8, zg_9, zt_0, zt_12, zt_20, zt_26, zt_32, zf_0_0, zf_0_1, zf_0_2, zf_0_3, zf_0_4, zf_12_0, zf_12_1, zf_12_2, zf_12_4, zf_12_5, zf_20_1, zf_20_2, zf_20_3, zf_20_4, zf_20_6, zf_26_0, zf_26_1, zf_26_2, zf_26_3, zf_32_0, zf_32_1, zf_32_3, zf_32_4, zf_32_5, zf_32_6, qL_isTable, zb_ne, e, e2, zi_1, zf_1, ct, cs, ztb_tag (tb4 ht), ztb_tag (tb4 hs), fs, ft, hz, n1, n2, mx]
            · have mx : xe_cd .gt (if nI (T s).1 < nI (T t).1 then nI (T t).1 else nI (T s).1) (nI 6) = false := by
                by_cases q : (T s).1 < (T t).1
                · rw [if_pos ((nI_ltI (by omega) (by omega)).mpr q), zc_gt (by omega) (by omega), decide_eq_false_iff_not]
                  omega
                · rw [if_neg (fun w => q ((nI_ltI (by omega) (by omega)).mp w)), zc_gt (by omega) (by omega), decide_eq_false_iff_not]
                  omega
              have h6a : ¬ 6 < (T s).1 := by omega
              have h6b : ¬ 6 < (T t).1 := by omega
              obtain ⟨b, M1, e1, g1, i1⟩ := qR_threeF (tb4 hs) (tb4 ht) (by omega) (by omega) (hC s hs) (hC t ht) (hT s hs) (hT t ht) hf hf2
              have ea : aAk T (nI s) (nI t) z = zb b := by
                by_cases hn : (T s).1 = (T t).1
                · have : b = dP (AL3 (T s).1 (T s).2 (T t).2) := dP_b (i1.trans ⟨fun q => q.2, fun q => ⟨hn, q⟩⟩)
                  rw [this]
                  unfold aAk
                  rw [ct, cs, e, e2, hb, hb2, hz, decide_eq_true hn, decide_eq_false h6a, decide_eq_false h6b]
                  rfl
                · have : b = false := by
                    cases b with
                    | false => rfl
                    | true => exact absurd (i1.mp rfl).1 hn
                  simp [aAk, e, e2, ct, cs, hb, hb2, hz, hn, h6a, h6b, this]
                  rfl
              refine ⟨M1, ?_, fun q j hq => g1 q j (by omega) (by omega) (by omega)⟩
              rw [ea]
              simp (disch := omega) [zf_L_alike, zmeth, xm_en, zret, zretz, zretv, zseq, zst, zinc, zkl, zskip, zk, zi, za, zbin, zdiv, zrem, zgi, zgr, zld, zldr, zlen, zn, zc, zcall, zcallv, zrcv, zdo, zdov, zpf, zpfc, zas, zasc, zmin, zmax, zcmp, zcz, zand_e, zor_e, zite_e, zbite_e, zif_e, znot_e, z_add, z_sub, z_mul, z_and, z_or, z_xor, z_shl, z_shr, zcpy, -List.getElem?_cons_succ, zg_0, zg_1, zg_2, zg_3, zg_4, zg_5, zg_6, zg_7, zg_8, zg_9, zt_0, zt_12, zt_20, zt_26, zt_32, zf_0_0, zf_0_1, zf_0_2, zf_0_3, zf_0_4, zf_12_0, zf_12_1, zf_12_2, zf_12_4, zf_12_5, zf_20_1, zf_20_2, zf_20_3, zf_20_4, zf_20_6, zf_26_0, zf_26_1, zf_26_2, zf_26_3, zf_32_0, zf_32_1, zf_32_3, zf_32_4, zf_32_5, zf_32_6, qL_isTable, zb_ne, e, e2, zi_1, zf_1, ct, cs, ztb_tag (tb4 ht), ztb_tag (tb4 hs), fs, ft, hz, n1, n2, mx, e1, zb_01]
              cases b <;> rfl
theorem qM_alikeF {T : tS} {M : zM} (x y z : Int32) (hR : RS T M) (hT : TO T) : ∃ M', zf_M_alike [.ref 32, .int x, .int y, .int z] M = some (some (aAk T x y z), M') ∧ zsr M M' := by
  rcases z3 x (n := 4) (by decide) with h | ⟨s, hs, rfl⟩
  · refine ⟨M, ?_, zsr.refl M⟩
    simp [zf_M_alike, zmeth, xm_en, zret, zretz, zretv, zseq, zst, zinc, zkl, zskip, zk, zi, za, zbin, zdiv, zrem, zgi, zgr, zld, zldr, zlen, zn, zc, zcall, zcallv, zrcv, zdo, zdov, zpf, zpfc, zas, zasc, zmin, zmax, zcmp, zcz, zand_e, zor_e, zite_e, zbite_e, zif_e, znot_e, z_add, z_sub, z_mul, z_and, z_or, z_xor, z_shl, z_shr, zcpy, -List.getElem?_cons_succ, zg_0, zg_1, zg_2, zg_3, zg_4, zg_5, zg_6, zg_7, zg_8, zg_9, qM_isTable, zb_ne, h, aAk]
  · have e := zlt_y hs (by decide)
    rcases z3 y (n := 4) (by decide) with h | ⟨t, ht, rfl⟩
    · refine ⟨M, ?_, zsr.refl M⟩
      simp [zf_M_alike, zmeth, xm_en, zret, zretz, zretv, zseq, zst, zinc, zkl, zskip, zk, zi, za, zbin, zdiv, zrem, zgi, zgr, zld, zldr, zlen, zn, zc, zcall, zcallv, zrcv, zdo, zdov, zpf, zpfc, zas, zasc, zmin, zmax, zcmp, zcz, zand_e, zor_e, zite_e, zbite_e, zif_e, znot_e, z_add, z_sub, z_mul, z_and, z_or, z_xor, z_shl, z_shr, zcpy, -List.getElem?_cons_succ, zg_0, zg_1, zg_2, zg_3, zg_4, zg_5, zg_6, zg_7, zg_8, zg_9, qM_isTable, zb_ne, e, h, aAk]
    · have e2 := zlt_y ht (by decide)
      have ct : (nI t).toNatClampNeg = t := nI_clamp (by omega)
      have cs : (nI s).toNatClampNeg = s := nI_clamp (by omega)
      have s8 := (hT s hs).1
      have t8 := (hT t ht).1
      have fs := qM_isFull (show s < 6 by omega) (hR s hs) s8.2
      have ft := qM_isFull (show t < 6 by omega) (hR t ht) t8.2
      cases hb : tB (T s).1 (T s).2 with
      | false =>
        rw [hb] at fs
        refine ⟨M, ?_, zsr.refl M⟩
        simp (disch := omega) [zf_M_alike, zmeth, xm_en, zret, zretz, zretv, zseq, zst, zinc, zkl, zskip, zk, zi, za, zbin, zdiv, zrem, zgi, zgr, zld, zldr, zlen, zn, zc, zcall, zcallv, zrcv, zdo, zdov, zpf, zpfc, zas, zasc, zmin, zmax, zcmp, zcz, zand_e, zor_e, zite_e, zbite_e, zif_e, znot_e, z_add, z_sub, z_mul, z_and, z_or, z_xor, z_shl, z_shr, zcpy, -List.getElem?_cons_succ, zg_0, zg_1, zg_2, zg_3, zg_4, zg_5, zg_6, zg_7, zg_8, zg_9, zt_0, zt_12, zt_20, zt_26, zt_32, zf_0_0, zf_0_1, zf_0_2, zf_0_3, zf_0_4, zf_12_0, zf_12_1, zf_12_2, zf_12_4, zf_12_5, zf_20_1, zf_20_2, zf_20_3, zf_20_4, zf_20_6, zf_26_0, zf_26_1, zf_26_2, zf_26_3, zf_32_0, zf_32_1, zf_32_3, zf_32_4, zf_32_5, zf_32_6, qM_isTable, zb_ne, e, e2, fs, aAk, cs, ct, hb]
      | true =>
        rw [hb] at fs
        cases hb2 : tB (T t).1 (T t).2 with
        | false =>
          rw [hb2] at ft
          refine ⟨M, ?_, zsr.refl M⟩
          simp (disch := omega) [zf_M_alike, zmeth, xm_en, zret, zretz, zretv, zseq, zst, zinc, zkl, zskip, zk, zi, za, zbin, zdiv, zrem, zgi, zgr, zld, zldr, zlen, zn, zc, zcall, zcallv, zrcv, zdo, zdov, zpf, zpfc, zas, zasc, zmin, zmax, zcmp, zcz, zand_e, zor_e, zite_e, zbite_e, zif_e, znot_e, z_add, z_sub, z_mul, z_and, z_or, z_xor, z_shl, z_shr, zcpy, -List.getElem?_cons_succ, zg_0, zg_1, zg_2, zg_3, zg_4, zg_5, zg_6, zg_7, zg_8, zg_9, zt_0, zt_12, zt_20, zt_26, zt_32, zf_0_0, zf_0_1, zf_0_2, zf_0_3, zf_0_4, zf_12_0, zf_12_1, zf_12_2, zf_12_4, zf_12_5, zf_20_1, zf_20_2, zf_20_3, zf_20_4, zf_20_6, zf_26_0, zf_26_1, zf_26_2, zf_26_3, zf_32_0, zf_32_1, zf_32_3, zf_32_4, zf_32_5, zf_32_6, qM_isTable, zb_ne, e, e2, fs, ft, aAk, cs, ct, hb, hb2]
        | true =>
          rw [hb2] at ft
          have hf := (tB_iff (hT s hs)).mp hb
          have hf2 := (tB_iff (hT t ht)).mp hb2
          have z1 := (hR s hs).1
          have z2 := (hR t ht).1
          cases hz : xe_cd .ne z 0 with
          | false =>
            by_cases hn : (T s).1 = (T t).1
            · have hr2 := hR t ht
              have hf2' := hf2
              rw [← hn] at hr2 hf2'
              obtain ⟨v, M1, e1, g1, i1⟩ := qM_isAlikeF (t2 := t) (u := 0) (show s < 5 by omega) (by omega) (hR s hs) hf hr2 hf2' s8.2 (by omega)
              have ea : aAk T (nI s) (nI t) z = zb v := by
                rw [dP_b i1]
                unfold aAk
                rw [ct, cs, e, e2, hb, hb2, hz, decide_eq_true hn]
                rfl
              refine ⟨M1, ?_, g1.sr⟩
              rw [ea]
              simp (disch := omega) [zf_M_alike, zmeth, xm_en, zret, zretz, zretv, zseq, zst, zinc, zkl, zskip, zk, zi, za, zbin, zdiv, zrem, zgi, zgr, zld, zldr, zlen, zn, zc, zcall, zcallv, zrcv, zdo, zdov, zpf, zpfc, zas, zasc, zmin, zmax, zcmp, zcz, zand_e, zor_e, zite_e, zbite_e, zif_e, znot_e, z_add, z_sub, z_mul, z_and, z_or, z_xor, z_shl, z_shr, zcpy, -List.getElem?_cons_succ, zg_0, zg_1, zg_2, zg_3, zg_4, zg_5, zg_6, zg_7, zg_8, zg_9, zt_0, zt_12, zt_20, zt_26, zt_32, zf_0_0, zf_0_1, zf_0_2, zf_0_3, zf_0_4, zf_12_0, zf_12_1, zf_12_2, zf_12_4, zf_12_5, zf_20_1, zf_20_2, zf_20_3, zf_20_4, zf_20_6, zf_26_0, zf_26_1, zf_26_2, zf_26_3, zf_32_0, zf_32_1, zf_32_3, zf_32_4, zf_32_5, zf_32_6, qM_isTable, zb_ne, e, e2, fs, ft, hz, zi_33, nI_clamp, z1, z2, zc_ne, hn, e1]
              cases v <;> rfl
            · refine ⟨M, ?_, zsr.refl M⟩
              have ea : aAk T (nI s) (nI t) z = nI 0 := by simp [aAk, e, e2, ct, cs, hb, hb2, hz, hn]
              rw [ea]
              simp (disch := omega) [zf_M_alike, zmeth, xm_en, zret, zretz, zretv, zseq, zst, zinc, zkl, zskip, zk, zi, za, zbin, zdiv, zrem, zgi, zgr, zld, zldr, zlen, zn, zc, zcall, zcallv, zrcv, zdo, zdov, zpf, zpfc, zas, zasc, zmin, zmax, zcmp, zcz, zand_e, zor_e, zite_e, zbite_e, zif_e, znot_e, z_add, z_sub, z_mul, z_and, z_or, z_xor, z_shl, z_shr, zcpy, -List.getElem?_cons_succ, zg_0, zg_1, zg_2, zg_3, zg_4, zg_5, zg_6, zg_7, zg_8, zg_9, zt_0, zt_12, zt_20, zt_26, zt_32, zf_0_0, zf_0_1, zf_0_2, zf_0_3, zf_0_4, zf_12_0, zf_12_1, zf_12_2, zf_12_4, zf_12_5, zf_20_1, zf_20_2, zf_20_3, zf_20_4, zf_20_6, zf_26_0, zf_26_1, zf_26_2, zf_26_3, zf_32_0, zf_32_1, zf_32_3, zf_32_4, zf_32_5, zf_32_6, qM_isTable, zb_ne, e, e2, fs, ft, hz, zi_33, nI_clamp, z1, z2, zc_ne, hn]
          | true =>
            by_cases h6 : 6 < (T s).1
            · refine ⟨M, ?_, zsr.refl M⟩
              have ea : aAk T (nI s) (nI t) z = -2 := by simp [aAk, e, e2, ct, cs, hb, hb2, hz, h6]
              rw [ea]
              simp (disch := omega) [zf_M_alike, zmeth, xm_en, zret, zretz, zretv, zseq, zst, zinc, zkl, zskip, zk, zi, za, zbin, zdiv, zrem, zgi, zgr, zld, zldr, zlen, zn, zc, zcall, zcallv, zrcv, zdo, zdov, zpf, zpfc, zas, zasc, zmin, zmax, zcmp, zcz, zand_e, zor_e, zite_e, zbite_e, zif_e, znot_e, z_add, z_sub, z_mul, z_and, z_or, z_xor, z_shl, z_shr, zcpy, -List.getElem?_cons_succ, zg_0, zg_1, zg_2, zg_3, zg_4, zg_5, zg_6, zg_7, zg_8, zg_9, zt_0, zt_12, zt_20, zt_26, zt_32, zf_0_0, zf_0_1, zf_0_2, zf_0_3, zf_0_4, zf_12_0, zf_12_1, zf_12_2, zf_12_4, zf_12_5, zf_20_1, zf_20_2, zf_20_3, zf_20_4, zf_20_6, zf_26_0, zf_26_1, zf_26_2, zf_26_3, zf_32_0, zf_32_1, zf_32_3, zf_32_4, zf_32_5, zf_32_6, qM_isTable, zb_ne, e, e2, fs, ft, hz, zi_33, nI_clamp, z1, z2, zc_gt, h6]
            · by_cases h7 : 6 < (T t).1
              · refine ⟨M, ?_, zsr.refl M⟩
                have ea : aAk T (nI s) (nI t) z = -2 := by simp [aAk, e, e2, ct, cs, hb, hb2, hz, h7]
                rw [ea]
                simp (disch := omega) [zf_M_alike, zmeth, xm_en, zret, zretz, zretv, zseq, zst, zinc, zkl, zskip, zk, zi, za, zbin, zdiv, zrem, zgi, zgr, zld, zldr, zlen, zn, zc, zcall, zcallv, zrcv, zdo, zdov, zpf, zpfc, zas, zasc, zmin, zmax, zcmp, zcz, zand_e, zor_e, zite_e, zbite_e, zif_e, znot_e, z_add, z_sub, z_mul, z_and, z_or, z_xor, z_shl, z_shr, zcpy, -List.getElem?_cons_succ, zg_0, zg_1, zg_2, zg_3, zg_4, zg_5, zg_6, zg_7, zg_8, zg_9, zt_0, zt_12, zt_20, zt_26, zt_32, zf_0_0, zf_0_1, zf_0_2, zf_0_3, zf_0_4, zf_12_0, zf_12_1, zf_12_2, zf_12_4, zf_12_5, zf_20_1, zf_20_2, zf_20_3, zf_20_4, zf_20_6, zf_26_0, zf_26_1, zf_26_2, zf_26_3, zf_32_0, zf_32_1, zf_32_3, zf_32_4, zf_32_5, zf_32_6, qM_isTable, zb_ne, e, e2, fs, ft, hz, zi_33, nI_clamp, z1, z2, zc_gt, h6, h7]
              · by_cases hn : (T s).1 = (T t).1
                · have hr2 := hR t ht
                  have hf2' := hf2
                  rw [← hn] at hr2 hf2'
                  obtain ⟨r, ls, M1, e1, f1, q⟩ := qM_al1F (z := z) hs ht (hR s hs) (hT s hs) hf hr2 hf2' s8.2
                  have ea : ∀ v : Bool, (v = true ↔ AL3 (T s).1 (T s).2 (T t).2) → aAk T (nI s) (nI t) z = zb v := fun v i => by
                    rw [dP_b i]
                    unfold aAk
                    rw [ct, cs, e, e2, hb, hb2, hz, decide_eq_true hn, decide_eq_false h6, decide_eq_false h7]
                    rfl
                  rcases q with ⟨rfl, rfl, o⟩ | ⟨rfl, o⟩
                  · refine ⟨M1, ?_, f1.sr⟩
                    rw [ea false ⟨fun q => by (cases q), fun ⟨a, b, p1, p2, p3⟩ => absurd p3 (o a b p1 p2)⟩]
                    rw [hn] at e1
                    simp (disch := omega) [zf_M_alike, zmeth, xm_en, zret, zretz, zretv, zseq, zst, zinc, zkl, zskip, zk, zi, za, zbin, zdiv, zrem, zgi, zgr, zld, zldr, zlen, zn, zc, zcall, zcallv, zrcv, zdo, zdov, zpf, zpfc, zas, zasc, zmin, zmax, zcmp, zcz, zand_e, zor_e, zite_e, zbite_e, zif_e, znot_e, z_add, z_sub, z_mul, z_and, z_or, z_xor, z_shl, z_shr, zcpy, -List.getElem?_cons_succ, zg_0, zg_1, zg_2, zg_3, zg_4, zg_5, zg_6, zg_7, zg_8, zg_9, zt_0, zt_12, zt_20, zt_26, zt_32, zf_0_0, zf_0_1, zf_0_2, zf_0_3, zf_0_4, zf_12_0, zf_12_1, zf_12_2, zf_12_4, zf_12_5, zf_20_1, zf_20_2, zf_20_3, zf_20_4, zf_20_6, zf_26_0, zf_26_1, zf_26_2, zf_26_3, zf_32_0, zf_32_1, zf_32_3, zf_32_4, zf_32_5, zf_32_6, qM_isTable, zb_ne, e, e2, fs, ft, hz, zi_33, nI_clamp, z1, z2, zc_gt, zc_ne, hn, h7, e1]
                    rfl
                  · refine ⟨M1, ?_, f1.sr⟩
                    rw [ea true ⟨fun _ => o, fun _ => rfl⟩]
                    rw [hn] at e1
                    simp (disch := omega) [zf_M_alike, zmeth, xm_en, zret, zretz, zretv, zseq, zst, zinc, zkl, zskip, zk, zi, za, zbin, zdiv, zrem, zgi, zgr, zld, zldr, zlen, zn, zc, zcall, zcallv, zrcv, zdo, zdov, zpf, zpfc, zas, zasc, zmin, zmax, zcmp, zcz, zand_e, zor_e, zite_e, zbite_e, zif_e, znot_e, z_add, z_sub, z_mul, z_and, z_or, z_xor, z_shl, z_shr, zcpy, -List.getElem?_cons_succ, zg_0, zg_1, zg_2, zg_3, zg_4, zg_5, zg_6, zg_7, zg_8, zg_9, zt_0, zt_12, zt_20, zt_26, zt_32, zf_0_0, zf_0_1, zf_0_2, zf_0_3, zf_0_4, zf_12_0, zf_12_1, zf_12_2, zf_12_4, zf_12_5, zf_20_1, zf_20_2, zf_20_3, zf_20_4, zf_20_6, zf_26_0, zf_26_1, zf_26_2, zf_26_3, zf_32_0, zf_32_1, zf_32_3, zf_32_4, zf_32_5, zf_32_6, qM_isTable, zb_ne, e, e2, fs, ft, hz, zi_33, nI_clamp, z1, z2, zc_gt, zc_ne, hn, h7, e1]
                    rfl
                · refine ⟨M, ?_, zsr.refl M⟩
                  have ea : aAk T (nI s) (nI t) z = nI 0 := by simp [aAk, e, e2, ct, cs, hb, hb2, hz, hn, h6, h7]
                  rw [ea]
                  simp (disch := omega) [zf_M_alike, zmeth, xm_en, zret, zretz, zretv, zseq, zst, zinc, zkl, zskip, zk, zi, za, zbin, zdiv, zrem, zgi, zgr, zld, zldr, zlen, zn, zc, zcall, zcallv, zrcv, zdo, zdov, zpf, zpfc, zas, zasc, zmin, zmax, zcmp, zcz, zand_e, zor_e, zite_e, zbite_e, zif_e, znot_e, z_add, z_sub, z_mul, z_and, z_or, z_xor, z_shl, z_shr, zcpy, -List.getElem?_cons_succ, zg_0, zg_1, zg_2, zg_3, zg_4, zg_5, zg_6, zg_7, zg_8, zg_9, zt_0, zt_12, zt_20, zt_26, zt_32, zf_0_0, zf_0_1, zf_0_2, zf_0_3, zf_0_4, zf_12_0, zf_12_1, zf_12_2, zf_12_4, zf_12_5, zf_20_1, zf_20_2, zf_20_3, zf_20_4, zf_20_6, zf_26_0, zf_26_1, zf_26_2, zf_26_3, zf_32_0, zf_32_1, zf_32_3, zf_32_4, zf_32_5, zf_32_6, qM_isTable, zb_ne, e, e2, fs, ft, hz, zi_33, nI_clamp, z1, z2, zc_gt, zc_ne, h6, h7, hn]
