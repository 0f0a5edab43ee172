/-! left: the class's call, the reference -/
def okL (T : tS) (x y z : Int32) : Bool := zlt x 4 && (okP T y z && tNm (T y.toNatClampNeg).1 (T y.toNatClampNeg).2 z.toNatClampNeg)
def sL (T : tS) (x y z : Int32) : tS := bif okL T x y z then tset T x.toNatClampNeg (rk (T y.toNatClampNeg).1 (T y.toNatClampNeg).2 z.toNatClampNeg (T y.toNatClampNeg).1) (tQ (T y.toNatClampNeg).1 (T y.toNatClampNeg).2 z.toNatClampNeg) else T
def aL (T : tS) (x y z : Int32) : Int32 := bif zlt x 4 && zlt y 4 then (bif okP T y z then (bif okL T x y z then nI (rk (T y.toNatClampNeg).1 (T y.toNatClampNeg).2 z.toNatClampNeg (T y.toNatClampNeg).1) else -2) else aFault (T y.toNatClampNeg).1 (T y.toNatClampNeg).2 z) else -1
theorem qL_left {T : tS} {M : zM} (x y z : Int32) (hC : CS T M) (hT : TO T) : ∃ M', zf_L_left [.ref 0, .int x, .int y, .int z] M = some (some (aL T x y z), M') ∧ CS (sL T x y z) M' ∧ zhi M M' := by
  rcases z3 x (n := 4) (by decide) with h | ⟨s, hs, rfl⟩
  · refine ⟨M, ?_, by simpa [sL, okL, h] using hC, zhi.refl M⟩
    simp [zf_L_left, zmeth, xm_en, zret, zretz, zretv, zseq, zst, zinc, zkl, zskip, zk, zi, za, zbin, zdiv, zrem, zgi, zgr, zld, zldr, zlen, zn, zc, zcall, zcallv, zrcv, zdo, zdov, zpf, zpfc, zas, zasc, zmin, zmax, zcmp, zcz, zand_e, zor_e, zite_e, zbite_e, zif_e, znot_e, z_add, z_sub, z_mul, z_and, z_or, z_xor, z_shl, z_shr, zcpy, -List.getElem?_cons_succ, zg_0, zg_1, zg_2, zg_3, zg_4, zg_5, zg_6, zg_7, zg_8, zg_9, qL_isTable, zb_ne, h, aL]
  · have e := zlt_y hs (by decide)
    rcases z3 y (n := 4) (by decide) with h | ⟨t, ht, rfl⟩
    · refine ⟨M, ?_, by simpa [sL, okL, okP, h] using hC, zhi.refl M⟩
      simp [zf_L_left, zmeth, xm_en, zret, zretz, zretv, zseq, zst, zinc, zkl, zskip, zk, zi, za, zbin, zdiv, zrem, zgi, zgr, zld, zldr, zlen, zn, zc, zcall, zcallv, zrcv, zdo, zdov, zpf, zpfc, zas, zasc, zmin, zmax, zcmp, zcz, zand_e, zor_e, zite_e, zbite_e, zif_e, znot_e, z_add, z_sub, z_mul, z_and, z_or, z_xor, z_shl, z_shr, zcpy, -List.getElem?_cons_succ, zg_0, zg_1, zg_2, zg_3, zg_4, zg_5, zg_6, zg_7, zg_8, zg_9, qL_isTable, zb_ne, e, h, aL]
    · have e2 := zlt_y ht (by decide)
      have ct : (nI t).toNatClampNeg = t := nI_clamp (by omega)
      have cs : (nI s).toNatClampNeg = s := nI_clamp (by omega)
      have h8 := (hT t ht).1.2
      have hp := p31 h8
      have fa := qL_fault (x := z) hC hT ht
      have f0 := aFault_0 (n := (T t).1) (c := (T t).2) (y := z)
      cases hk : zlt z (2 ^ (T t).1) && (tB (T t).1 (T t).2 && isP (T t).1 (T t).2 z.toNatClampNeg) with
      | false =>
        rw [hk] at f0
        have hok : okP T (nI t) z = false := by unfold okP; rw [ct, hk, Bool.and_false]
        refine ⟨M, ?_, by simpa [sL, okL, hok] using hC, zhi.refl M⟩
        simp (disch := omega) [zf_L_left, zmeth, xm_en, zret, zretz, zretv, zseq, zst, zinc, zkl, zskip, zk, zi, za, zbin, zdiv, zrem, zgi, zgr, zld, zldr, zlen, zn, zc, zcall, zcallv, zrcv, zdo, zdov, zpf, zpfc, zas, zasc, zmin, zmax, zcmp, zcz, zand_e, zor_e, zite_e, zbite_e, zif_e, znot_e, z_add, z_sub, z_mul, z_and, z_or, z_xor, z_shl, z_shr, zcpy, -List.getElem?_cons_succ, zg_0, zg_1, zg_2, zg_3, zg_4, zg_5, zg_6, zg_7, zg_8, zg_9, zt_0, zt_12, zt_20, zt_26, zt_32, zf_0_0, zf_0_1, zf_0_2, zf_0_3, zf_0_4, zf_12_0, zf_12_1, zf_12_2, zf_12_4, zf_12_5, zf_20_1, zf_20_2, zf_20_3, zf_20_4, zf_20_6, zf_26_0, zf_26_1, zf_26_2, zf_26_3, zf_32_0, zf_32_1, zf_32_3, zf_32_4, zf_32_5, zf_32_6, qL_isTable, zb_ne, e, e2, aL, hok, ct, fa, f0]
      | true =>
        rw [hk] at f0
        have hok : okP T (nI t) z = true := by unfold okP; rw [ct, hk, e2]; rfl
        simp only [Bool.and_eq_true] at hk
        obtain ⟨v, hv, rfl⟩ := zlt_t hp hk.1
        have cv : (nI v).toNatClampNeg = v := nI_clamp (by omega)
        rw [cv] at hk
        have hf := (tB_iff (hT t ht)).mp hk.2.1
        have nn := qP_isNormal (tb4 ht) (hC t ht) h8 hf (show v < 2 ^ 31 by omega)
        cases hn : tNm (T t).1 (T t).2 v with
        | false =>
          rw [hn] at nn
          have hokl : okL T (nI s) (nI t) (nI v) = false := by simp [okL, ct, cv, hn]
          refine ⟨M, ?_, by simpa [sL, hokl] using hC, zhi.refl M⟩
          simp (disch := omega) [zf_L_left, zmeth, xm_en, zret, zretz, zretv, zseq, zst, zinc, zkl, zskip, zk, zi, za, zbin, zdiv, zrem, zgi, zgr, zld, zldr, zlen, zn, zc, zcall, zcallv, zrcv, zdo, zdov, zpf, zpfc, zas, zasc, zmin, zmax, zcmp, zcz, zand_e, zor_e, zite_e, zbite_e, zif_e, znot_e, z_add, z_sub, z_mul, z_and, z_or, z_xor, z_shl, z_shr, zcpy, -List.getElem?_cons_succ, zg_0, zg_1, zg_2, zg_3, zg_4, zg_5, zg_6, zg_7, zg_8, zg_9, zt_0, zt_12, zt_20, zt_26, zt_32, zf_0_0, zf_0_1, zf_0_2, zf_0_3, zf_0_4, zf_12_0, zf_12_1, zf_12_2, zf_12_4, zf_12_5, zf_20_1, zf_20_2, zf_20_3, zf_20_4, zf_20_6, zf_26_0, zf_26_1, zf_26_2, zf_26_3, zf_32_0, zf_32_1, zf_32_3, zf_32_4, zf_32_5, zf_32_6, qL_isTable, zb_ne, e, e2, aL, hok, hokl, ct, fa, f0, zi_1, zf_1, nI_clamp, nn]
        | true =>
          rw [hn] at nn
          have hokl : okL T (nI s) (nI t) (nI v) = true := by simp [okL, ct, cv, hn, e, hok]
          have H : NP (T t).1 (T t).2 v := ⟨hT t ht, hf, hv, hk.2.2, hn⟩
          obtain ⟨M1, g1, g2, g3⟩ := H.build (tb4 ht) (by omega) (hC t ht)
          refine ⟨zto M1 (2 + 2 * s) 10, ?_, ?_, zhi.trans g3.hi (zhi_to hs)⟩
          · simp (disch := omega) [zf_L_left, zmeth, xm_en, zret, zretz, zretv, zseq, zst, zinc, zkl, zskip, zk, zi, za, zbin, zdiv, zrem, zgi, zgr, zld, zldr, zlen, zn, zc, zcall, zcallv, zrcv, zdo, zdov, zpf, zpfc, zas, zasc, zmin, zmax, zcmp, zcz, zand_e, zor_e, zite_e, zbite_e, zif_e, znot_e, z_add, z_sub, z_mul, z_and, z_or, z_xor, z_shl, z_shr, zcpy, -List.getElem?_cons_succ, zg_0, zg_1, zg_2, zg_3, zg_4, zg_5, zg_6, zg_7, zg_8, zg_9, zt_0, zt_12, zt_20, zt_26, zt_32, zf_0_0, zf_0_1, zf_0_2, zf_0_3, zf_0_4, zf_12_0, zf_12_1, zf_12_2, zf_12_4, zf_12_5, zf_20_1, zf_20_2, zf_20_3, zf_20_4, zf_20_6, zf_26_0, zf_26_1, zf_26_2, zf_26_3, zf_32_0, zf_32_1, zf_32_3, zf_32_4, zf_32_5, zf_32_6, qL_isTable, zb_ne, e, e2, aL, hok, hokl, ct, cv, fa, f0, zi_1, zf_1, nI_clamp, nn, g1, qL_keepBuilt hs g2]
          · simp only [sL, hokl, cond_true, ct, cs, cv]
            exact CS_to hs tb10 H.tOP.1.2 (hC.sc g3) g2
theorem qM_lowest {M : zM} {s n : Nat} (h8 : n ≤ 8) (hs : s < 2 ^ 31) (hx : zidx (fun a => s.testBit a) 0 n < n) : zf_M_lowest [.int (nI s)] M = some (some (nI (zidx (fun a => s.testBit a) 0 n)), M) := by
  have R := zwh_up (c := zc_M_lowest_1) (s := zs_M_lowest_1) (fun j => [some (Value.int (nI s)), some (Value.int (nI j))]) (fun _ => M) (n := zidx (fun a => s.testBit a) 0 n) (zidx (fun a => s.testBit a) 0 n) 0 (by omega) ?_ ?_ ?_
  · simp (disch := omega) [zf_M_lowest, zmeth, xm_en, zret, zretz, zretv, zseq, zst, zinc, zkl, zskip, zk, zi, za, zbin, zdiv, zrem, zgi, zgr, zld, zldr, zlen, zn, zc, zcall, zcallv, zrcv, zdo, zdov, zpf, zpfc, zas, zasc, zmin, zmax, zcmp, zcz, zand_e, zor_e, zite_e, zbite_e, zif_e, znot_e, z_add, z_sub, z_mul, z_and, z_or, z_xor, z_shl, z_shr, zcpy, -List.getElem?_cons_succ, zg_0, zg_1, zg_2, zg_3, zg_4, zg_5, zg_6, zg_7, zg_8, zg_9, R]
  · intro j _ h2
    have g := qM_has (M := M) (s := s) (a := j) hs (by omega)
    rw [zidx_no (p := fun a => s.testBit a) n 0 j (by omega) h2] at g
    simp (disch := omega) [zc_M_lowest_1, zmeth, xm_en, zret, zretz, zretv, zseq, zst, zinc, zkl, zskip, zk, zi, za, zbin, zdiv, zrem, zgi, zgr, zld, zldr, zlen, zn, zc, zcall, zcallv, zrcv, zdo, zdov, zpf, zpfc, zas, zasc, zmin, zmax, zcmp, zcz, zand_e, zor_e, zite_e, zbite_e, zif_e, znot_e, z_add, z_sub, z_mul, z_and, z_or, z_xor, z_shl, z_shr, zcpy, -List.getElem?_cons_succ, zg_0, zg_1, zg_2, zg_3, zg_4, zg_5, zg_6, zg_7, zg_8, zg_9, zc_lt, zc_le, zc_gt, zc_ge, zc_eq, zc_ne, zc_lt0, zc_ge0, zc_gt0, zc_eq0, zc_ne0, zb_ne, zb_eq, zb_01, z_00, z_01, z_11, zb_f, zb_T, zb_F, zbm1, zbm2, zbm5, zbm6, zbm3, zbm4, nI_clamp, zmod_n, pk_div, nI_ne0, pk_mul, nI_add, nI_1, g]
  · intro j _ h2
    simp (disch := omega) [zs_M_lowest_1, zmeth, xm_en, zret, zretz, zretv, zseq, zst, zinc, zkl, zskip, zk, zi, za, zbin, zdiv, zrem, zgi, zgr, zld, zldr, zlen, zn, zc, zcall, zcallv, zrcv, zdo, zdov, zpf, zpfc, zas, zasc, zmin, zmax, zcmp, zcz, zand_e, zor_e, zite_e, zbite_e, zif_e, znot_e, z_add, z_sub, z_mul, z_and, z_or, z_xor, z_shl, z_shr, zcpy, -List.getElem?_cons_succ, zg_0, zg_1, zg_2, zg_3, zg_4, zg_5, zg_6, zg_7, zg_8, zg_9, zc_lt, zc_le, zc_gt, zc_ge, zc_eq, zc_ne, zc_lt0, zc_ge0, zc_gt0, zc_eq0, zc_ne0, zb_ne, zb_eq, zb_01, z_00, z_01, z_11, zb_f, zb_T, zb_F, zbm1, zbm2, zbm5, zbm6, zbm3, zbm4, nI_clamp, zmod_n, pk_div, nI_ne0, pk_mul, nI_add, nI_1]
  · have g := qM_has (M := M) (s := s) (a := zidx (fun a => s.testBit a) 0 n) hs (by omega)
    rw [zidx_lt (p := fun a => s.testBit a) n 0 (by omega)] at g
    simp (disch := omega) [zc_M_lowest_1, zmeth, xm_en, zret, zretz, zretv, zseq, zst, zinc, zkl, zskip, zk, zi, za, zbin, zdiv, zrem, zgi, zgr, zld, zldr, zlen, zn, zc, zcall, zcallv, zrcv, zdo, zdov, zpf, zpfc, zas, zasc, zmin, zmax, zcmp, zcz, zand_e, zor_e, zite_e, zbite_e, zif_e, znot_e, z_add, z_sub, z_mul, z_and, z_or, z_xor, z_shl, z_shr, zcpy, -List.getElem?_cons_succ, zg_0, zg_1, zg_2, zg_3, zg_4, zg_5, zg_6, zg_7, zg_8, zg_9, zc_lt, zc_le, zc_gt, zc_ge, zc_eq, zc_ne, zc_lt0, zc_ge0, zc_gt0, zc_eq0, zc_ne0, zb_ne, zb_eq, zb_01, z_00, z_01, z_11, zb_f, zb_T, zb_F, zbm1, zbm2, zbm5, zbm6, zbm3, zbm4, nI_clamp, zmod_n, pk_div, nI_ne0, pk_mul, nI_add, nI_1, g]
theorem NP.low {M : zM} {t n h x : Nat} {c : tC} (H : NP n c h) (ht : t < 6) (hT : rT M t n c) (hx : x < n) : zf_M_lowest [.int (nI (tL n c x h))] M = some (some (nI (lb n c h x)), M) := by
  have tl := tL_lt (s := h) H.2.1 hx
  have hp := p8 H.1.1.2
  have b := H.lbP hx
  exact qM_lowest (n := n) H.1.1.2 (by omega) (show lb n c h x < n by omega)
theorem NP.named {M : zM} {t n h x : Nat} {c : tC} (H : NP n c h) (ht : t < 6) (hT : rT M t n c) (hx : x < n) : zf_M_named [.ref 32, .int (nI t), .int (nI h), .int (nI x)] M = some (some (nI (nm n c h x)), M) := by
  have h8 := H.1.1.2
  have hp := p8 h8
  have hh := H.2.2.1
  have b := H.lbP hx
  have tl := qM_timesL (s := h) ht hT h8 H.2.1 hx (by omega)
  have lo := H.low (M := M) ht hT hx
  have R := zwh_up (c := zc_M_named_1) (s := zs_M_named_1) (fun j => [some (Value.ref (32)), some (Value.int (nI t)), some (Value.int (nI h)), some (Value.int (nI x)), some (Value.int (nI (lb n c h x))), some (Value.int (nI (rk n c h j))), some (Value.int (nI j))]) (fun _ => M) (n := lb n c h x) (lb n c h x) 0 (by omega) ?_ ?_ ?_
  · have e0 : rk n c h 0 = 0 := rfl
    rw [e0] at R
    simp (disch := omega) [zf_M_named, zmeth, xm_en, zret, zretz, zretv, zseq, zst, zinc, zkl, zskip, zk, zi, za, zbin, zdiv, zrem, zgi, zgr, zld, zldr, zlen, zn, zc, zcall, zcallv, zrcv, zdo, zdov, zpf, zpfc, zas, zasc, zmin, zmax, zcmp, zcz, zand_e, zor_e, zite_e, zbite_e, zif_e, znot_e, z_add, z_sub, z_mul, z_and, z_or, z_xor, z_shl, z_shr, zcpy, -List.getElem?_cons_succ, zg_0, zg_1, zg_2, zg_3, zg_4, zg_5, zg_6, zg_7, zg_8, zg_9, zt_0, zt_12, zt_20, zt_26, zt_32, zf_0_0, zf_0_1, zf_0_2, zf_0_3, zf_0_4, zf_12_0, zf_12_1, zf_12_2, zf_12_4, zf_12_5, zf_20_1, zf_20_2, zf_20_3, zf_20_4, zf_20_6, zf_26_0, zf_26_1, zf_26_2, zf_26_3, zf_32_0, zf_32_1, zf_32_3, zf_32_4, zf_32_5, zf_32_6, tl, lo, R, nm]
  · intro j _ h2
    simp (disch := omega) [zc_M_named_1, zmeth, xm_en, zret, zretz, zretv, zseq, zst, zinc, zkl, zskip, zk, zi, za, zbin, zdiv, zrem, zgi, zgr, zld, zldr, zlen, zn, zc, zcall, zcallv, zrcv, zdo, zdov, zpf, zpfc, zas, zasc, zmin, zmax, zcmp, zcz, zand_e, zor_e, zite_e, zbite_e, zif_e, znot_e, z_add, z_sub, z_mul, z_and, z_or, z_xor, z_shl, z_shr, zcpy, -List.getElem?_cons_succ, zg_0, zg_1, zg_2, zg_3, zg_4, zg_5, zg_6, zg_7, zg_8, zg_9, zc_lt, zc_le, zc_gt, zc_ge, zc_eq, zc_ne, zc_lt0, zc_ge0, zc_gt0, zc_eq0, zc_ne0, zb_ne, zb_eq, zb_01, z_00, z_01, z_11, zb_f, zb_T, zb_F, zbm1, zbm2, zbm5, zbm6, zbm3, zbm4, nI_clamp, zmod_n, pk_div, nI_ne0, pk_mul, nI_add, nI_1, h2]
  · intro j _ h2
    have tl2 := qM_timesL (s := h) (x := j) ht hT h8 H.2.1 (by omega) (by omega)
    have lo2 := H.low (M := M) (x := j) ht hT (by omega)
    have b2 := H.lbP (x := j) (by omega)
    by_cases ej : lb n c h j = j
    · have es : rk n c h (j + 1) = rk n c h j + 1 := by rw [rk_s, if_pos ej]
      rw [ej] at lo2
      simp (disch := omega) [zs_M_named_1, zmeth, xm_en, zret, zretz, zretv, zseq, zst, zinc, zkl, zskip, zk, zi, za, zbin, zdiv, zrem, zgi, zgr, zld, zldr, zlen, zn, zc, zcall, zcallv, zrcv, zdo, zdov, zpf, zpfc, zas, zasc, zmin, zmax, zcmp, zcz, zand_e, zor_e, zite_e, zbite_e, zif_e, znot_e, z_add, z_sub, z_mul, z_and, z_or, z_xor, z_shl, z_shr, zcpy, -List.getElem?_cons_succ, zg_0, zg_1, zg_2, zg_3, zg_4, zg_5, zg_6, zg_7, zg_8, zg_9, zc_lt, zc_le, zc_gt, zc_ge, zc_eq, zc_ne, zc_lt0, zc_ge0, zc_gt0, zc_eq0, zc_ne0, zb_ne, zb_eq, zb_01, z_00, z_01, z_11, zb_f, zb_T, zb_F, zbm1, zbm2, zbm5, zbm6, zbm3, zbm4, nI_clamp, zmod_n, pk_div, nI_ne0, pk_mul, nI_add, nI_1, zt_0, zt_12, zt_20, zt_26, zt_32, zf_0_0, zf_0_1, zf_0_2, zf_0_3, zf_0_4, zf_12_0, zf_12_1, zf_12_2, zf_12_4, zf_12_5, zf_20_1, zf_20_2, zf_20_3, zf_20_4, zf_20_6, zf_26_0, zf_26_1, zf_26_2, zf_26_3, zf_32_0, zf_32_1, zf_32_3, zf_32_4, zf_32_5, zf_32_6, tl2, lo2, es]
    · have es : rk n c h (j + 1) = rk n c h j := by rw [rk_s, if_neg ej, Nat.add_zero]
      simp (disch := omega) [zs_M_named_1, zmeth, xm_en, zret, zretz, zretv, zseq, zst, zinc, zkl, zskip, zk, zi, za, zbin, zdiv, zrem, zgi, zgr, zld, zldr, zlen, zn, zc, zcall, zcallv, zrcv, zdo, zdov, zpf, zpfc, zas, zasc, zmin, zmax, zcmp, zcz, zand_e, zor_e, zite_e, zbite_e, zif_e, znot_e, z_add, z_sub, z_mul, z_and, z_or, z_xor, z_shl, z_shr, zcpy, -List.getElem?_cons_succ, zg_0, zg_1, zg_2, zg_3, zg_4, zg_5, zg_6, zg_7, zg_8, zg_9, zc_lt, zc_le, zc_gt, zc_ge, zc_eq, zc_ne, zc_lt0, zc_ge0, zc_gt0, zc_eq0, zc_ne0, zb_ne, zb_eq, zb_01, z_00, z_01, z_11, zb_f, zb_T, zb_F, zbm1, zbm2, zbm5, zbm6, zbm3, zbm4, nI_clamp, zmod_n, pk_div, nI_ne0, pk_mul, nI_add, nI_1, zt_0, zt_12, zt_20, zt_26, zt_32, zf_0_0, zf_0_1, zf_0_2, zf_0_3, zf_0_4, zf_12_0, zf_12_1, zf_12_2, zf_12_4, zf_12_5, zf_20_1, zf_20_2, zf_20_3, zf_20_4, zf_20_6, zf_26_0, zf_26_1, zf_26_2, zf_26_3, zf_32_0, zf_32_1, zf_32_3, zf_32_4, zf_32_5, zf_32_6, tl2, lo2, es, ej]
  · simp (disch := omega) [zc_M_named_1, zmeth, xm_en, zret, zretz, zretv, zseq, zst, zinc, zkl, zskip, zk, zi, za, zbin, zdiv, zrem, zgi, zgr, zld, zldr, zlen, zn, zc, zcall, zcallv, zrcv, zdo, zdov, zpf, zpfc, zas, zasc, zmin, zmax, zcmp, zcz, zand_e, zor_e, zite_e, zbite_e, zif_e, znot_e, z_add, z_sub, z_mul, z_and, z_or, z_xor, z_shl, z_shr, zcpy, -List.getElem?_cons_succ, zg_0, zg_1, zg_2, zg_3, zg_4, zg_5, zg_6, zg_7, zg_8, zg_9, zc_lt, zc_le, zc_gt, zc_ge, zc_eq, zc_ne, zc_lt0, zc_ge0, zc_gt0, zc_eq0, zc_ne0, zb_ne, zb_eq, zb_01, z_00, z_01, z_11, zb_f, zb_T, zb_F, zbm1, zbm2, zbm5, zbm6, zbm3, zbm4, nI_clamp, zmod_n, pk_div, nI_ne0, pk_mul, nI_add, nI_1]
theorem NP.cnt {M : zM} {s t n h : Nat} {c : tC} (H : NP n c h) (ht : t < 6) (hT : rT M t n c) : zwh zc_M_left_1 zs_M_left_1 [some (Value.ref (32)), some (Value.int (nI s)), some (Value.int (nI t)), some (Value.int (nI h)), some (Value.int (nI 0)), some (Value.int (nI 0)), none] M = some (none, [some (Value.ref (32)), some (Value.int (nI s)), some (Value.int (nI t)), some (Value.int (nI h)), some (Value.int (nI (rk n c h n))), some (Value.int (nI n)), none], M) := by
  have h8 := H.1.1.2
  have R := zwh_up (c := zc_M_left_1) (s := zs_M_left_1) (fun j => [some (Value.ref (32)), some (Value.int (nI s)), some (Value.int (nI t)), some (Value.int (nI h)), some (Value.int (nI (rk n c h j))), some (Value.int (nI j)), none]) (fun _ => M) (n := n) n 0 (by omega) ?_ ?_ ?_
  · exact R
  · intro j _ h2
    simp (disch := omega) [zc_M_left_1, zmeth, xm_en, zret, zretz, zretv, zseq, zst, zinc, zkl, zskip, zk, zi, za, zbin, zdiv, zrem, zgi, zgr, zld, zldr, zlen, zn, zc, zcall, zcallv, zrcv, zdo, zdov, zpf, zpfc, zas, zasc, zmin, zmax, zcmp, zcz, zand_e, zor_e, zite_e, zbite_e, zif_e, znot_e, z_add, z_sub, z_mul, z_and, z_or, z_xor, z_shl, z_shr, zcpy, -List.getElem?_cons_succ, zg_0, zg_1, zg_2, zg_3, zg_4, zg_5, zg_6, zg_7, zg_8, zg_9, zc_lt, zc_le, zc_gt, zc_ge, zc_eq, zc_ne, zc_lt0, zc_ge0, zc_gt0, zc_eq0, zc_ne0, zb_ne, zb_eq, zb_01, z_00, z_01, z_11, zb_f, zb_T, zb_F, zbm1, zbm2, zbm5, zbm6, zbm3, zbm4, nI_clamp, zmod_n, pk_div, nI_ne0, pk_mul, nI_add, nI_1, zt_0, zt_12, zt_20, zt_26, zt_32, zf_0_0, zf_0_1, zf_0_2, zf_0_3, zf_0_4, zf_12_0, zf_12_1, zf_12_2, zf_12_4, zf_12_5, zf_20_1, zf_20_2, zf_20_3, zf_20_4, zf_20_6, zf_26_0, zf_26_1, zf_26_2, zf_26_3, zf_32_0, zf_32_1, zf_32_3, zf_32_4, zf_32_5, zf_32_6, zi_33, hT.1, h2]
  · intro j _ h2
    have na := H.named (M := M) ht hT h2
    have b := H.lbP h2
    have r1 := rk_le n c h j
    have r2 := rk_le n c h (lb n c h j)
    by_cases ej : lb n c h j = j
    · have es : rk n c h (j + 1) = rk n c h j + 1 := by rw [rk_s, if_pos ej]
      have en : nm n c h j = rk n c h j := by unfold nm; rw [ej]
      rw [en] at na
      simp (disch := omega) [zs_M_left_1, zmeth, xm_en, zret, zretz, zretv, zseq, zst, zinc, zkl, zskip, zk, zi, za, zbin, zdiv, zrem, zgi, zgr, zld, zldr, zlen, zn, zc, zcall, zcallv, zrcv, zdo, zdov, zpf, zpfc, zas, zasc, zmin, zmax, zcmp, zcz, zand_e, zor_e, zite_e, zbite_e, zif_e, znot_e, z_add, z_sub, z_mul, z_and, z_or, z_xor, z_shl, z_shr, zcpy, -List.getElem?_cons_succ, zg_0, zg_1, zg_2, zg_3, zg_4, zg_5, zg_6, zg_7, zg_8, zg_9, zc_lt, zc_le, zc_gt, zc_ge, zc_eq, zc_ne, zc_lt0, zc_ge0, zc_gt0, zc_eq0, zc_ne0, zb_ne, zb_eq, zb_01, z_00, z_01, z_11, zb_f, zb_T, zb_F, zbm1, zbm2, zbm5, zbm6, zbm3, zbm4, nI_clamp, zmod_n, pk_div, nI_ne0, pk_mul, nI_add, nI_1, zt_0, zt_12, zt_20, zt_26, zt_32, zf_0_0, zf_0_1, zf_0_2, zf_0_3, zf_0_4, zf_12_0, zf_12_1, zf_12_2, zf_12_4, zf_12_5, zf_20_1, zf_20_2, zf_20_3, zf_20_4, zf_20_6, zf_26_0, zf_26_1, zf_26_2, zf_26_3, zf_32_0, zf_32_1, zf_32_3, zf_32_4, zf_32_5, zf_32_6, na, es]
    · have es : rk n c h (j + 1) = rk n c h j := by rw [rk_s, if_neg ej, Nat.add_zero]
      have en : nm n c h j < rk n c h j := rk_lt (by omega) b.2.2.2
      have en2 : ¬ nm n c h j = rk n c h j := by omega
      simp (disch := omega) [zs_M_left_1, zmeth, xm_en, zret, zretz, zretv, zseq, zst, zinc, zkl, zskip, zk, zi, za, zbin, zdiv, zrem, zgi, zgr, zld, zldr, zlen, zn, zc, zcall, zcallv, zrcv, zdo, zdov, zpf, zpfc, zas, zasc, zmin, zmax, zcmp, zcz, zand_e, zor_e, zite_e, zbite_e, zif_e, znot_e, z_add, z_sub, z_mul, z_and, z_or, z_xor, z_shl, z_shr, zcpy, -List.getElem?_cons_succ, zg_0, zg_1, zg_2, zg_3, zg_4, zg_5, zg_6, zg_7, zg_8, zg_9, zc_lt, zc_le, zc_gt, zc_ge, zc_eq, zc_ne, zc_lt0, zc_ge0, zc_gt0, zc_eq0, zc_ne0, zb_ne, zb_eq, zb_01, z_00, z_01, z_11, zb_f, zb_T, zb_F, zbm1, zbm2, zbm5, zbm6, zbm3, zbm4, nI_clamp, zmod_n, pk_div, nI_ne0, pk_mul, nI_add, nI_1, zt_0, zt_12, zt_20, zt_26, zt_32, zf_0_0, zf_0_1, zf_0_2, zf_0_3, zf_0_4, zf_12_0, zf_12_1, zf_12_2, zf_12_4, zf_12_5, zf_20_1, zf_20_2, zf_20_3, zf_20_4, zf_20_6, zf_26_0, zf_26_1, zf_26_2, zf_26_3, zf_32_0, zf_32_1, zf_32_3, zf_32_4, zf_32_5, zf_32_6, na, es, en2]
  · simp (disch := omega) [zc_M_left_1, zmeth, xm_en, zret, zretz, zretv, zseq, zst, zinc, zkl, zskip, zk, zi, za, zbin, zdiv, zrem, zgi, zgr, zld, zldr, zlen, zn, zc, zcall, zcallv, zrcv, zdo, zdov, zpf, zpfc, zas, zasc, zmin, zmax, zcmp, zcz, zand_e, zor_e, zite_e, zbite_e, zif_e, znot_e, z_add, z_sub, z_mul, z_and, z_or, z_xor, z_shl, z_shr, zcpy, -List.getElem?_cons_succ, zg_0, zg_1, zg_2, zg_3, zg_4, zg_5, zg_6, zg_7, zg_8, zg_9, zc_lt, zc_le, zc_gt, zc_ge, zc_eq, zc_ne, zc_lt0, zc_ge0, zc_gt0, zc_eq0, zc_ne0, zb_ne, zb_eq, zb_01, z_00, z_01, z_11, zb_f, zb_T, zb_F, zbm1, zbm2, zbm5, zbm6, zbm3, zbm4, nI_clamp, zmod_n, pk_div, nI_ne0, pk_mul, nI_add, nI_1, zt_0, zt_12, zt_20, zt_26, zt_32, zf_0_0, zf_0_1, zf_0_2, zf_0_3, zf_0_4, zf_12_0, zf_12_1, zf_12_2, zf_12_4, zf_12_5, zf_20_1, zf_20_2, zf_20_3, zf_20_4, zf_20_6, zf_26_0, zf_26_1, zf_26_2, zf_26_3, zf_32_0, zf_32_1, zf_32_3, zf_32_4, zf_32_5, zf_32_6, zi_33, hT.1]
theorem zft_get {M : zM} {t n a b i j : Nat} {c : tC} (h8 : n ≤ 8) (hj : j < n) (hi : i < 8) (h : i < a ∨ (i = a ∧ j < b)) : zft M t n c a b 34 (64 * t + 8 * i + j) = zcl (-4) (c i j) := by
  unfold zft
  have e1 : (64 * t + 8 * i + j - 64 * t) / 8 = i := by omega
  have e2 : (64 * t + 8 * i + j - 64 * t) % 8 = j := by omega
  rw [e1, e2, if_pos (by omega)]
theorem NP.put {M : zM} {s t n h x : Nat} {c : tC} (H : NP n c h) (ht : t < 4) (hT : rT M t n c) (hx : x < n) : zwh zc_M_left_3 zs_M_left_3 [some (Value.ref (32)), some (Value.int (nI s)), some (Value.int (nI t)), some (Value.int (nI h)), some (Value.int (nI (rk n c h n))), some (Value.int (nI x)), some (Value.int (nI 0))] (zft M 4 (rk n c h n) (tQ n c h) (rk n c h x) 0) = some (none, [some (Value.ref (32)), some (Value.int (nI s)), some (Value.int (nI t)), some (Value.int (nI h)), some (Value.int (nI (rk n c h n))), some (Value.int (nI x)), some (Value.int (nI n))], zft M 4 (rk n c h n) (tQ n c h) (rk n c h (x + 1)) 0) := by
  have h8 := H.1.1.2
  have h6 : t < 6 := by omega
  have r8 := H.tOP.1.2
  have hr : ∀ a b, rT (zft M 4 (rk n c h n) (tQ n c h) a b) t n c := fun a b => rT_ft ht h8 hT
  have bx := H.lbP hx
  have nx := H.nm_lt hx
  have step : ∀ (a b b2 j : Nat), j < n → zup (zft M 4 (rk n c h n) (tQ n c h) a b) 34 (64 * 4 + 8 * nm n c h x + nm n c h j) (nI (tQ n c h (nm n c h x) (nm n c h j))) = zft M 4 (rk n c h n) (tQ n c h) a b2 → zs_M_left_3 [some (Value.ref (32)), some (Value.int (nI s)), some (Value.int (nI t)), some (Value.int (nI h)), some (Value.int (nI (rk n c h n))), some (Value.int (nI x)), some (Value.int (nI j))] (zft M 4 (rk n c h n) (tQ n c h) a b) = some (none, [some (Value.ref (32)), some (Value.int (nI s)), some (Value.int (nI t)), some (Value.int (nI h)), some (Value.int (nI (rk n c h n))), some (Value.int (nI x)), some (Value.int (nI (j + 1)))], zft M 4 (rk n c h n) (tQ n c h) a b2) := by
    intro a b b2 j h2 e
    have nj := H.nm_lt h2
    have n1 := H.named h6 (hr a b) hx
    have n2 := H.named h6 (hr a b) h2
    have n3 := H.named h6 (hr a b) (H.2.1 x j hx h2)
    have m := qM_mul h6 (hr a b) h8 H.2.1 hx h2
    rw [H.q hx h2] at n3
    have p := qM_puts (M := zft M 4 (rk n c h n) (tQ n c h) a b) (t := 4) (a := nm n c h x) (b := nm n c h j) (v := nI (tQ n c h (nm n c h x) (nm n c h j))) (by omega)
    rw [e] at p
    simp (disch := omega) [zs_M_left_3, zmeth, xm_en, zret, zretz, zretv, zseq, zst, zinc, zkl, zskip, zk, zi, za, zbin, zdiv, zrem, zgi, zgr, zld, zldr, zlen, zn, zc, zcall, zcallv, zrcv, zdo, zdov, zpf, zpfc, zas, zasc, zmin, zmax, zcmp, zcz, zand_e, zor_e, zite_e, zbite_e, zif_e, znot_e, z_add, z_sub, z_mul, z_and, z_or, z_xor, z_shl, z_shr, zcpy, -List.getElem?_cons_succ, zg_0, zg_1, zg_2, zg_3, zg_4, zg_5, zg_6, zg_7, zg_8, zg_9, zc_lt, zc_le, zc_gt, zc_ge, zc_eq, zc_ne, zc_lt0, zc_ge0, zc_gt0, zc_eq0, zc_ne0, zb_ne, zb_eq, zb_01, z_00, z_01, z_11, zb_f, zb_T, zb_F, zbm1, zbm2, zbm5, zbm6, zbm3, zbm4, nI_clamp, zmod_n, pk_div, nI_ne0, pk_mul, nI_add, nI_1, zt_0, zt_12, zt_20, zt_26, zt_32, zf_0_0, zf_0_1, zf_0_2, zf_0_3, zf_0_4, zf_12_0, zf_12_1, zf_12_2, zf_12_4, zf_12_5, zf_20_1, zf_20_2, zf_20_3, zf_20_4, zf_20_6, zf_26_0, zf_26_1, zf_26_2, zf_26_3, zf_32_0, zf_32_1, zf_32_3, zf_32_4, zf_32_5, zf_32_6, n1, n2, m, n3, p]
  by_cases ex : lb n c h x = x
  · have e0 : zft M 4 (rk n c h n) (tQ n c h) (rk n c h (x + 1)) 0 = zft M 4 (rk n c h n) (tQ n c h) (rk n c h x) (rk n c h n) := by rw [rk_s, if_pos ex, zft_r]
    have enx : nm n c h x = rk n c h x := by unfold nm; rw [ex]
    rw [e0]
    refine zwh_up (c := zc_M_left_3) (s := zs_M_left_3) (fun j => [some (Value.ref (32)), some (Value.int (nI s)), some (Value.int (nI t)), some (Value.int (nI h)), some (Value.int (nI (rk n c h n))), some (Value.int (nI x)), some (Value.int (nI j))]) (fun j => zft M 4 (rk n c h n) (tQ n c h) (rk n c h x) (rk n c h j)) (n := n) n 0 (by omega) ?_ ?_ ?_
    · intro j _ h2
      simp (disch := omega) [zc_M_left_3, zmeth, xm_en, zret, zretz, zretv, zseq, zst, zinc, zkl, zskip, zk, zi, za, zbin, zdiv, zrem, zgi, zgr, zld, zldr, zlen, zn, zc, zcall, zcallv, zrcv, zdo, zdov, zpf, zpfc, zas, zasc, zmin, zmax, zcmp, zcz, zand_e, zor_e, zite_e, zbite_e, zif_e, znot_e, z_add, z_sub, z_mul, z_and, z_or, z_xor, z_shl, z_shr, zcpy, -List.getElem?_cons_succ, zg_0, zg_1, zg_2, zg_3, zg_4, zg_5, zg_6, zg_7, zg_8, zg_9, zc_lt, zc_le, zc_gt, zc_ge, zc_eq, zc_ne, zc_lt0, zc_ge0, zc_gt0, zc_eq0, zc_ne0, zb_ne, zb_eq, zb_01, z_00, z_01, z_11, zb_f, zb_T, zb_F, zbm1, zbm2, zbm5, zbm6, zbm3, zbm4, nI_clamp, zmod_n, pk_div, nI_ne0, pk_mul, nI_add, nI_1, zt_0, zt_12, zt_20, zt_26, zt_32, zf_0_0, zf_0_1, zf_0_2, zf_0_3, zf_0_4, zf_12_0, zf_12_1, zf_12_2, zf_12_4, zf_12_5, zf_20_1, zf_20_2, zf_20_3, zf_20_4, zf_20_6, zf_26_0, zf_26_1, zf_26_2, zf_26_3, zf_32_0, zf_32_1, zf_32_3, zf_32_4, zf_32_5, zf_32_6, zi_33, (hr _ _).1, h2]
    · intro j _ h2
      refine step _ _ _ j h2 ?_
      have nj := H.nm_lt h2
      have bj := H.lbP h2
      have ql := H.tFP _ _ nx nj
      rw [enx] at ql nx ⊢
      by_cases ej : lb n c h j = j
      · have es : rk n c h (j + 1) = rk n c h j + 1 := by rw [rk_s, if_pos ej]
        have enj : nm n c h j = rk n c h j := by unfold nm; rw [ej]
        rw [enj] at ql nj ⊢
        rw [es, ← zft_s r8 (show rk n c h x < 8 by omega) nj, zcl_lt (show tQ n c h (rk n c h x) (rk n c h j) < 8 by omega)]
      · have es : rk n c h (j + 1) = rk n c h j := by rw [rk_s, if_neg ej, Nat.add_zero]
        have enj : nm n c h j < rk n c h j := rk_lt (by omega) bj.2.2.2
        rw [es]
        refine zup_id ?_
        rw [zft_get r8 nj (by omega) (Or.inr ⟨rfl, enj⟩), zcl_lt (by omega)]
    · simp (disch := omega) [zc_M_left_3, zmeth, xm_en, zret, zretz, zretv, zseq, zst, zinc, zkl, zskip, zk, zi, za, zbin, zdiv, zrem, zgi, zgr, zld, zldr, zlen, zn, zc, zcall, zcallv, zrcv, zdo, zdov, zpf, zpfc, zas, zasc, zmin, zmax, zcmp, zcz, zand_e, zor_e, zite_e, zbite_e, zif_e, znot_e, z_add, z_sub, z_mul, z_and, z_or, z_xor, z_shl, z_shr, zcpy, -List.getElem?_cons_succ, zg_0, zg_1, zg_2, zg_3, zg_4, zg_5, zg_6, zg_7, zg_8, zg_9, zc_lt, zc_le, zc_gt, zc_ge, zc_eq, zc_ne, zc_lt0, zc_ge0, zc_gt0, zc_eq0, zc_ne0, zb_ne, zb_eq, zb_01, z_00, z_01, z_11, zb_f, zb_T, zb_F, zbm1, zbm2, zbm5, zbm6, zbm3, zbm4, nI_clamp, zmod_n, pk_div, nI_ne0, pk_mul, nI_add, nI_1, zt_0, zt_12, zt_20, zt_26, zt_32, zf_0_0, zf_0_1, zf_0_2, zf_0_3, zf_0_4, zf_12_0, zf_12_1, zf_12_2, zf_12_4, zf_12_5, zf_20_1, zf_20_2, zf_20_3, zf_20_4, zf_20_6, zf_26_0, zf_26_1, zf_26_2, zf_26_3, zf_32_0, zf_32_1, zf_32_3, zf_32_4, zf_32_5, zf_32_6, zi_33, (hr _ _).1]
  · have e0 : rk n c h (x + 1) = rk n c h x := by rw [rk_s, if_neg ex, Nat.add_zero]
    have enx : nm n c h x < rk n c h x := rk_lt (by omega) bx.2.2.2
    rw [e0]
    refine zwh_up (c := zc_M_left_3) (s := zs_M_left_3) (fun j => [some (Value.ref (32)), some (Value.int (nI s)), some (Value.int (nI t)), some (Value.int (nI h)), some (Value.int (nI (rk n c h n))), some (Value.int (nI x)), some (Value.int (nI j))]) (fun j => zft M 4 (rk n c h n) (tQ n c h) (rk n c h x) 0) (n := n) n 0 (by omega) ?_ ?_ ?_
    · intro j _ h2
      simp (disch := omega) [zc_M_left_3, zmeth, xm_en, zret, zretz, zretv, zseq, zst, zinc, zkl, zskip, zk, zi, za, zbin, zdiv, zrem, zgi, zgr, zld, zldr, zlen, zn, zc, zcall, zcallv, zrcv, zdo, zdov, zpf, zpfc, zas, zasc, zmin, zmax, zcmp, zcz, zand_e, zor_e, zite_e, zbite_e, zif_e, znot_e, z_add, z_sub, z_mul, z_and, z_or, z_xor, z_shl, z_shr, zcpy, -List.getElem?_cons_succ, zg_0, zg_1, zg_2, zg_3, zg_4, zg_5, zg_6, zg_7, zg_8, zg_9, zc_lt, zc_le, zc_gt, zc_ge, zc_eq, zc_ne, zc_lt0, zc_ge0, zc_gt0, zc_eq0, zc_ne0, zb_ne, zb_eq, zb_01, z_00, z_01, z_11, zb_f, zb_T, zb_F, zbm1, zbm2, zbm5, zbm6, zbm3, zbm4, nI_clamp, zmod_n, pk_div, nI_ne0, pk_mul, nI_add, nI_1, zt_0, zt_12, zt_20, zt_26, zt_32, zf_0_0, zf_0_1, zf_0_2, zf_0_3, zf_0_4, zf_12_0, zf_12_1, zf_12_2, zf_12_4, zf_12_5, zf_20_1, zf_20_2, zf_20_3, zf_20_4, zf_20_6, zf_26_0, zf_26_1, zf_26_2, zf_26_3, zf_32_0, zf_32_1, zf_32_3, zf_32_4, zf_32_5, zf_32_6, zi_33, (hr _ _).1, h2]
    · intro j _ h2
      refine step _ _ _ j h2 (zup_id ?_)
      have nj := H.nm_lt h2
      have ql := H.tFP _ _ nx nj
      rw [zft_get r8 nj (by omega) (Or.inl enx), zcl_lt (by omega)]
    · simp (disch := omega) [zc_M_left_3, zmeth, xm_en, zret, zretz, zretv, zseq, zst, zinc, zkl, zskip, zk, zi, za, zbin, zdiv, zrem, zgi, zgr, zld, zldr, zlen, zn, zc, zcall, zcallv, zrcv, zdo, zdov, zpf, zpfc, zas, zasc, zmin, zmax, zcmp, zcz, zand_e, zor_e, zite_e, zbite_e, zif_e, znot_e, z_add, z_sub, z_mul, z_and, z_or, z_xor, z_shl, z_shr, zcpy, -List.getElem?_cons_succ, zg_0, zg_1, zg_2, zg_3, zg_4, zg_5, zg_6, zg_7, zg_8, zg_9, zc_lt, zc_le, zc_gt, zc_ge, zc_eq, zc_ne, zc_lt0, zc_ge0, zc_gt0, zc_eq0, zc_ne0, zb_ne, zb_eq, zb_01, z_00, z_01, z_11, zb_f, zb_T, zb_F, zbm1, zbm2, zbm5, zbm6, zbm3, zbm4, nI_clamp, zmod_n, pk_div, nI_ne0, pk_mul, nI_add, nI_1, zt_0, zt_12, zt_20, zt_26, zt_32, zf_0_0, zf_0_1, zf_0_2, zf_0_3, zf_0_4, zf_12_0, zf_12_1, zf_12_2, zf_12_4, zf_12_5, zf_20_1, zf_20_2, zf_20_3, zf_20_4, zf_20_6, zf_26_0, zf_26_1, zf_26_2, zf_26_3, zf_32_0, zf_32_1, zf_32_3, zf_32_4, zf_32_5, zf_32_6, zi_33, (hr _ _).1]
theorem qM_left {T : tS} {M : zM} (x y z : Int32) (hR : RS T M) (hT : TO T) : ∃ M', zf_M_left [.ref 32, .int x, .int y, .int z] M = some (some (aL T x y z), M') ∧ RS (sL T x y z) M' ∧ TO (sL T x y z) ∧ zlo M M' := by
  have bad : ∀ x y z, okL T x y z = false → RS (sL T x y z) M ∧ TO (sL T x y z) ∧ zlo M M := fun x y z h => ⟨by simpa [sL, h] using hR, by simpa [sL, h] using hT, zlo.refl M⟩
  rcases z3 x (n := 4) (by decide) with h | ⟨s, hs, rfl⟩
  · refine ⟨M, ?_, bad _ _ _ (by simp [okL, h])⟩
    simp [zf_M_left, zmeth, xm_en, zret, zretz, zretv, zseq, zst, zinc, zkl, zskip, zk, zi, za, zbin, zdiv, zrem, zgi, zgr, zld, zldr, zlen, zn, zc, zcall, zcallv, zrcv, zdo, zdov, zpf, zpfc, zas, zasc, zmin, zmax, zcmp, zcz, zand_e, zor_e, zite_e, zbite_e, zif_e, znot_e, z_add, z_sub, z_mul, z_and, z_or, z_xor, z_shl, z_shr, zcpy, -List.getElem?_cons_succ, zg_0, zg_1, zg_2, zg_3, zg_4, zg_5, zg_6, zg_7, zg_8, zg_9, qM_isTable, zb_ne, h, aL]
  · have e := zlt_y hs (by decide)
    rcases z3 y (n := 4) (by decide) with h | ⟨t, ht, rfl⟩
    · refine ⟨M, ?_, bad _ _ _ (by simp [okL, okP, h])⟩
      simp [zf_M_left, zmeth, xm_en, zret, zretz, zretv, zseq, zst, zinc, zkl, zskip, zk, zi, za, zbin, zdiv, zrem, zgi, zgr, zld, zldr, zlen, zn, zc, zcall, zcallv, zrcv, zdo, zdov, zpf, zpfc, zas, zasc, zmin, zmax, zcmp, zcz, zand_e, zor_e, zite_e, zbite_e, zif_e, znot_e, z_add, z_sub, z_mul, z_and, z_or, z_xor, z_shl, z_shr, zcpy, -List.getElem?_cons_succ, zg_0, zg_1, zg_2, zg_3, zg_4, zg_5, zg_6, zg_7, zg_8, zg_9, qM_isTable, zb_ne, e, h, aL]
    · have e2 := zlt_y ht (by decide)
      have ct : (nI t).toNatClampNeg = t := nI_clamp (by omega)
      have cs : (nI s).toNatClampNeg = s := nI_clamp (by omega)
      have h8 := (hT t ht).1.2
      have h6 : t < 6 := by omega
      have hp := p31 h8
      have i1 := qM_isSet (x := z) hR hT ht
      cases hs2 : zlt z (2 ^ (T t).1) with
      | false =>
        rw [hs2] at i1
        refine ⟨M, ?_, bad _ _ _ (by simp [okL, okP, ct, hs2])⟩
        simp (disch := omega) [zf_M_left, zmeth, xm_en, zret, zretz, zretv, zseq, zst, zinc, zkl, zskip, zk, zi, za, zbin, zdiv, zrem, zgi, zgr, zld, zldr, zlen, zn, zc, zcall, zcallv, zrcv, zdo, zdov, zpf, zpfc, zas, zasc, zmin, zmax, zcmp, zcz, zand_e, zor_e, zite_e, zbite_e, zif_e, znot_e, z_add, z_sub, z_mul, z_and, z_or, z_xor, z_shl, z_shr, zcpy, -List.getElem?_cons_succ, zg_0, zg_1, zg_2, zg_3, zg_4, zg_5, zg_6, zg_7, zg_8, zg_9, zt_0, zt_12, zt_20, zt_26, zt_32, zf_0_0, zf_0_1, zf_0_2, zf_0_3, zf_0_4, zf_12_0, zf_12_1, zf_12_2, zf_12_4, zf_12_5, zf_20_1, zf_20_2, zf_20_3, zf_20_4, zf_20_6, zf_26_0, zf_26_1, zf_26_2, zf_26_3, zf_32_0, zf_32_1, zf_32_3, zf_32_4, zf_32_5, zf_32_6, qM_isTable, zb_ne, e, e2, aL, okP, aFault, ct, hs2, i1]
      | true =>
        rw [hs2] at i1
        obtain ⟨v, hv, rfl⟩ := zlt_t hp hs2
        have cv : (nI v).toNatClampNeg = v := nI_clamp (by omega)
        cases hb : tB (T t).1 (T t).2 with
        | false =>
          refine ⟨M, ?_, bad _ _ _ (by simp [okL, okP, ct, hb])⟩
          simp (disch := omega) [zf_M_left, zmeth, xm_en, zret, zretz, zretv, zseq, zst, zinc, zkl, zskip, zk, zi, za, zbin, zdiv, zrem, zgi, zgr, zld, zldr, zlen, zn, zc, zcall, zcallv, zrcv, zdo, zdov, zpf, zpfc, zas, zasc, zmin, zmax, zcmp, zcz, zand_e, zor_e, zite_e, zbite_e, zif_e, znot_e, z_add, z_sub, z_mul, z_and, z_or, z_xor, z_shl, z_shr, zcpy, -List.getElem?_cons_succ, zg_0, zg_1, zg_2, zg_3, zg_4, zg_5, zg_6, zg_7, zg_8, zg_9, zt_0, zt_12, zt_20, zt_26, zt_32, zf_0_0, zf_0_1, zf_0_2, zf_0_3, zf_0_4, zf_12_0, zf_12_1, zf_12_2, zf_12_4, zf_12_5, zf_20_1, zf_20_2, zf_20_3, zf_20_4, zf_20_6, zf_26_0, zf_26_1, zf_26_2, zf_26_3, zf_32_0, zf_32_1, zf_32_3, zf_32_4, zf_32_5, zf_32_6, qM_isTable, zb_ne, e, e2, aL, okP, aFault, ct, cv, hs2, i1, qM_isFull h6 (hR t ht) h8, hb]
        | true =>
          have hf := (tB_iff (hT t ht)).mp hb
          obtain ⟨c1, c2⟩ := qM_closed h6 (hR t ht) (hT t ht) hf hv
          have c3 := isP_iff (hT t ht) hf c2
          have c4 := tCl_lt (hT t ht) hf hv
          have nn := qM_isNormal h6 (hR t ht) h8 hf (show v < 2 ^ 31 by omega)
          have c5 : xe_cd .ne (nI (tCl (T t).1 (T t).2 v)) (nI v) = !isP (T t).1 (T t).2 v := by rw [zc_ne (by omega) (by omega), c3]
          cases hi : isP (T t).1 (T t).2 v with
          | false =>
            rw [hi] at c5
            refine ⟨M, ?_, bad _ _ _ (by simp [okL, okP, ct, cv, hi])⟩
            simp (disch := omega) [zf_M_left, zmeth, xm_en, zret, zretz, zretv, zseq, zst, zinc, zkl, zskip, zk, zi, za, zbin, zdiv, zrem, zgi, zgr, zld, zldr, zlen, zn, zc, zcall, zcallv, zrcv, zdo, zdov, zpf, zpfc, zas, zasc, zmin, zmax, zcmp, zcz, zand_e, zor_e, zite_e, zbite_e, zif_e, znot_e, z_add, z_sub, z_mul, z_and, z_or, z_xor, z_shl, z_shr, zcpy, -List.getElem?_cons_succ, zg_0, zg_1, zg_2, zg_3, zg_4, zg_5, zg_6, zg_7, zg_8, zg_9, zt_0, zt_12, zt_20, zt_26, zt_32, zf_0_0, zf_0_1, zf_0_2, zf_0_3, zf_0_4, zf_12_0, zf_12_1, zf_12_2, zf_12_4, zf_12_5, zf_20_1, zf_20_2, zf_20_3, zf_20_4, zf_20_6, zf_26_0, zf_26_1, zf_26_2, zf_26_3, zf_32_0, zf_32_1, zf_32_3, zf_32_4, zf_32_5, zf_32_6, qM_isTable, zb_ne, e, e2, aL, okP, aFault, ct, cv, hs2, i1, qM_isFull h6 (hR t ht) h8, hb, c1, c5, hi]
          | true =>
            rw [hi] at c5
            have hok : okP T (nI t) (nI v) = true := by simp [okP, ct, cv, e2, hs2, hb, hi]
            cases hn : tNm (T t).1 (T t).2 v with
            | false =>
              rw [hn] at nn
              have hokl : okL T (nI s) (nI t) (nI v) = false := by simp [okL, ct, cv, hn]
              refine ⟨M, ?_, bad _ _ _ hokl⟩
              simp (disch := omega) [zf_M_left, zmeth, xm_en, zret, zretz, zretv, zseq, zst, zinc, zkl, zskip, zk, zi, za, zbin, zdiv, zrem, zgi, zgr, zld, zldr, zlen, zn, zc, zcall, zcallv, zrcv, zdo, zdov, zpf, zpfc, zas, zasc, zmin, zmax, zcmp, zcz, zand_e, zor_e, zite_e, zbite_e, zif_e, znot_e, z_add, z_sub, z_mul, z_and, z_or, z_xor, z_shl, z_shr, zcpy, -List.getElem?_cons_succ, zg_0, zg_1, zg_2, zg_3, zg_4, zg_5, zg_6, zg_7, zg_8, zg_9, zt_0, zt_12, zt_20, zt_26, zt_32, zf_0_0, zf_0_1, zf_0_2, zf_0_3, zf_0_4, zf_12_0, zf_12_1, zf_12_2, zf_12_4, zf_12_5, zf_20_1, zf_20_2, zf_20_3, zf_20_4, zf_20_6, zf_26_0, zf_26_1, zf_26_2, zf_26_3, zf_32_0, zf_32_1, zf_32_3, zf_32_4, zf_32_5, zf_32_6, qM_isTable, zb_ne, e, e2, aL, hok, hokl, i1, qM_isFull h6 (hR t ht) h8, hb, c1, c5, nn]
            | true =>
              rw [hn] at nn
              have hokl : okL T (nI s) (nI t) (nI v) = true := by simp [okL, ct, cv, hn, e, hok]
              have H : NP (T t).1 (T t).2 v := ⟨hT t ht, hf, hv, hi, hn⟩
              have r8 := H.tOP.1.2
              have hr : ∀ a b, rT (zft M 4 (rk (T t).1 (T t).2 v (T t).1) (tQ (T t).1 (T t).2 v) a b) t (T t).1 (T t).2 := fun a b => rT_ft ht h8 (hR t ht)
              have R := zwh_up (c := zc_M_left_2) (s := zs_M_left_2) (fun j => [some (Value.ref (32)), some (Value.int (nI s)), some (Value.int (nI t)), some (Value.int (nI v)), some (Value.int (nI (rk (T t).1 (T t).2 v (T t).1))), some (Value.int (nI j)), none]) (fun j => zft M 4 (rk (T t).1 (T t).2 v (T t).1) (tQ (T t).1 (T t).2 v) (rk (T t).1 (T t).2 v j) 0) (n := (T t).1) (T t).1 0 (by omega) ?_ ?_ ?_
              · have r0 : rk (T t).1 (T t).2 v 0 = 0 := rfl
                rw [r0, zft_0] at R
                refine ⟨zcp (zup (zft M 4 (rk (T t).1 (T t).2 v (T t).1) (tQ (T t).1 (T t).2 v) (rk (T t).1 (T t).2 v (T t).1) 0) 33 4 (nI (rk (T t).1 (T t).2 v (T t).1))) s 4 64, ?_, ?_, ?_, ?_⟩
                · have cn := H.cnt (M := M) (s := s) h6 (hR t ht)
                  simp (disch := omega) [zf_M_left, zmeth, xm_en, zret, zretz, zretv, zseq, zst, zinc, zkl, zskip, zk, zi, za, zbin, zdiv, zrem, zgi, zgr, zld, zldr, zlen, zn, zc, zcall, zcallv, zrcv, zdo, zdov, zpf, zpfc, zas, zasc, zmin, zmax, zcmp, zcz, zand_e, zor_e, zite_e, zbite_e, zif_e, znot_e, z_add, z_sub, z_mul, z_and, z_or, z_xor, z_shl, z_shr, zcpy, -List.getElem?_cons_succ, zg_0, zg_1, zg_2, zg_3, zg_4, zg_5, zg_6, zg_7, zg_8, zg_9, zt_0, zt_12, zt_20, zt_26, zt_32, zf_0_0, zf_0_1, zf_0_2, zf_0_3, zf_0_4, zf_12_0, zf_12_1, zf_12_2, zf_12_4, zf_12_5, zf_20_1, zf_20_2, zf_20_3, zf_20_4, zf_20_6, zf_26_0, zf_26_1, zf_26_2, zf_26_3, zf_32_0, zf_32_1, zf_32_3, zf_32_4, zf_32_5, zf_32_6, qM_isTable, zb_ne, e, e2, aL, hok, hokl, ct, cv, i1, qM_isFull h6 (hR t ht) h8, hb, c1, c5, nn, cn, R, zi_33, nI_clamp, qM_copies]
                · simp only [sL, hokl, cond_true, ct, cs, cv]
                  exact RS_cp4 hT hs r8 hR zsr4 (rT4 r8)
                · simp only [sL, hokl, cond_true, ct, cs, cv]
                  exact TO_set hT H.tOP
                · exact zlo.trans (zsr4 (M := M)).lo zlo_cp
              · intro j g1 g2
                simp (disch := omega) [zc_M_left_2, zmeth, xm_en, zret, zretz, zretv, zseq, zst, zinc, zkl, zskip, zk, zi, za, zbin, zdiv, zrem, zgi, zgr, zld, zldr, zlen, zn, zc, zcall, zcallv, zrcv, zdo, zdov, zpf, zpfc, zas, zasc, zmin, zmax, zcmp, zcz, zand_e, zor_e, zite_e, zbite_e, zif_e, znot_e, z_add, z_sub, z_mul, z_and, z_or, z_xor, z_shl, z_shr, zcpy, -List.getElem?_cons_succ, zg_0, zg_1, zg_2, zg_3, zg_4, zg_5, zg_6, zg_7, zg_8, zg_9, zc_lt, zc_le, zc_gt, zc_ge, zc_eq, zc_ne, zc_lt0, zc_ge0, zc_gt0, zc_eq0, zc_ne0, zb_ne, zb_eq, zb_01, z_00, z_01, z_11, zb_f, zb_T, zb_F, zbm1, zbm2, zbm5, zbm6, zbm3, zbm4, nI_clamp, zmod_n, pk_div, nI_ne0, pk_mul, nI_add, nI_1, zt_0, zt_12, zt_20, zt_26, zt_32, zf_0_0, zf_0_1, zf_0_2, zf_0_3, zf_0_4, zf_12_0, zf_12_1, zf_12_2, zf_12_4, zf_12_5, zf_20_1, zf_20_2, zf_20_3, zf_20_4, zf_20_6, zf_26_0, zf_26_1, zf_26_2, zf_26_3, zf_32_0, zf_32_1, zf_32_3, zf_32_4, zf_32_5, zf_32_6, zi_33, (hr _ _).1, g2]
              · intro j g1 g2
                have R2 := H.put (s := s) ht (hR t ht) g2
                simp (disch := omega) [zs_M_left_2, zmeth, xm_en, zret, zretz, zretv, zseq, zst, zinc, zkl, zskip, zk, zi, za, zbin, zdiv, zrem, zgi, zgr, zld, zldr, zlen, zn, zc, zcall, zcallv, zrcv, zdo, zdov, zpf, zpfc, zas, zasc, zmin, zmax, zcmp, zcz, zand_e, zor_e, zite_e, zbite_e, zif_e, znot_e, z_add, z_sub, z_mul, z_and, z_or, z_xor, z_shl, z_shr, zcpy, -List.getElem?_cons_succ, zg_0, zg_1, zg_2, zg_3, zg_4, zg_5, zg_6, zg_7, zg_8, zg_9, zc_lt, zc_le, zc_gt, zc_ge, zc_eq, zc_ne, zc_lt0, zc_ge0, zc_gt0, zc_eq0, zc_ne0, zb_ne, zb_eq, zb_01, z_00, z_01, z_11, zb_f, zb_T, zb_F, zbm1, zbm2, zbm5, zbm6, zbm3, zbm4, nI_clamp, zmod_n, pk_div, nI_ne0, pk_mul, nI_add, nI_1, R2]
              · simp (disch := omega) [zc_M_left_2, zmeth, xm_en, zret, zretz, zretv, zseq, zst, zinc, zkl, zskip, zk, zi, za, zbin, zdiv, zrem, zgi, zgr, zld, zldr, zlen, zn, zc, zcall, zcallv, zrcv, zdo, zdov, zpf, zpfc, zas, zasc, zmin, zmax, zcmp, zcz, zand_e, zor_e, zite_e, zbite_e, zif_e, znot_e, z_add, z_sub, z_mul, z_and, z_or, z_xor, z_shl, z_shr, zcpy, -List.getElem?_cons_succ, zg_0, zg_1, zg_2, zg_3, zg_4, zg_5, zg_6, zg_7, zg_8, zg_9, zc_lt, zc_le, zc_gt, zc_ge, zc_eq, zc_ne, zc_lt0, zc_ge0, zc_gt0, zc_eq0, zc_ne0, zb_ne, zb_eq, zb_01, z_00, z_01, z_11, zb_f, zb_T, zb_F, zbm1, zbm2, zbm5, zbm6, zbm3, zbm4, nI_clamp, zmod_n, pk_div, nI_ne0, pk_mul, nI_add, nI_1, zt_0, zt_12, zt_20, zt_26, zt_32, zf_0_0, zf_0_1, zf_0_2, zf_0_3, zf_0_4, zf_12_0, zf_12_1, zf_12_2, zf_12_4, zf_12_5, zf_20_1, zf_20_2, zf_20_3, zf_20_4, zf_20_6, zf_26_0, zf_26_1, zf_26_2, zf_26_3, zf_32_0, zf_32_1, zf_32_3, zf_32_4, zf_32_5, zf_32_6, zi_33, (hr _ _).1]
