/-! group: the reference comes to its end -/
theorem gF.sr {M M' : zM} (h : gF M M') : zsr M M' := fun q j hq => h q j (by omega) (by omega) (by omega)
theorem qM_gr1 {M : zM} {t n : Nat} : ∃ M', zwh zc_M_group_1 zs_M_group_1 [some (Value.ref (32)), some (Value.int (nI t)), some (Value.int (nI n)), some (Value.int (nI 0)), none, none, none] M = some (none, [some (Value.ref (32)), some (Value.int (nI t)), some (Value.int (nI n)), some (Value.int (nI 5040)), none, none, none], M') ∧ gF M M' ∧ ∀ k, k < 5040 → M' 38 k = 0 := by
  have n0 : vp_nar .boolean (nI 0) = 0 := by decide
  obtain ⟨r, ls, M', w1, rfl, rfl, w2, w3⟩ := zwh_inv (c := zc_M_group_1) (s := zs_M_group_1) (fun j ls M' => ls = [some (Value.ref (32)), some (Value.int (nI t)), some (Value.int (nI n)), some (Value.int (nI j)), none, none, none] ∧ gF M M' ∧ ∀ k, k < j → M' 38 k = 0) (Q := fun r ls M' => r = none ∧ ls = [some (Value.ref (32)), some (Value.int (nI t)), some (Value.int (nI n)), some (Value.int (nI 5040)), none, none, none] ∧ gF M M' ∧ ∀ k, k < 5040 → M' 38 k = 0) (n := 5040) (fun ls M' q => by
      obtain ⟨rfl, q1, q2⟩ := q
      refine ⟨?_, rfl, rfl, q1, q2⟩
      simp (disch := omega) [zc_M_group_1, zmeth, xm_en, zret, zretz, zretv, zseq, zst, zinc, zkl, zskip, zk, zi, za, zbin, zdiv, zrem, zgi, zgr, zld, zldr, zlen, zn, zc, zcall, zcallv, zrcv, zdo, zdov, zpf, zpfc, zas, zasc, zmin, zmax, zcmp, zcz, zand_e, zor_e, zite_e, zbite_e, zif_e, znot_e, z_add, z_sub, z_mul, z_and, z_or, z_xor, z_shl, z_shr, zcpy, -List.getElem?_cons_succ, zg_0, zg_1, zg_2, zg_3, zg_4, zg_5, zg_6, zg_7, zg_8, zg_9, zc_lt, zc_le, zc_gt, zc_ge, zc_eq, zc_ne, zc_lt0, zc_ge0, zc_gt0, zc_eq0, zc_ne0, zb_ne, zb_eq, zb_01, z_00, z_01, z_11, zb_f, zb_T, zb_F, zbm1, zbm2, zbm5, zbm6, zbm3, zbm4, nI_clamp, zmod_n, pk_div, nI_ne0, pk_mul, nI_add, nI_1]) 5040 0 (by omega) (fun j ls M' _ hj q => by
      obtain ⟨rfl, q1, q2⟩ := q
      refine ⟨by simp (disch := omega) [zc_M_group_1, zmeth, xm_en, zret, zretz, zretv, zseq, zst, zinc, zkl, zskip, zk, zi, za, zbin, zdiv, zrem, zgi, zgr, zld, zldr, zlen, zn, zc, zcall, zcallv, zrcv, zdo, zdov, zpf, zpfc, zas, zasc, zmin, zmax, zcmp, zcz, zand_e, zor_e, zite_e, zbite_e, zif_e, znot_e, z_add, z_sub, z_mul, z_and, z_or, z_xor, z_shl, z_shr, zcpy, -List.getElem?_cons_succ, zg_0, zg_1, zg_2, zg_3, zg_4, zg_5, zg_6, zg_7, zg_8, zg_9, zc_lt, zc_le, zc_gt, zc_ge, zc_eq, zc_ne, zc_lt0, zc_ge0, zc_gt0, zc_eq0, zc_ne0, zb_ne, zb_eq, zb_01, z_00, z_01, z_11, zb_f, zb_T, zb_F, zbm1, zbm2, zbm5, zbm6, zbm3, zbm4, nI_clamp, zmod_n, pk_div, nI_ne0, pk_mul, nI_add, nI_1, hj], none, [some (Value.ref (32)), some (Value.int (nI t)), some (Value.int (nI n)), some (Value.int (nI (j + 1))), none, none, none], zup M' 38 j 0, ?_, rfl, fun q i a b c => ?_, fun k hk => ?_⟩
      · simp (disch := omega) [zs_M_group_1, zmeth, xm_en, zret, zretz, zretv, zseq, zst, zinc, zkl, zskip, zk, zi, za, zbin, zdiv, zrem, zgi, zgr, zld, zldr, zlen, zn, zc, zcall, zcallv, zrcv, zdo, zdov, zpf, zpfc, zas, zasc, zmin, zmax, zcmp, zcz, zand_e, zor_e, zite_e, zbite_e, zif_e, znot_e, z_add, z_sub, z_mul, z_and, z_or, z_xor, z_shl, z_shr, zcpy, -List.getElem?_cons_succ, zg_0, zg_1, zg_2, zg_3, zg_4, zg_5, zg_6, zg_7, zg_8, zg_9, zc_lt, zc_le, zc_gt, zc_ge, zc_eq, zc_ne, zc_lt0, zc_ge0, zc_gt0, zc_eq0, zc_ne0, zb_ne, zb_eq, zb_01, z_00, z_01, z_11, zb_f, zb_T, zb_F, zbm1, zbm2, zbm5, zbm6, zbm3, zbm4, nI_clamp, zmod_n, pk_div, nI_ne0, pk_mul, nI_add, nI_1, zt_0, zt_12, zt_20, zt_26, zt_32, zf_0_0, zf_0_1, zf_0_2, zf_0_3, zf_0_4, zf_12_0, zf_12_1, zf_12_2, zf_12_4, zf_12_5, zf_20_1, zf_20_2, zf_20_3, zf_20_4, zf_20_6, zf_26_0, zf_26_1, zf_26_2, zf_26_3, zf_32_0, zf_32_1, zf_32_3, zf_32_4, zf_32_5, zf_32_6, zi_38, n0]
      · rw [zup_e, if_neg (by omega)]
        exact q1 q i a b c
      · rw [zup_e]
        by_cases z : k = j
        · rw [if_pos ⟨rfl, z⟩]
        · rw [if_neg (by omega)]
          exact q2 k (by omega)) _ M ⟨rfl, fun _ _ _ _ _ => rfl, fun k hk => absurd hk (Nat.not_lt_zero k)⟩
  exact ⟨M', w1, w2, w3⟩
theorem qM_gr2 {M : zM} {t n : Nat} (h7 : n ≤ 7) : ∃ M', zwh zc_M_group_2 zs_M_group_2 [some (Value.ref (32)), some (Value.int (nI t)), some (Value.int (nI n)), some (Value.int (nI 0)), none, none, none] M = some (none, [some (Value.ref (32)), some (Value.int (nI t)), some (Value.int (nI n)), some (Value.int (nI n)), none, none, none], M') ∧ gF M M' ∧ IM M' n (fun i => i) ∧ ∀ k, M' 38 k = M 38 k := by
  obtain ⟨r, ls, M', w1, rfl, rfl, w2, w3, w4⟩ := zwh_inv (c := zc_M_group_2) (s := zs_M_group_2) (fun j ls M' => ls = [some (Value.ref (32)), some (Value.int (nI t)), some (Value.int (nI n)), some (Value.int (nI j)), none, none, none] ∧ gF M M' ∧ (∀ k, k < j → M' 36 k = nI k) ∧ ∀ k, M' 38 k = M 38 k) (Q := fun r ls M' => r = none ∧ ls = [some (Value.ref (32)), some (Value.int (nI t)), some (Value.int (nI n)), some (Value.int (nI n)), none, none, none] ∧ gF M M' ∧ (∀ k, k < n → M' 36 k = nI k) ∧ ∀ k, M' 38 k = M 38 k) (n := n) (fun ls M' q => by
      obtain ⟨rfl, q1, q2, q3⟩ := q
      refine ⟨?_, rfl, rfl, q1, q2, q3⟩
      simp (disch := omega) [zc_M_group_2, zmeth, xm_en, zret, zretz, zretv, zseq, zst, zinc, zkl, zskip, zk, zi, za, zbin, zdiv, zrem, zgi, zgr, zld, zldr, zlen, zn, zc, zcall, zcallv, zrcv, zdo, zdov, zpf, zpfc, zas, zasc, zmin, zmax, zcmp, zcz, zand_e, zor_e, zite_e, zbite_e, zif_e, znot_e, z_add, z_sub, z_mul, z_and, z_or, z_xor, z_shl, z_shr, zcpy, -List.getElem?_cons_succ, zg_0, zg_1, zg_2, zg_3, zg_4, zg_5, zg_6, zg_7, zg_8, zg_9, zc_lt, zc_le, zc_gt, zc_ge, zc_eq, zc_ne, zc_lt0, zc_ge0, zc_gt0, zc_eq0, zc_ne0, zb_ne, zb_eq, zb_01, z_00, z_01, z_11, zb_f, zb_T, zb_F, zbm1, zbm2, zbm5, zbm6, zbm3, zbm4, nI_clamp, zmod_n, pk_div, nI_ne0, pk_mul, nI_add, nI_1]) n 0 (by omega) (fun j ls M' _ hj q => by
      obtain ⟨rfl, q1, q2, q3⟩ := q
      refine ⟨by simp (disch := omega) [zc_M_group_2, zmeth, xm_en, zret, zretz, zretv, zseq, zst, zinc, zkl, zskip, zk, zi, za, zbin, zdiv, zrem, zgi, zgr, zld, zldr, zlen, zn, zc, zcall, zcallv, zrcv, zdo, zdov, zpf, zpfc, zas, zasc, zmin, zmax, zcmp, zcz, zand_e, zor_e, zite_e, zbite_e, zif_e, znot_e, z_add, z_sub, z_mul, z_and, z_or, z_xor, z_shl, z_shr, zcpy, -List.getElem?_cons_succ, zg_0, zg_1, zg_2, zg_3, zg_4, zg_5, zg_6, zg_7, zg_8, zg_9, zc_lt, zc_le, zc_gt, zc_ge, zc_eq, zc_ne, zc_lt0, zc_ge0, zc_gt0, zc_eq0, zc_ne0, zb_ne, zb_eq, zb_01, z_00, z_01, z_11, zb_f, zb_T, zb_F, zbm1, zbm2, zbm5, zbm6, zbm3, zbm4, nI_clamp, zmod_n, pk_div, nI_ne0, pk_mul, nI_add, nI_1, hj], none, [some (Value.ref (32)), some (Value.int (nI t)), some (Value.int (nI n)), some (Value.int (nI (j + 1))), none, none, none], zup M' 36 j (nI j), ?_, rfl, fun q i a b c => ?_, fun k hk => ?_, fun k => ?_⟩
      · simp (disch := omega) [zs_M_group_2, zmeth, xm_en, zret, zretz, zretv, zseq, zst, zinc, zkl, zskip, zk, zi, za, zbin, zdiv, zrem, zgi, zgr, zld, zldr, zlen, zn, zc, zcall, zcallv, zrcv, zdo, zdov, zpf, zpfc, zas, zasc, zmin, zmax, zcmp, zcz, zand_e, zor_e, zite_e, zbite_e, zif_e, znot_e, z_add, z_sub, z_mul, z_and, z_or, z_xor, z_shl, z_shr, zcpy, -List.getElem?_cons_succ, zg_0, zg_1, zg_2, zg_3, zg_4, zg_5, zg_6, zg_7, zg_8, zg_9, zc_lt, zc_le, zc_gt, zc_ge, zc_eq, zc_ne, zc_lt0, zc_ge0, zc_gt0, zc_eq0, zc_ne0, zb_ne, zb_eq, zb_01, z_00, z_01, z_11, zb_f, zb_T, zb_F, zbm1, zbm2, zbm5, zbm6, zbm3, zbm4, nI_clamp, zmod_n, pk_div, nI_ne0, pk_mul, nI_add, nI_1, zt_0, zt_12, zt_20, zt_26, zt_32, zf_0_0, zf_0_1, zf_0_2, zf_0_3, zf_0_4, zf_12_0, zf_12_1, zf_12_2, zf_12_4, zf_12_5, zf_20_1, zf_20_2, zf_20_3, zf_20_4, zf_20_6, zf_26_0, zf_26_1, zf_26_2, zf_26_3, zf_32_0, zf_32_1, zf_32_3, zf_32_4, zf_32_5, zf_32_6, zi_36]
      · rw [zup_e, if_neg (by omega)]
        exact q1 q i a b c
      · rw [zup_e]
        by_cases z : k = j
        · rw [if_pos ⟨rfl, z⟩, z]
        · rw [if_neg (by omega)]
          exact q2 k (by omega)
      · rw [zup_e, if_neg (by omega)]
        exact q3 k) _ M ⟨rfl, fun _ _ _ _ _ => rfl, fun k hk => absurd hk (Nat.not_lt_zero k), fun _ => rfl⟩
  exact ⟨M', w1, w2, fun i hi => ⟨w3 i hi, hi⟩, w4⟩
theorem qM_group {T : tS} {M : zM} (x : Int32) (hR : RS T M) (hT : TO T) : ∃ r M', zf_M_group [.ref 32, .int x] M = some (some r, M') ∧ zsr M M' := by
  rcases z3 x (n := 4) (by decide) with h | ⟨t, ht, rfl⟩
  · refine ⟨-1, M, ?_, zsr.refl M⟩
    simp [zf_M_group, zmeth, xm_en, zret, zretz, zretv, zseq, zst, zinc, zkl, zskip, zk, zi, za, zbin, zdiv, zrem, zgi, zgr, zld, zldr, zlen, zn, zc, zcall, zcallv, zrcv, zdo, zdov, zpf, zpfc, zas, zasc, zmin, zmax, zcmp, zcz, zand_e, zor_e, zite_e, zbite_e, zif_e, znot_e, z_add, z_sub, z_mul, z_and, z_or, z_xor, z_shl, z_shr, zcpy, -List.getElem?_cons_succ, zg_0, zg_1, zg_2, zg_3, zg_4, zg_5, zg_6, zg_7, zg_8, zg_9, qM_isTable, zb_ne, h]
  · have e := zlt_y ht (by decide)
    have ct : (nI t).toNatClampNeg = t := nI_clamp (by omega)
    have h8 := (hT t ht).1.2
    have h6 : t < 6 := by omega
    cases hb : tB (T t).1 (T t).2 with
    | false =>
      refine ⟨-2, M, ?_, zsr.refl M⟩
      simp (disch := omega) [zf_M_group, zmeth, xm_en, zret, zretz, zretv, zseq, zst, zinc, zkl, zskip, zk, zi, za, zbin, zdiv, zrem, zgi, zgr, zld, zldr, zlen, zn, zc, zcall, zcallv, zrcv, zdo, zdov, zpf, zpfc, zas, zasc, zmin, zmax, zcmp, zcz, zand_e, zor_e, zite_e, zbite_e, zif_e, znot_e, z_add, z_sub, z_mul, z_and, z_or, z_xor, z_shl, z_shr, zcpy, -List.getElem?_cons_succ, zg_0, zg_1, zg_2, zg_3, zg_4, zg_5, zg_6, zg_7, zg_8, zg_9, zt_0, zt_12, zt_20, zt_26, zt_32, zf_0_0, zf_0_1, zf_0_2, zf_0_3, zf_0_4, zf_12_0, zf_12_1, zf_12_2, zf_12_4, zf_12_5, zf_20_1, zf_20_2, zf_20_3, zf_20_4, zf_20_6, zf_26_0, zf_26_1, zf_26_2, zf_26_3, zf_32_0, zf_32_1, zf_32_3, zf_32_4, zf_32_5, zf_32_6, qM_isTable, zb_ne, e, qM_isFull h6 (hR t ht) h8, hb]
    | true =>
      by_cases h7 : 7 < (T t).1
      · refine ⟨-2, M, ?_, zsr.refl M⟩
        simp (disch := omega) [zf_M_group, zmeth, xm_en, zret, zretz, zretv, zseq, zst, zinc, zkl, zskip, zk, zi, za, zbin, zdiv, zrem, zgi, zgr, zld, zldr, zlen, zn, zc, zcall, zcallv, zrcv, zdo, zdov, zpf, zpfc, zas, zasc, zmin, zmax, zcmp, zcz, zand_e, zor_e, zite_e, zbite_e, zif_e, znot_e, z_add, z_sub, z_mul, z_and, z_or, z_xor, z_shl, z_shr, zcpy, -List.getElem?_cons_succ, zg_0, zg_1, zg_2, zg_3, zg_4, zg_5, zg_6, zg_7, zg_8, zg_9, zt_0, zt_12, zt_20, zt_26, zt_32, zf_0_0, zf_0_1, zf_0_2, zf_0_3, zf_0_4, zf_12_0, zf_12_1, zf_12_2, zf_12_4, zf_12_5, zf_20_1, zf_20_2, zf_20_3, zf_20_4, zf_20_6, zf_26_0, zf_26_1, zf_26_2, zf_26_3, zf_32_0, zf_32_1, zf_32_3, zf_32_4, zf_32_5, zf_32_6, qM_isTable, zb_ne, e, qM_isFull h6 (hR t ht) h8, hb, zi_33, nI_clamp, (hR t ht).1, zc_gt, h7]
      · have hf := (tB_iff (hT t ht)).mp hb
        have h7' : (T t).1 ≤ 7 := by omega
        obtain ⟨M1, e1, f1, z1⟩ := qM_gr1 (M := M) (t := t) (n := (T t).1)
        obtain ⟨M2, e2, f2, i2, s2⟩ := qM_gr2 (M := M1) (t := t) h7'
        have b2 : GB M2 (T t).1 0 := ⟨zsum_0.mpr (fun k hk => by unfold mb; rw [s2 k, z1 k hk, if_pos rfl]), fun m i hm => absurd hm (Nat.not_lt_zero m)⟩
        obtain ⟨k3, M3, e3, b3, f3, s3, l3⟩ := qM_joins h7' i2 b2
        obtain ⟨k4, M4, e4, b4, f4⟩ := qM_gr3 (t := t) h6 h7' hf 5040 0 k3 M3 (by omega) (by omega) ((f1.trans (f2.trans f3)).rT h8 (hR t ht)) b3
        refine ⟨nI k4, M4, ?_, (f1.trans (f2.trans (f3.trans f4))).sr⟩
        simp only [lsG] at e4
        simp (disch := omega) [zf_M_group, zmeth, xm_en, zret, zretz, zretv, zseq, zst, zinc, zkl, zskip, zk, zi, za, zbin, zdiv, zrem, zgi, zgr, zld, zldr, zlen, zn, zc, zcall, zcallv, zrcv, zdo, zdov, zpf, zpfc, zas, zasc, zmin, zmax, zcmp, zcz, zand_e, zor_e, zite_e, zbite_e, zif_e, znot_e, z_add, z_sub, z_mul, z_and, z_or, z_xor, z_shl, z_shr, zcpy, -List.getElem?_cons_succ, zg_0, zg_1, zg_2, zg_3, zg_4, zg_5, zg_6, zg_7, zg_8, zg_9, zt_0, zt_12, zt_20, zt_26, zt_32, zf_0_0, zf_0_1, zf_0_2, zf_0_3, zf_0_4, zf_12_0, zf_12_1, zf_12_2, zf_12_4, zf_12_5, zf_20_1, zf_20_2, zf_20_3, zf_20_4, zf_20_6, zf_26_0, zf_26_1, zf_26_2, zf_26_3, zf_32_0, zf_32_1, zf_32_3, zf_32_4, zf_32_5, zf_32_6, zc_lt, zc_le, zc_gt, zc_ge, zc_eq, zc_ne, zc_lt0, zc_ge0, zc_gt0, zc_eq0, zc_ne0, zb_ne, zb_eq, zb_01, z_00, z_01, z_11, zb_f, zb_T, zb_F, zbm1, zbm2, zbm5, zbm6, zbm3, zbm4, nI_clamp, zmod_n, pk_div, nI_ne0, pk_mul, nI_add, nI_1, qM_isTable, zb_ne, e, qM_isFull h6 (hR t ht) h8, hb, zi_33, nI_clamp, (hR t ht).1, zc_gt, h7, e1, e2, e3, e4]
