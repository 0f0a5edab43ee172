/-! square, turn -/
theorem qS_count {M : zM} {k n : Nat} {c : tC} (hk : ztb k) (h : kT M k n c) (h1n : 1 ≤ n) (h8 : n ≤ 8) (hf : tF n c) : zf_Squares_count [.ref k] M = some (some (nI (sqs n c).length), M) := by
  have R2 : ∀ a many, a < n → many + (q1 n c a).length ≤ 5000 → zsg (zwh zc_Squares_count_2 zs_Squares_count_2) [some (Value.ref (k)), some (Value.int (nI many)), some (Value.int (nI a)), some (Value.int (nI (a + 1)))] M (-1) many (q1 n c a) (fun m => [some (Value.ref (k)), some (Value.int (nI m)), some (Value.int (nI a)), some (Value.int (nI n))]) := by
    intro a many ha hm
    refine zwh_seg (K := 5000) (fun _ => True) (fun _ _ _ _ => trivial) (fun j m => [some (Value.ref (k)), some (Value.int (nI m)), some (Value.int (nI a)), some (Value.int (nI j))]) (fun e => q2 n c (512 * a + 64 * e) a e) (n := n) ?_ (n - (a + 1)) (a + 1) (by omega) ?_ ?_ many trivial hm
    · intro m _ _
      simp (disch := omega) [zc_Squares_count_2, zmeth, xm_en, zret, zretz, zretv, zseq, zst, zinc, zkl, zskip, zk, zi, za, zbin, zdiv, zrem, zgi, zgr, zld, zldr, zlen, zn, zc, zcall, zcallv, zrcv, zdo, zdov, zpf, zpfc, zas, zasc, zmin, zmax, zcmp, zcz, zand_e, zor_e, zite_e, zbite_e, zif_e, znot_e, z_add, z_sub, z_mul, z_and, z_or, z_xor, z_shl, z_shr, zcpy, -List.getElem?_cons_succ, zg_0, zg_1, zg_2, zg_3, zg_4, zg_5, zg_6, zg_7, zg_8, zg_9, zc_lt, zc_le, zc_gt, zc_ge, zc_eq, zc_ne, zc_lt0, zc_ge0, zc_gt0, zc_eq0, zc_ne0, zb_ne, zb_eq, zb_01, z_00, z_01, z_11, zb_f, zb_T, zb_F, zbm1, zbm2, zbm5, zbm6, zbm3, zbm4, nI_clamp, zmod_n, pk_div, nI_ne0, pk_mul, nI_add, nI_1, ztb_tag hk, h.1]
    · intro j m _ h2 _ _
      simp (disch := omega) [zc_Squares_count_2, zmeth, xm_en, zret, zretz, zretv, zseq, zst, zinc, zkl, zskip, zk, zi, za, zbin, zdiv, zrem, zgi, zgr, zld, zldr, zlen, zn, zc, zcall, zcallv, zrcv, zdo, zdov, zpf, zpfc, zas, zasc, zmin, zmax, zcmp, zcz, zand_e, zor_e, zite_e, zbite_e, zif_e, znot_e, z_add, z_sub, z_mul, z_and, z_or, z_xor, z_shl, z_shr, zcpy, -List.getElem?_cons_succ, zg_0, zg_1, zg_2, zg_3, zg_4, zg_5, zg_6, zg_7, zg_8, zg_9, zc_lt, zc_le, zc_gt, zc_ge, zc_eq, zc_ne, zc_lt0, zc_ge0, zc_gt0, zc_eq0, zc_ne0, zb_ne, zb_eq, zb_01, z_00, z_01, z_11, zb_f, zb_T, zb_F, zbm1, zbm2, zbm5, zbm6, zbm3, zbm4, nI_clamp, zmod_n, pk_div, nI_ne0, pk_mul, nI_add, nI_1, ztb_tag hk, h.1, h2]
    · intro j m _ h2 _ hK
      refine ⟨fun v hv => (by rw [hit_neg] at hv; cases hv), fun _ => ?_⟩
      have cr := qS_countInRows hk h h1n h8 hf ha h2
      have el : (q2 n c (512 * a + 64 * j) a j).length = (q2 n c 0 a j).length := by rw [q2_map, List.length_map]
      rw [el]
      simp (disch := omega) [zs_Squares_count_2, zmeth, xm_en, zret, zretz, zretv, zseq, zst, zinc, zkl, zskip, zk, zi, za, zbin, zdiv, zrem, zgi, zgr, zld, zldr, zlen, zn, zc, zcall, zcallv, zrcv, zdo, zdov, zpf, zpfc, zas, zasc, zmin, zmax, zcmp, zcz, zand_e, zor_e, zite_e, zbite_e, zif_e, znot_e, z_add, z_sub, z_mul, z_and, z_or, z_xor, z_shl, z_shr, zcpy, -List.getElem?_cons_succ, zg_0, zg_1, zg_2, zg_3, zg_4, zg_5, zg_6, zg_7, zg_8, zg_9, zc_lt, zc_le, zc_gt, zc_ge, zc_eq, zc_ne, zc_lt0, zc_ge0, zc_gt0, zc_eq0, zc_ne0, zb_ne, zb_eq, zb_01, z_00, z_01, z_11, zb_f, zb_T, zb_F, zbm1, zbm2, zbm5, zbm6, zbm3, zbm4, nI_clamp, zmod_n, pk_div, nI_ne0, pk_mul, nI_add, nI_1, cr]
  have R : zsg (zwh zc_Squares_count_1 zs_Squares_count_1) [some (Value.ref (k)), some (Value.int (nI 0)), some (Value.int (nI 1)), none] M (-1) 0 (sqs n c) (fun m => [some (Value.ref (k)), some (Value.int (nI m)), some (Value.int (nI n)), none]) := by
    refine zwh_seg (K := 5000) (fun _ => True) (fun _ _ _ _ => trivial) (fun j m => [some (Value.ref (k)), some (Value.int (nI m)), some (Value.int (nI j)), none]) (q1 n c) (n := n) ?_ (n - 1) 1 (by omega) ?_ ?_ 0 trivial (by have := sqs_len h8 c; unfold sqs at this; omega)
    · intro m _ _
      simp (disch := omega) [zc_Squares_count_1, zmeth, xm_en, zret, zretz, zretv, zseq, zst, zinc, zkl, zskip, zk, zi, za, zbin, zdiv, zrem, zgi, zgr, zld, zldr, zlen, zn, zc, zcall, zcallv, zrcv, zdo, zdov, zpf, zpfc, zas, zasc, zmin, zmax, zcmp, zcz, zand_e, zor_e, zite_e, zbite_e, zif_e, znot_e, z_add, z_sub, z_mul, z_and, z_or, z_xor, z_shl, z_shr, zcpy, -List.getElem?_cons_succ, zg_0, zg_1, zg_2, zg_3, zg_4, zg_5, zg_6, zg_7, zg_8, zg_9, zc_lt, zc_le, zc_gt, zc_ge, zc_eq, zc_ne, zc_lt0, zc_ge0, zc_gt0, zc_eq0, zc_ne0, zb_ne, zb_eq, zb_01, z_00, z_01, z_11, zb_f, zb_T, zb_F, zbm1, zbm2, zbm5, zbm6, zbm3, zbm4, nI_clamp, zmod_n, pk_div, nI_ne0, pk_mul, nI_add, nI_1, ztb_tag hk, h.1]
    · intro j m _ h2 _ _
      simp (disch := omega) [zc_Squares_count_1, zmeth, xm_en, zret, zretz, zretv, zseq, zst, zinc, zkl, zskip, zk, zi, za, zbin, zdiv, zrem, zgi, zgr, zld, zldr, zlen, zn, zc, zcall, zcallv, zrcv, zdo, zdov, zpf, zpfc, zas, zasc, zmin, zmax, zcmp, zcz, zand_e, zor_e, zite_e, zbite_e, zif_e, znot_e, z_add, z_sub, z_mul, z_and, z_or, z_xor, z_shl, z_shr, zcpy, -List.getElem?_cons_succ, zg_0, zg_1, zg_2, zg_3, zg_4, zg_5, zg_6, zg_7, zg_8, zg_9, zc_lt, zc_le, zc_gt, zc_ge, zc_eq, zc_ne, zc_lt0, zc_ge0, zc_gt0, zc_eq0, zc_ne0, zb_ne, zb_eq, zb_01, z_00, z_01, z_11, zb_f, zb_T, zb_F, zbm1, zbm2, zbm5, zbm6, zbm3, zbm4, nI_clamp, zmod_n, pk_div, nI_ne0, pk_mul, nI_add, nI_1, ztb_tag hk, h.1, h2]
    · intro j m _ h2 _ hK
      refine zsg_inc (zsg_kl (v := .int (nI (j + 1))) ?_ (Nat.le_of_ble_eq_true rfl) rfl (R2 j m h2 hK) (fun m => rfl)) (fun m => rfl) (fun m => rfl)
      simp (disch := omega) [zmeth, xm_en, zret, zretz, zretv, zseq, zst, zinc, zkl, zskip, zk, zi, za, zbin, zdiv, zrem, zgi, zgr, zld, zldr, zlen, zn, zc, zcall, zcallv, zrcv, zdo, zdov, zpf, zpfc, zas, zasc, zmin, zmax, zcmp, zcz, zand_e, zor_e, zite_e, zbite_e, zif_e, znot_e, z_add, z_sub, z_mul, z_and, z_or, z_xor, z_shl, z_shr, zcpy, -List.getElem?_cons_succ, zg_0, zg_1, zg_2, zg_3, zg_4, zg_5, zg_6, zg_7, zg_8, zg_9, zc_lt, zc_le, zc_gt, zc_ge, zc_eq, zc_ne, zc_lt0, zc_ge0, zc_gt0, zc_eq0, zc_ne0, zb_ne, zb_eq, zb_01, z_00, z_01, z_11, zb_f, zb_T, zb_F, zbm1, zbm2, zbm5, zbm6, zbm3, zbm4, nI_clamp, zmod_n, pk_div, nI_ne0, pk_mul, nI_add, nI_1]
  have g := R.2 hit_neg
  simp (disch := omega) [zf_Squares_count, zmeth, xm_en, zret, zretz, zretv, zseq, zst, zinc, zkl, zskip, zk, zi, za, zbin, zdiv, zrem, zgi, zgr, zld, zldr, zlen, zn, zc, zcall, zcallv, zrcv, zdo, zdov, zpf, zpfc, zas, zasc, zmin, zmax, zcmp, zcz, zand_e, zor_e, zite_e, zbite_e, zif_e, znot_e, z_add, z_sub, z_mul, z_and, z_or, z_xor, z_shl, z_shr, zcpy, -List.getElem?_cons_succ, zg_0, zg_1, zg_2, zg_3, zg_4, zg_5, zg_6, zg_7, zg_8, zg_9, g]
def okSq (T : tS) (x : Int32) : Bool := tB (T x.toNatClampNeg).1 (T x.toNatClampNeg).2
def aSquare (T : tS) (x y : Int32) : Int32 := bif zlt x 4 && !xe_cd .lt y (-1) then (bif okSq T x then aSq (T x.toNatClampNeg).1 (T x.toNatClampNeg).2 y else -2) else -1
theorem qL_square {T : tS} {M : zM} (x y : Int32) (hC : CS T M) (hT : TO T) : zf_L_square [.ref 0, .int x, .int y] M = some (some (aSquare T x y), M) := by
  rcases z3 x (n := 4) (by decide) with h | ⟨t, ht, rfl⟩
  · simp [zf_L_square, zmeth, xm_en, zret, zretz, zretv, zseq, zst, zinc, zkl, zskip, zk, zi, za, zbin, zdiv, zrem, zgi, zgr, zld, zldr, zlen, zn, zc, zcall, zcallv, zrcv, zdo, zdov, zpf, zpfc, zas, zasc, zmin, zmax, zcmp, zcz, zand_e, zor_e, zite_e, zbite_e, zif_e, znot_e, z_add, z_sub, z_mul, z_and, z_or, z_xor, z_shl, z_shr, zcpy, -List.getElem?_cons_succ, zg_0, zg_1, zg_2, zg_3, zg_4, zg_5, zg_6, zg_7, zg_8, zg_9, qL_isTable, zb_ne, h, aSquare]
  · have e := zlt_y ht (by decide)
    have ct : (nI t).toNatClampNeg = t := nI_clamp (by omega)
    have h18 := (hT t ht).1
    cases hy : xe_cd .lt y (-1) with
    | true => simp [zf_L_square, zmeth, xm_en, zret, zretz, zretv, zseq, zst, zinc, zkl, zskip, zk, zi, za, zbin, zdiv, zrem, zgi, zgr, zld, zldr, zlen, zn, zc, zcall, zcallv, zrcv, zdo, zdov, zpf, zpfc, zas, zasc, zmin, zmax, zcmp, zcz, zand_e, zor_e, zite_e, zbite_e, zif_e, znot_e, z_add, z_sub, z_mul, z_and, z_or, z_xor, z_shl, z_shr, zcpy, -List.getElem?_cons_succ, zg_0, zg_1, zg_2, zg_3, zg_4, zg_5, zg_6, zg_7, zg_8, zg_9, qL_isTable, zb_ne, e, hy, aSquare]
    | false =>
      cases hb : tB (T t).1 (T t).2 with
      | false => simp (disch := omega) [zf_L_square, zmeth, xm_en, zret, zretz, zretv, zseq, zst, zinc, zkl, zskip, zk, zi, za, zbin, zdiv, zrem, zgi, zgr, zld, zldr, zlen, zn, zc, zcall, zcallv, zrcv, zdo, zdov, zpf, zpfc, zas, zasc, zmin, zmax, zcmp, zcz, zand_e, zor_e, zite_e, zbite_e, zif_e, znot_e, z_add, z_sub, z_mul, z_and, z_or, z_xor, z_shl, z_shr, zcpy, -List.getElem?_cons_succ, zg_0, zg_1, zg_2, zg_3, zg_4, zg_5, zg_6, zg_7, zg_8, zg_9, zt_0, zt_12, zt_20, zt_26, zt_32, zf_0_0, zf_0_1, zf_0_2, zf_0_3, zf_0_4, zf_12_0, zf_12_1, zf_12_2, zf_12_4, zf_12_5, zf_20_1, zf_20_2, zf_20_3, zf_20_4, zf_20_6, zf_26_0, zf_26_1, zf_26_2, zf_26_3, zf_32_0, zf_32_1, zf_32_3, zf_32_4, zf_32_5, zf_32_6, qL_isTable, zb_ne, e, hy, aSquare, okSq, ct, hb, zi_1, zf_1, nI_clamp, ztb_tag (tb4 ht), qT_isFull (tb4 ht) (hC t ht) (hT t ht)]
      | true =>
        have hf := (tB_iff (hT t ht)).mp hb
        by_cases hy1 : y = -1
        · subst hy1
          have e1 : xe_cd .eq (-1) (-1) = true := by decide
          have e2 : aSq (T t).1 (T t).2 (-1) = nI (sqs (T t).1 (T t).2).length := by
            unfold aSq
            have : (-1 : Int32).toInt = -1 := by decide
            rw [this, hit_neg]
            rfl
          simp (disch := omega) [zf_L_square, zmeth, xm_en, zret, zretz, zretv, zseq, zst, zinc, zkl, zskip, zk, zi, za, zbin, zdiv, zrem, zgi, zgr, zld, zldr, zlen, zn, zc, zcall, zcallv, zrcv, zdo, zdov, zpf, zpfc, zas, zasc, zmin, zmax, zcmp, zcz, zand_e, zor_e, zite_e, zbite_e, zif_e, znot_e, z_add, z_sub, z_mul, z_and, z_or, z_xor, z_shl, z_shr, zcpy, -List.getElem?_cons_succ, zg_0, zg_1, zg_2, zg_3, zg_4, zg_5, zg_6, zg_7, zg_8, zg_9, zt_0, zt_12, zt_20, zt_26, zt_32, zf_0_0, zf_0_1, zf_0_2, zf_0_3, zf_0_4, zf_12_0, zf_12_1, zf_12_2, zf_12_4, zf_12_5, zf_20_1, zf_20_2, zf_20_3, zf_20_4, zf_20_6, zf_26_0, zf_26_1, zf_26_2, zf_26_3, zf_32_0, zf_32_1, zf_32_3, zf_32_4, zf_32_5, zf_32_6, qL_isTable, zb_ne, e, hy, aSquare, okSq, ct, hb, zi_1, zf_1, nI_clamp, ztb_tag (tb4 ht), qT_isFull (tb4 ht) (hC t ht) (hT t ht), e1, e2, qS_count (tb4 ht) (hC t ht) h18.1 h18.2 hf]
        · have hy0 : ¬ y < 0 := by
            intro q
            have q1 : ¬ y < -1 := by
              intro w
              have : xe_cd .lt y (-1) = true := decide_eq_true w
              rw [hy] at this
              cases this
            rw [Int32.lt_iff_toInt_lt] at q q1
            have a1 : (-1 : Int32).toInt = -1 := by decide
            have a2 : (0 : Int32).toInt = 0 := by decide
            rw [a1] at q1
            rw [a2] at q
            exact hy1 (Int32.toInt_inj.mp (by rw [a1]; omega))
          obtain ⟨i, hi, rfl⟩ := nI_of hy0
          have e1 : xe_cd .eq (nI i) (-1) = false := decide_eq_false hy1
          simp (disch := omega) [zf_L_square, zmeth, xm_en, zret, zretz, zretv, zseq, zst, zinc, zkl, zskip, zk, zi, za, zbin, zdiv, zrem, zgi, zgr, zld, zldr, zlen, zn, zc, zcall, zcallv, zrcv, zdo, zdov, zpf, zpfc, zas, zasc, zmin, zmax, zcmp, zcz, zand_e, zor_e, zite_e, zbite_e, zif_e, znot_e, z_add, z_sub, z_mul, z_and, z_or, z_xor, z_shl, z_shr, zcpy, -List.getElem?_cons_succ, zg_0, zg_1, zg_2, zg_3, zg_4, zg_5, zg_6, zg_7, zg_8, zg_9, zt_0, zt_12, zt_20, zt_26, zt_32, zf_0_0, zf_0_1, zf_0_2, zf_0_3, zf_0_4, zf_12_0, zf_12_1, zf_12_2, zf_12_4, zf_12_5, zf_20_1, zf_20_2, zf_20_3, zf_20_4, zf_20_6, zf_26_0, zf_26_1, zf_26_2, zf_26_3, zf_32_0, zf_32_1, zf_32_3, zf_32_4, zf_32_5, zf_32_6, qL_isTable, zb_ne, e, hy, aSquare, okSq, ct, hb, zi_1, zf_1, nI_clamp, ztb_tag (tb4 ht), qT_isFull (tb4 ht) (hC t ht) (hT t ht), e1, qS_find (tb4 ht) (hC t ht) h18.1 h18.2 hf hi]
theorem qM_square {T : tS} {M : zM} (x y : Int32) (hR : RS T M) (hT : TO T) : zf_M_square [.ref 32, .int x, .int y] M = some (some (aSquare T x y), M) := by
  rcases z3 x (n := 4) (by decide) with h | ⟨t, ht, rfl⟩
  · simp [zf_M_square, zmeth, xm_en, zret, zretz, zretv, zseq, zst, zinc, zkl, zskip, zk, zi, za, zbin, zdiv, zrem, zgi, zgr, zld, zldr, zlen, zn, zc, zcall, zcallv, zrcv, zdo, zdov, zpf, zpfc, zas, zasc, zmin, zmax, zcmp, zcz, zand_e, zor_e, zite_e, zbite_e, zif_e, znot_e, z_add, z_sub, z_mul, z_and, z_or, z_xor, z_shl, z_shr, zcpy, -List.getElem?_cons_succ, zg_0, zg_1, zg_2, zg_3, zg_4, zg_5, zg_6, zg_7, zg_8, zg_9, qM_isTable, zb_ne, h, aSquare]
  · have e := zlt_y ht (by decide)
    have ct : (nI t).toNatClampNeg = t := nI_clamp (by omega)
    have h18 := (hT t ht).1
    have h6 : t < 6 := by omega
    cases hy : xe_cd .lt y (-1) with
    | true => simp [zf_M_square, zmeth, xm_en, zret, zretz, zretv, zseq, zst, zinc, zkl, zskip, zk, zi, za, zbin, zdiv, zrem, zgi, zgr, zld, zldr, zlen, zn, zc, zcall, zcallv, zrcv, zdo, zdov, zpf, zpfc, zas, zasc, zmin, zmax, zcmp, zcz, zand_e, zor_e, zite_e, zbite_e, zif_e, znot_e, z_add, z_sub, z_mul, z_and, z_or, z_xor, z_shl, z_shr, zcpy, -List.getElem?_cons_succ, zg_0, zg_1, zg_2, zg_3, zg_4, zg_5, zg_6, zg_7, zg_8, zg_9, qM_isTable, zb_ne, e, hy, aSquare]
    | false =>
      cases hb : tB (T t).1 (T t).2 with
      | false => simp (disch := omega) [zf_M_square, zmeth, xm_en, zret, zretz, zretv, zseq, zst, zinc, zkl, zskip, zk, zi, za, zbin, zdiv, zrem, zgi, zgr, zld, zldr, zlen, zn, zc, zcall, zcallv, zrcv, zdo, zdov, zpf, zpfc, zas, zasc, zmin, zmax, zcmp, zcz, zand_e, zor_e, zite_e, zbite_e, zif_e, znot_e, z_add, z_sub, z_mul, z_and, z_or, z_xor, z_shl, z_shr, zcpy, -List.getElem?_cons_succ, zg_0, zg_1, zg_2, zg_3, zg_4, zg_5, zg_6, zg_7, zg_8, zg_9, zt_0, zt_12, zt_20, zt_26, zt_32, zf_0_0, zf_0_1, zf_0_2, zf_0_3, zf_0_4, zf_12_0, zf_12_1, zf_12_2, zf_12_4, zf_12_5, zf_20_1, zf_20_2, zf_20_3, zf_20_4, zf_20_6, zf_26_0, zf_26_1, zf_26_2, zf_26_3, zf_32_0, zf_32_1, zf_32_3, zf_32_4, zf_32_5, zf_32_6, qM_isTable, zb_ne, e, hy, aSquare, okSq, ct, hb, qM_isFull h6 (hR t ht) h18.2]
      | true =>
        have hf := (tB_iff (hT t ht)).mp hb
        simp (disch := omega) [zf_M_square, zmeth, xm_en, zret, zretz, zretv, zseq, zst, zinc, zkl, zskip, zk, zi, za, zbin, zdiv, zrem, zgi, zgr, zld, zldr, zlen, zn, zc, zcall, zcallv, zrcv, zdo, zdov, zpf, zpfc, zas, zasc, zmin, zmax, zcmp, zcz, zand_e, zor_e, zite_e, zbite_e, zif_e, znot_e, z_add, z_sub, z_mul, z_and, z_or, z_xor, z_shl, z_shr, zcpy, -List.getElem?_cons_succ, zg_0, zg_1, zg_2, zg_3, zg_4, zg_5, zg_6, zg_7, zg_8, zg_9, zt_0, zt_12, zt_20, zt_26, zt_32, zf_0_0, zf_0_1, zf_0_2, zf_0_3, zf_0_4, zf_12_0, zf_12_1, zf_12_2, zf_12_4, zf_12_5, zf_20_1, zf_20_2, zf_20_3, zf_20_4, zf_20_6, zf_26_0, zf_26_1, zf_26_2, zf_26_3, zf_32_0, zf_32_1, zf_32_3, zf_32_4, zf_32_5, zf_32_6, qM_isTable, zb_ne, e, hy, aSquare, okSq, ct, hb, qM_isFull h6 (hR t ht) h18.2, qM_squares ht (hR t ht) h18.1 h18.2 hf]
/-! turn -/
theorem sqs_mem {n v : Nat} {c : tC} (h : v ∈ sqs n c) : ∃ a e b d, (1 ≤ a ∧ a < e ∧ e < n) ∧ (1 ≤ b ∧ b < d ∧ d < n) ∧ v = 512 * a + 64 * e + 8 * b + d ∧ sqB c a e b d = true := by
  obtain ⟨a, a1, a2, h⟩ := segs_mem _ _ h
  obtain ⟨e, e1, e2, h⟩ := segs_mem _ _ h
  obtain ⟨b, b1, b2, h⟩ := segs_mem _ _ h
  obtain ⟨d, d1, d2, h⟩ := segs_mem _ _ h
  unfold q4 at h
  cases hs : sqB c a e b d with
  | false => rw [hs] at h; simp at h
  | true =>
    rw [hs] at h
    simp only [cond_true, List.mem_singleton] at h
    exact ⟨a, e, b, d, by omega, by omega, h, hs⟩
def tTn (c : tC) (a e b d : Nat) : tC := fun x y => if (x = a ∧ y = b) ∨ (x = e ∧ y = d) then c a d else if (x = a ∧ y = d) ∨ (x = e ∧ y = b) then c a b else c x y
def tsw (b d y : Nat) : Nat := if y = b then d else if y = d then b else y
theorem tsw_lt {b d y n : Nat} (hb : b < n) (hd : d < n) (hy : y < n) : tsw b d y < n := by
  unfold tsw
  split
  · exact hd
  · split
    · exact hb
    · exact hy
theorem tsw_inj {b d y z : Nat} (h : tsw b d y = tsw b d z) : y = z := by
  unfold tsw at h
  split at h
  · split at h
    · omega
    · split at h <;> omega
  · split at h
    · split at h
      · omega
      · split at h <;> omega
    · split at h
      · omega
      · split at h <;> omega
theorem tTn_row {c : tC} {a e b d : Nat} (hae : a ≠ e) (hbd : b ≠ d) (hs : sqB c a e b d = true) (x y : Nat) : tTn c a e b d x y = c x (if x = a ∨ x = e then tsw b d y else y) := by
  simp only [sqB, Bool.and_eq_true, decide_eq_true_eq] at hs
  unfold tTn tsw
  by_cases hx : x = a
  · subst hx
    rw [if_pos (Or.inl rfl)]
    by_cases h1 : y = b
    · rw [if_pos (by omega), if_pos h1]
    · by_cases h2 : y = d
      · rw [if_neg (by omega), if_pos (by omega), if_neg h1, if_pos h2]
      · rw [if_neg (by omega), if_neg (by omega), if_neg h1, if_neg h2]
  · by_cases hx2 : x = e
    · subst hx2
      rw [if_pos (Or.inr rfl)]
      by_cases h1 : y = b
      · rw [if_neg (by omega), if_pos (by omega), if_pos h1]
        exact hs.1
      · by_cases h2 : y = d
        · rw [if_pos (by omega), if_neg h1, if_pos h2]
          exact hs.2
        · rw [if_neg (by omega), if_neg (by omega), if_neg h1, if_neg h2]
    · rw [if_neg (by omega), if_neg (by omega), if_neg (by omega)]
theorem tTn_col {c : tC} {a e b d : Nat} (hae : a ≠ e) (hbd : b ≠ d) (hs : sqB c a e b d = true) (x y : Nat) : tTn c a e b d x y = c (if y = b ∨ y = d then tsw a e x else x) y := by
  simp only [sqB, Bool.and_eq_true, decide_eq_true_eq] at hs
  unfold tTn tsw
  by_cases hx : y = b
  · subst hx
    rw [if_pos (Or.inl rfl)]
    by_cases h1 : x = a
    · rw [if_pos (by omega), if_pos h1]
      exact hs.2
    · by_cases h2 : x = e
      · rw [if_neg (by omega), if_pos (by omega), if_neg h1, if_pos h2]
      · rw [if_neg (by omega), if_neg (by omega), if_neg h1, if_neg h2]
  · by_cases hx2 : y = d
    · subst hx2
      rw [if_pos (Or.inr rfl)]
      by_cases h1 : x = a
      · rw [if_neg (by omega), if_pos (by omega), if_pos h1]
        exact hs.1
      · by_cases h2 : x = e
        · rw [if_pos (by omega), if_neg h1, if_pos h2]
        · rw [if_neg (by omega), if_neg (by omega), if_neg h1, if_neg h2]
    · rw [if_neg (by omega), if_neg (by omega), if_neg (by omega)]
theorem tF_tn {n a e b d : Nat} {c : tC} (hf : tF n c) (ha : a < n) (hb : b < n) (hd : d < n) : tF n (tTn c a e b d) := fun x y hx hy => by
  unfold tTn
  split
  · exact hf a d ha hd
  · split
    · exact hf a b ha hb
    · exact hf x y hx hy
theorem tO_tn {n a e b d : Nat} {c : tC} (h : tO n c) (hf : tF n c) (hae : 1 ≤ a ∧ a < e ∧ e < n) (hbd : 1 ≤ b ∧ b < d ∧ d < n) (hs : sqB c a e b d = true) : tO n (tTn c a e b d) := by
  have hF := tF_tn (e := e) hf (show a < n by omega) (show b < n by omega) (show d < n by omega)
  have h8 := h.1.2
  refine ⟨h.1, fun x hx => ?_, fun x y hx hy => Or.inl (hF x y hx hy), fun x y z hx hy hz g1 g2 => ?_, fun x y z hx hy hz g1 g2 => ?_⟩
  · unfold tTn
    rw [if_neg (by omega), if_neg (by omega), if_neg (by omega), if_neg (by omega)]
    exact h.2.1 x hx
  · rw [tTn_row (by omega) (by omega) hs, tTn_row (by omega) (by omega) hs] at g1
    by_cases hc : x = a ∨ x = e
    · rw [if_pos hc, if_pos hc] at g1
      have l1 := tsw_lt (show b < n by omega) (show d < n by omega) hy
      have l2 := tsw_lt (show b < n by omega) (show d < n by omega) hz
      exact tsw_inj (h.2.2.2.1 x _ _ hx l1 l2 g1 (by have := hf x _ hx l1; omega))
    · rw [if_neg hc, if_neg hc] at g1
      exact h.2.2.2.1 x _ _ hx hy hz g1 (by have := hf x _ hx hy; omega)
  · rw [tTn_col (by omega) (by omega) hs, tTn_col (by omega) (by omega) hs] at g1
    by_cases hc : z = b ∨ z = d
    · rw [if_pos hc, if_pos hc] at g1
      have l1 := tsw_lt (show a < n by omega) (show e < n by omega) hx
      have l2 := tsw_lt (show a < n by omega) (show e < n by omega) hy
      exact tsw_inj (h.2.2.2.2 _ _ z l1 l2 hz g1 (by have := hf _ z l1 hz; omega))
    · rw [if_neg hc, if_neg hc] at g1
      exact h.2.2.2.2 _ _ z hx hy hz g1 (by have := hf _ z hx hz; omega)
theorem z_dec {v s : Nat} (hv : v < 2 ^ 31) (hs : s < 32) : (nI v >>> (nI s &&& 31)) &&& nI 7 = nI (v / 2 ^ s % 8) := by
  rw [nI_shr hv hs, nI_and, Nat.shiftRight_eq_div_pow]
  congr 1
  exact Nat.and_two_pow_sub_one_eq_mod _ 3
theorem z_dec0 {v : Nat} : nI v &&& nI 7 = nI (v % 8) := by
  rw [nI_and]
  congr 1
  exact Nat.and_two_pow_sub_one_eq_mod _ 3
def tTv (c : tC) (v : Nat) : tC := tTn c (v / 512) (v / 64 % 8) (v / 8 % 8) (v % 8)
theorem qS_change {M : zM} {k n a e b d v : Nat} {c : tC} (hk : ztb k) (h : kT M k n c) (h8 : n ≤ 8) (hf : tF n c) (hae : a < e ∧ e < n) (hbd : b < d ∧ d < n) (hv : v = 512 * a + 64 * e + 8 * b + d) : ∃ M', zf_Squares_change [.ref k, .int (nI v)] M = some (none, M') ∧ kT M' k n (tTv c v) ∧ (∀ q j, q ≠ k + 1 → M' q j = M q j) := by
  have ea : v / 512 % 8 = a := by omega
  have ea2 : v / 512 = a := by omega
  have ee : v / 64 % 8 = e := by omega
  have eb : v / 8 % 8 = b := by omega
  have ed : v % 8 = d := by omega
  have d1 : (nI v >>> (nI 9 &&& 31)) &&& nI 7 = nI a := by rw [z_dec (by omega) (by decide)]; exact congrArg nI ea
  have d2 : (nI v >>> (nI 6 &&& 31)) &&& nI 7 = nI e := by rw [z_dec (by omega) (by decide)]; exact congrArg nI ee
  have d3 : (nI v >>> (nI 3 &&& 31)) &&& nI 7 = nI b := by rw [z_dec (by omega) (by decide)]; exact congrArg nI eb
  have d4 : nI v &&& nI 7 = nI d := by rw [z_dec0, ed]
  have ha : a < n := by omega
  have he : e < n := hae.2
  have hb : b < n := by omega
  have hd : d < n := hbd.2
  have m1 := qT_mul hk h h8 hf ha hb
  have m2 := qT_mul hk h h8 hf ha hd
  have hn := h.1
  have p1 := qT_put (M := M) (v := nI (c a d)) hk hn h8 ha hb
  have p2 := qT_put (M := zup M (k + 1) (8 * a + b) (nI (c a d))) (v := nI (c a d)) hk (by rw [zup_e, if_neg (by omega)]; exact hn) h8 he hd
  have p3 := qT_put (M := zup (zup M (k + 1) (8 * a + b) (nI (c a d))) (k + 1) (8 * e + d) (nI (c a d))) (v := nI (c a b)) hk (by rw [zup_e, if_neg (by omega), zup_e, if_neg (by omega)]; exact hn) h8 ha hd
  have p4 := qT_put (M := zup (zup (zup M (k + 1) (8 * a + b) (nI (c a d))) (k + 1) (8 * e + d) (nI (c a d))) (k + 1) (8 * a + d) (nI (c a b))) (v := nI (c a b)) hk (by rw [zup_e, if_neg (by omega), zup_e, if_neg (by omega), zup_e, if_neg (by omega)]; exact hn) h8 he hb
  refine ⟨zup (zup (zup (zup M (k + 1) (8 * a + b) (nI (c a d))) (k + 1) (8 * e + d) (nI (c a d))) (k + 1) (8 * a + d) (nI (c a b))) (k + 1) (8 * e + b) (nI (c a b)), ?_, ⟨?_, fun x y hx hy => ?_⟩, fun q j hq => ?_⟩
  · simp (disch := omega) [zf_Squares_change, zmeth, xm_en, zret, zretz, zretv, zseq, zst, zinc, zkl, zskip, zk, zi, za, zbin, zdiv, zrem, zgi, zgr, zld, zldr, zlen, zn, zc, zcall, zcallv, zrcv, zdo, zdov, zpf, zpfc, zas, zasc, zmin, zmax, zcmp, zcz, zand_e, zor_e, zite_e, zbite_e, zif_e, znot_e, z_add, z_sub, z_mul, z_and, z_or, z_xor, z_shl, z_shr, zcpy, -List.getElem?_cons_succ, zg_0, zg_1, zg_2, zg_3, zg_4, zg_5, zg_6, zg_7, zg_8, zg_9, d1, d2, d3, d4, ztb_tag hk, m1, m2, p1, p2, p3, p4]
  · rw [zup_e, if_neg (by omega), zup_e, if_neg (by omega), zup_e, if_neg (by omega), zup_e, if_neg (by omega)]
    exact hn
  · have v1 : zcl (-1) (c a d) = nI (c a d) := zcl_lt (by have := hf a d ha hd; omega)
    have v2 : zcl (-1) (c a b) = nI (c a b) := zcl_lt (by have := hf a b ha hb; omega)
    unfold tTv tTn
    rw [ea2, ee, eb, ed, zup_e, zup_e, zup_e, zup_e]
    by_cases g1 : x = e ∧ y = b
    · rw [if_pos (by omega), if_neg (by omega), if_pos (by omega), v2]
    · rw [if_neg (by omega)]
      by_cases g2 : x = a ∧ y = d
      · rw [if_pos (by omega), if_neg (by omega), if_pos (by omega), v2]
      · rw [if_neg (by omega)]
        by_cases g3 : x = e ∧ y = d
        · rw [if_pos (by omega), if_pos (by omega), v1]
        · rw [if_neg (by omega)]
          by_cases g4 : x = a ∧ y = b
          · rw [if_pos (by omega), if_pos (by omega), v1]
          · rw [if_neg (by omega), if_neg (by omega), if_neg (by omega)]
            exact h.2 x y hx hy
  · rw [zup_e, if_neg (by omega), zup_e, if_neg (by omega), zup_e, if_neg (by omega), zup_e, if_neg (by omega)]
def oTn (T : tS) (x y : Int32) : Option Nat := bif zlt x 4 && (!decide (y < 0) && okSq T x) then hit y.toInt 0 (sqs (T x.toNatClampNeg).1 (T x.toNatClampNeg).2) else none
def sTn (T : tS) (x y : Int32) : tS := match oTn T x y with
  | some v => tset T x.toNatClampNeg (T x.toNatClampNeg).1 (tTv (T x.toNatClampNeg).2 v)
  | none => T
def aTn (T : tS) (x y : Int32) : Int32 := bif zlt x 4 && !decide (y < 0) then (bif okSq T x then (match oTn T x y with
  | some _ => nI 1
  | none => -1) else -2) else -1
theorem CS_one {T : tS} {M M' : zM} {t n : Nat} {c : tC} (ht : t < 4) (hC : CS T M) (h : kT M' (2 + 2 * t) n c) (ho : ∀ q j, q ≠ 2 + 2 * t + 1 → M' q j = M q j) : CS (tset T t n c) M' := by
  intro u hu
  unfold tset
  by_cases g : u = t
  · subst g
    simp only [if_true]
    exact h
  · rw [if_neg g]
    exact (hC u hu).same (fun j => ho _ j (by omega)) (fun j => ho _ j (by omega))
theorem qL_turn {T : tS} {M : zM} (x y : Int32) (hC : CS T M) (hT : TO T) : ∃ M', zf_L_turn [.ref 0, .int x, .int y] M = some (some (aTn T x y), M') ∧ CS (sTn T x y) M' ∧ zhi M M' := by
  rcases z3 x (n := 4) (by decide) with h | ⟨t, ht, rfl⟩
  · refine ⟨M, ?_, by simpa [sTn, oTn, h] using hC, zhi.refl M⟩
    simp [zf_L_turn, zmeth, xm_en, zret, zretz, zretv, zseq, zst, zinc, zkl, zskip, zk, zi, za, zbin, zdiv, zrem, zgi, zgr, zld, zldr, zlen, zn, zc, zcall, zcallv, zrcv, zdo, zdov, zpf, zpfc, zas, zasc, zmin, zmax, zcmp, zcz, zand_e, zor_e, zite_e, zbite_e, zif_e, znot_e, z_add, z_sub, z_mul, z_and, z_or, z_xor, z_shl, z_shr, zcpy, -List.getElem?_cons_succ, zg_0, zg_1, zg_2, zg_3, zg_4, zg_5, zg_6, zg_7, zg_8, zg_9, qL_isTable, zb_ne, h, aTn]
  · have e := zlt_y ht (by decide)
    have ct : (nI t).toNatClampNeg = t := nI_clamp (by omega)
    have h18 := (hT t ht).1
    have elt : ∀ q : Int32, xe_cd .lt q 0 = decide (q < 0) := fun q => rfl
    by_cases hy : y < 0
    · refine ⟨M, ?_, by simpa [sTn, oTn, hy] using hC, zhi.refl M⟩
      simp [zf_L_turn, zmeth, xm_en, zret, zretz, zretv, zseq, zst, zinc, zkl, zskip, zk, zi, za, zbin, zdiv, zrem, zgi, zgr, zld, zldr, zlen, zn, zc, zcall, zcallv, zrcv, zdo, zdov, zpf, zpfc, zas, zasc, zmin, zmax, zcmp, zcz, zand_e, zor_e, zite_e, zbite_e, zif_e, znot_e, z_add, z_sub, z_mul, z_and, z_or, z_xor, z_shl, z_shr, zcpy, -List.getElem?_cons_succ, zg_0, zg_1, zg_2, zg_3, zg_4, zg_5, zg_6, zg_7, zg_8, zg_9, qL_isTable, zb_ne, e, elt, hy, aTn]
    · obtain ⟨i, hi, rfl⟩ := nI_of hy
      cases hb : tB (T t).1 (T t).2 with
      | false =>
        refine ⟨M, ?_, by simpa [sTn, oTn, okSq, ct, hb] using hC, zhi.refl M⟩
        simp (disch := omega) [zf_L_turn, zmeth, xm_en, zret, zretz, zretv, zseq, zst, zinc, zkl, zskip, zk, zi, za, zbin, zdiv, zrem, zgi, zgr, zld, zldr, zlen, zn, zc, zcall, zcallv, zrcv, zdo, zdov, zpf, zpfc, zas, zasc, zmin, zmax, zcmp, zcz, zand_e, zor_e, zite_e, zbite_e, zif_e, znot_e, z_add, z_sub, z_mul, z_and, z_or, z_xor, z_shl, z_shr, zcpy, -List.getElem?_cons_succ, zg_0, zg_1, zg_2, zg_3, zg_4, zg_5, zg_6, zg_7, zg_8, zg_9, zt_0, zt_12, zt_20, zt_26, zt_32, zf_0_0, zf_0_1, zf_0_2, zf_0_3, zf_0_4, zf_12_0, zf_12_1, zf_12_2, zf_12_4, zf_12_5, zf_20_1, zf_20_2, zf_20_3, zf_20_4, zf_20_6, zf_26_0, zf_26_1, zf_26_2, zf_26_3, zf_32_0, zf_32_1, zf_32_3, zf_32_4, zf_32_5, zf_32_6, qL_isTable, zb_ne, e, elt, hy, aTn, okSq, ct, hb, zi_1, zf_1, nI_clamp, ztb_tag (tb4 ht), qT_isFull (tb4 ht) (hC t ht) (hT t ht)]
      | true =>
        have hf := (tB_iff (hT t ht)).mp hb
        have hfi := qS_find (tb4 ht) (hC t ht) h18.1 h18.2 hf hi
        have ho : oTn T (nI t) (nI i) = hit (i : Int) 0 (sqs (T t).1 (T t).2) := by simp [oTn, e, hy, okSq, ct, hb, nI_toInt hi]
        cases hh : hit (i : Int) 0 (sqs (T t).1 (T t).2) with
        | none =>
          rw [hh] at ho
          have ea : aSq (T t).1 (T t).2 (nI i) = -4 := by
            unfold aSq
            rw [nI_toInt hi, hh]
            exact if_neg hy
          rw [ea] at hfi
          have e4 : xe_cd .eq (-4) (-4) = true := by decide
          refine ⟨M, ?_, by simpa [sTn, ho] using hC, zhi.refl M⟩
          simp (disch := omega) [zf_L_turn, zmeth, xm_en, zret, zretz, zretv, zseq, zst, zinc, zkl, zskip, zk, zi, za, zbin, zdiv, zrem, zgi, zgr, zld, zldr, zlen, zn, zc, zcall, zcallv, zrcv, zdo, zdov, zpf, zpfc, zas, zasc, zmin, zmax, zcmp, zcz, zand_e, zor_e, zite_e, zbite_e, zif_e, znot_e, z_add, z_sub, z_mul, z_and, z_or, z_xor, z_shl, z_shr, zcpy, -List.getElem?_cons_succ, zg_0, zg_1, zg_2, zg_3, zg_4, zg_5, zg_6, zg_7, zg_8, zg_9, zt_0, zt_12, zt_20, zt_26, zt_32, zf_0_0, zf_0_1, zf_0_2, zf_0_3, zf_0_4, zf_12_0, zf_12_1, zf_12_2, zf_12_4, zf_12_5, zf_20_1, zf_20_2, zf_20_3, zf_20_4, zf_20_6, zf_26_0, zf_26_1, zf_26_2, zf_26_3, zf_32_0, zf_32_1, zf_32_3, zf_32_4, zf_32_5, zf_32_6, qL_isTable, zb_ne, e, elt, hy, aTn, okSq, ct, hb, zi_1, zf_1, nI_clamp, ztb_tag (tb4 ht), qT_isFull (tb4 ht) (hC t ht) (hT t ht), hfi, e4, ho]
        | some v =>
          rw [hh] at ho
          have ea : aSq (T t).1 (T t).2 (nI i) = nI v := by
            unfold aSq
            rw [nI_toInt hi, hh]
          rw [ea] at hfi
          obtain ⟨a, e', b, d, h1, h2, h3, h4⟩ := sqs_mem (hit_mem hh)
          obtain ⟨M1, g1, g2, g3⟩ := qS_change (tb4 ht) (hC t ht) h18.2 hf h1.2 h2.2 h3
          have e4 : xe_cd .eq (nI v) (-4) = false := by
            refine decide_eq_false (fun q => ?_)
            have : nI v < 0 := by rw [q]; decide
            exact nI_pos (by omega) this
          refine ⟨M1, ?_, ?_, fun k j hk => g3 k j (by omega)⟩
          · simp (disch := omega) [zf_L_turn, zmeth, xm_en, zret, zretz, zretv, zseq, zst, zinc, zkl, zskip, zk, zi, za, zbin, zdiv, zrem, zgi, zgr, zld, zldr, zlen, zn, zc, zcall, zcallv, zrcv, zdo, zdov, zpf, zpfc, zas, zasc, zmin, zmax, zcmp, zcz, zand_e, zor_e, zite_e, zbite_e, zif_e, znot_e, z_add, z_sub, z_mul, z_and, z_or, z_xor, z_shl, z_shr, zcpy, -List.getElem?_cons_succ, zg_0, zg_1, zg_2, zg_3, zg_4, zg_5, zg_6, zg_7, zg_8, zg_9, zt_0, zt_12, zt_20, zt_26, zt_32, zf_0_0, zf_0_1, zf_0_2, zf_0_3, zf_0_4, zf_12_0, zf_12_1, zf_12_2, zf_12_4, zf_12_5, zf_20_1, zf_20_2, zf_20_3, zf_20_4, zf_20_6, zf_26_0, zf_26_1, zf_26_2, zf_26_3, zf_32_0, zf_32_1, zf_32_3, zf_32_4, zf_32_5, zf_32_6, qL_isTable, zb_ne, e, elt, hy, aTn, okSq, ct, hb, zi_1, zf_1, nI_clamp, ztb_tag (tb4 ht), qT_isFull (tb4 ht) (hC t ht) (hT t ht), hfi, e4, g1, ho]
          · simp only [sTn, ho, ct]
            exact CS_one ht hC g2 g3
theorem qM_turn {T : tS} {M : zM} (x y : Int32) (hR : RS T M) (hT : TO T) : ∃ M', zf_M_turn [.ref 32, .int x, .int y] M = some (some (aTn T x y), M') ∧ RS (sTn T x y) M' ∧ TO (sTn T x y) ∧ zlo M M' := by
  rcases z3 x (n := 4) (by decide) with h | ⟨t, ht, rfl⟩
  · refine ⟨M, ?_, by simpa [sTn, oTn, h] using hR, by simpa [sTn, oTn, h] using hT, zlo.refl M⟩
    simp [zf_M_turn, zmeth, xm_en, zret, zretz, zretv, zseq, zst, zinc, zkl, zskip, zk, zi, za, zbin, zdiv, zrem, zgi, zgr, zld, zldr, zlen, zn, zc, zcall, zcallv, zrcv, zdo, zdov, zpf, zpfc, zas, zasc, zmin, zmax, zcmp, zcz, zand_e, zor_e, zite_e, zbite_e, zif_e, znot_e, z_add, z_sub, z_mul, z_and, z_or, z_xor, z_shl, z_shr, zcpy, -List.getElem?_cons_succ, zg_0, zg_1, zg_2, zg_3, zg_4, zg_5, zg_6, zg_7, zg_8, zg_9, qM_isTable, zb_ne, h, aTn]
  · have e := zlt_y ht (by decide)
    have ct : (nI t).toNatClampNeg = t := nI_clamp (by omega)
    have h18 := (hT t ht).1
    have h8 := h18.2
    have h6 : t < 6 := by omega
    have elt : ∀ q : Int32, xe_cd .lt q 0 = decide (q < 0) := fun q => rfl
    by_cases hy : y < 0
    · refine ⟨M, ?_, by simpa [sTn, oTn, hy] using hR, by simpa [sTn, oTn, hy] using hT, zlo.refl M⟩
      simp [zf_M_turn, zmeth, xm_en, zret, zretz, zretv, zseq, zst, zinc, zkl, zskip, zk, zi, za, zbin, zdiv, zrem, zgi, zgr, zld, zldr, zlen, zn, zc, zcall, zcallv, zrcv, zdo, zdov, zpf, zpfc, zas, zasc, zmin, zmax, zcmp, zcz, zand_e, zor_e, zite_e, zbite_e, zif_e, znot_e, z_add, z_sub, z_mul, z_and, z_or, z_xor, z_shl, z_shr, zcpy, -List.getElem?_cons_succ, zg_0, zg_1, zg_2, zg_3, zg_4, zg_5, zg_6, zg_7, zg_8, zg_9, qM_isTable, zb_ne, e, elt, hy, aTn]
    · obtain ⟨i, hi, rfl⟩ := nI_of hy
      cases hb : tB (T t).1 (T t).2 with
      | false =>
        refine ⟨M, ?_, by simpa [sTn, oTn, okSq, ct, hb] using hR, by simpa [sTn, oTn, okSq, ct, hb] using hT, zlo.refl M⟩
        simp (disch := omega) [zf_M_turn, zmeth, xm_en, zret, zretz, zretv, zseq, zst, zinc, zkl, zskip, zk, zi, za, zbin, zdiv, zrem, zgi, zgr, zld, zldr, zlen, zn, zc, zcall, zcallv, zrcv, zdo, zdov, zpf, zpfc, zas, zasc, zmin, zmax, zcmp, zcz, zand_e, zor_e, zite_e, zbite_e, zif_e, znot_e, z_add, z_sub, z_mul, z_and, z_or, z_xor, z_shl, z_shr, zcpy, -List.getElem?_cons_succ, zg_0, zg_1, zg_2, zg_3, zg_4, zg_5, zg_6, zg_7, zg_8, zg_9, zt_0, zt_12, zt_20, zt_26, zt_32, zf_0_0, zf_0_1, zf_0_2, zf_0_3, zf_0_4, zf_12_0, zf_12_1, zf_12_2, zf_12_4, zf_12_5, zf_20_1, zf_20_2, zf_20_3, zf_20_4, zf_20_6, zf_26_0, zf_26_1, zf_26_2, zf_26_3, zf_32_0, zf_32_1, zf_32_3, zf_32_4, zf_32_5, zf_32_6, qM_isTable, zb_ne, e, elt, hy, aTn, okSq, ct, hb, qM_isFull h6 (hR t ht) h18.2]
      | true =>
        have hf := (tB_iff (hT t ht)).mp hb
        have hfi := qM_squares (x := nI i) ht (hR t ht) h18.1 h18.2 hf
        have ho : oTn T (nI t) (nI i) = hit (i : Int) 0 (sqs (T t).1 (T t).2) := by simp [oTn, e, hy, okSq, ct, hb, nI_toInt hi]
        cases hh : hit (i : Int) 0 (sqs (T t).1 (T t).2) with
        | none =>
          rw [hh] at ho
          have ea : aSq (T t).1 (T t).2 (nI i) = -4 := by
            unfold aSq
            rw [nI_toInt hi, hh]
            exact if_neg hy
          rw [ea] at hfi
          have e4 : decide ((-4 : Int32) < 0) = true := by decide
          refine ⟨M, ?_, by simpa [sTn, ho] using hR, by simpa [sTn, ho] using hT, zlo.refl M⟩
          simp (disch := omega) [zf_M_turn, zmeth, xm_en, zret, zretz, zretv, zseq, zst, zinc, zkl, zskip, zk, zi, za, zbin, zdiv, zrem, zgi, zgr, zld, zldr, zlen, zn, zc, zcall, zcallv, zrcv, zdo, zdov, zpf, zpfc, zas, zasc, zmin, zmax, zcmp, zcz, zand_e, zor_e, zite_e, zbite_e, zif_e, znot_e, z_add, z_sub, z_mul, z_and, z_or, z_xor, z_shl, z_shr, zcpy, -List.getElem?_cons_succ, zg_0, zg_1, zg_2, zg_3, zg_4, zg_5, zg_6, zg_7, zg_8, zg_9, zt_0, zt_12, zt_20, zt_26, zt_32, zf_0_0, zf_0_1, zf_0_2, zf_0_3, zf_0_4, zf_12_0, zf_12_1, zf_12_2, zf_12_4, zf_12_5, zf_20_1, zf_20_2, zf_20_3, zf_20_4, zf_20_6, zf_26_0, zf_26_1, zf_26_2, zf_26_3, zf_32_0, zf_32_1, zf_32_3, zf_32_4, zf_32_5, zf_32_6, qM_isTable, zb_ne, e, elt, hy, aTn, okSq, ct, hb, qM_isFull h6 (hR t ht) h18.2, hfi, e4, ho]
        | some v =>
          rw [hh] at ho
          have ea : aSq (T t).1 (T t).2 (nI i) = nI v := by
            unfold aSq
            rw [nI_toInt hi, hh]
          rw [ea] at hfi
          obtain ⟨a, f, b, d, h1, h2, h3, h4⟩ := sqs_mem (hit_mem hh)
          have hvlt : v < 5000 := by omega
          have ea2 : v / 512 = a := by omega
          have ee : v / 64 % 8 = f := by omega
          have eb : v / 8 % 8 = b := by omega
          have ed : v % 8 = d := by omega
          have e4 : ¬ nI v < 0 := nI_pos (by omega)
          have ha : a < (T t).1 := by omega
          have hf' : f < (T t).1 := by omega
          have hb' : b < (T t).1 := by omega
          have hd' : d < (T t).1 := by omega
          have m1 := qM_mul h6 (hR t ht) h8 hf ha hb'
          have m2 := qM_mul h6 (hR t ht) h8 hf ha hd'
          have es : sTn T (nI t) (nI i) = tset T t (T t).1 (tTn (T t).2 a f b d) := by simp only [sTn, ho, ct, tTv, ea2, ee, eb, ed]
          rw [es]
          refine ⟨zup (zup (zup (zup M 34 (64 * t + 8 * a + b) (nI ((T t).2 a d))) 34 (64 * t + 8 * a + d) (nI ((T t).2 a b))) 34 (64 * t + 8 * f + b) (nI ((T t).2 a b))) 34 (64 * t + 8 * f + d) (nI ((T t).2 a d)), ?_, ?_, TO_set hT (tO_tn (hT t ht) hf h1 h2 h4), fun k j hk => ?_⟩
          · simp (disch := omega) [zf_M_turn, zmeth, xm_en, zret, zretz, zretv, zseq, zst, zinc, zkl, zskip, zk, zi, za, zbin, zdiv, zrem, zgi, zgr, zld, zldr, zlen, zn, zc, zcall, zcallv, zrcv, zdo, zdov, zpf, zpfc, zas, zasc, zmin, zmax, zcmp, zcz, zand_e, zor_e, zite_e, zbite_e, zif_e, znot_e, z_add, z_sub, z_mul, z_and, z_or, z_xor, z_shl, z_shr, zcpy, -List.getElem?_cons_succ, zg_0, zg_1, zg_2, zg_3, zg_4, zg_5, zg_6, zg_7, zg_8, zg_9, zc_lt, zc_le, zc_gt, zc_ge, zc_eq, zc_ne, zc_lt0, zc_ge0, zc_gt0, zc_eq0, zc_ne0, zb_ne, zb_eq, zb_01, z_00, z_01, z_11, zb_f, zb_T, zb_F, zbm1, zbm2, zbm5, zbm6, zbm3, zbm4, nI_clamp, zmod_n, pk_div, nI_ne0, pk_mul, nI_add, nI_1, zt_0, zt_12, zt_20, zt_26, zt_32, zf_0_0, zf_0_1, zf_0_2, zf_0_3, zf_0_4, zf_12_0, zf_12_1, zf_12_2, zf_12_4, zf_12_5, zf_20_1, zf_20_2, zf_20_3, zf_20_4, zf_20_6, zf_26_0, zf_26_1, zf_26_2, zf_26_3, zf_32_0, zf_32_1, zf_32_3, zf_32_4, zf_32_5, zf_32_6, qM_isTable, e, elt, hy, e4, aTn, okSq, ct, hb, qM_isFull h6 (hR t ht) h18.2, hfi, ho, ea2, ee, eb, ed, m1, m2, qM_puts]
          · intro u hu
            unfold tset
            by_cases g : u = t
            · subst g
              simp only [if_true]
              refine ⟨by rw [zup_e, if_neg (by omega), zup_e, if_neg (by omega), zup_e, if_neg (by omega), zup_e, if_neg (by omega)]; exact (hR u hu).1, fun p q hp hq => ?_⟩
              have v1 : zcl (-4) ((T u).2 a d) = nI ((T u).2 a d) := zcl_lt (by have := hf a d ha hd'; omega)
              have v2 : zcl (-4) ((T u).2 a b) = nI ((T u).2 a b) := zcl_lt (by have := hf a b ha hb'; omega)
              unfold tTn
              rw [zup_e, zup_e, zup_e, zup_e]
              by_cases g1 : p = f ∧ q = d
              · rw [if_pos (by omega), if_pos (by omega), v1]
              · rw [if_neg (by omega)]
                by_cases g2 : p = f ∧ q = b
                · rw [if_pos (by omega), if_neg (by omega), if_pos (by omega), v2]
                · rw [if_neg (by omega)]
                  by_cases g3 : p = a ∧ q = d
                  · rw [if_pos (by omega), if_neg (by omega), if_pos (by omega), v2]
                  · rw [if_neg (by omega)]
                    by_cases g4 : p = a ∧ q = b
                    · rw [if_pos (by omega), if_pos (by omega), v1]
                    · rw [if_neg (by omega), if_neg (by omega), if_neg (by omega)]
                      exact (hR u hu).2 p q hp hq
            · rw [if_neg g]
              exact (hR u hu).same (hT u hu).1.2 (by rw [zup_e, if_neg (by omega), zup_e, if_neg (by omega), zup_e, if_neg (by omega), zup_e, if_neg (by omega)]) (fun j g1 g2 => by rw [zup_e, if_neg (by omega), zup_e, if_neg (by omega), zup_e, if_neg (by omega), zup_e, if_neg (by omega)])
          · rw [zup_e, if_neg (by omega), zup_e, if_neg (by omega), zup_e, if_neg (by omega), zup_e, if_neg (by omega)]
