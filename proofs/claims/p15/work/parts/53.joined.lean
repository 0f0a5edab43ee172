/-! sets of elements as bits: what is made of them from the left and the right -/
def tL (n : Nat) (c : tC) (x s : Nat) : Nat := zim (fun b => c x b) (fun b => s.testBit b) n
def tRt (n : Nat) (c : tC) (s x : Nat) : Nat := zim (fun a => c a x) (fun b => s.testBit b) n
theorem tL_lt {n x s : Nat} {c : tC} (hf : tF n c) (hx : x < n) : tL n c x s < 2 ^ n := zim_lt (fun i hi _ => hf x i hx hi)
theorem tRt_lt {n x s : Nat} {c : tC} (hf : tF n c) (hx : x < n) : tRt n c s x < 2 ^ n := zim_lt (fun i hi _ => hf i x hi hx)
theorem p8 {n : Nat} (h8 : n ≤ 8) : 2 ^ n ≤ 256 := Nat.pow_le_pow_right (by decide) h8
theorem qP_has {M : zM} {s a : Nat} (hs : s < 2 ^ 31) (ha : a < 32) : zf_Parts_has [.int (nI s), .int (nI a)] M = some (some (zb (s.testBit a)), M) := by
  simp (disch := omega) [zf_Parts_has, zmeth, xm_en, zret, zretz, zretv, zseq, zst, zinc, zkl, zskip, zk, zi, za, zbin, zdiv, zrem, zgi, zgr, zld, zldr, zlen, zn, zc, zcall, zcallv, zrcv, zdo, zdov, zpf, zpfc, zas, zasc, zmin, zmax, zcmp, zcz, zand_e, zor_e, zite_e, zbite_e, zif_e, znot_e, z_add, z_sub, z_mul, z_and, z_or, z_xor, z_shl, z_shr, zcpy, -List.getElem?_cons_succ, zg_0, zg_1, zg_2, zg_3, zg_4, zg_5, zg_6, zg_7, zg_8, zg_9, zc_lt, zc_le, zc_gt, zc_ge, zc_eq, zc_ne, zc_lt0, zc_ge0, zc_gt0, zc_eq0, zc_ne0, zb_ne, zb_eq, zb_01, z_00, z_01, z_11, zb_f, zb_T, zb_F, zbm1, zbm2, zbm5, zbm6, zbm3, zbm4, nI_clamp, zmod_n, pk_div, nI_ne0, pk_mul, nI_add, nI_1, nI_or, nI_shl1, nI_bit, zb_eq1]
theorem qM_has {M : zM} {s a : Nat} (hs : s < 2 ^ 31) (ha : a < 32) : zf_M_has [.int (nI s), .int (nI a)] M = some (some (zb (s.testBit a)), M) := by
  simp (disch := omega) [zf_M_has, zmeth, xm_en, zret, zretz, zretv, zseq, zst, zinc, zkl, zskip, zk, zi, za, zbin, zdiv, zrem, zgi, zgr, zld, zldr, zlen, zn, zc, zcall, zcallv, zrcv, zdo, zdov, zpf, zpfc, zas, zasc, zmin, zmax, zcmp, zcz, zand_e, zor_e, zite_e, zbite_e, zif_e, znot_e, z_add, z_sub, z_mul, z_and, z_or, z_xor, z_shl, z_shr, zcpy, -List.getElem?_cons_succ, zg_0, zg_1, zg_2, zg_3, zg_4, zg_5, zg_6, zg_7, zg_8, zg_9, zc_lt, zc_le, zc_gt, zc_ge, zc_eq, zc_ne, zc_lt0, zc_ge0, zc_gt0, zc_eq0, zc_ne0, zb_ne, zb_eq, zb_01, z_00, z_01, z_11, zb_f, zb_T, zb_F, zbm1, zbm2, zbm5, zbm6, zbm3, zbm4, nI_clamp, zmod_n, pk_div, nI_ne0, pk_mul, nI_add, nI_1, nI_or, nI_shl1, nI_bit, zb_eq1]
theorem zim_s {f : Nat → Nat} {p : Nat → Bool} {n : Nat} : zim f p (n + 1) = zim f p n ||| (bif p n then 2 ^ f n else 0) := rfl
theorem zim_le {f : Nat → Nat} {p : Nat → Bool} {m : Nat} {n j : Nat} (hj : j ≤ n) (h : ∀ i, i < n → f i < m) : zim f p j < 2 ^ m := zim_lt (fun i hi _ => h i (by omega))
theorem qP_fromLeft {M : zM} {k n x s : Nat} {c : tC} (hk : ztb k) (h : kT M k n c) (h8 : n ≤ 8) (hf : tF n c) (hx : x < n) (hs : s < 2 ^ 31) : zf_Parts_fromLeft [.ref k, .int (nI x), .int (nI s)] M = some (some (nI (tL n c x s)), M) := by
  have hp := p8 h8
  have R := zwh_up (c := zc_Parts_fromLeft_1) (s := zs_Parts_fromLeft_1) (fun j => [some (Value.ref (k)), some (Value.int (nI x)), some (Value.int (nI s)), some (Value.int (nI (zim (fun b => c x b) (fun b => s.testBit b) j))), some (Value.int (nI j))]) (fun _ => M) (n := n) n 0 (by omega) ?_ ?_ ?_
  · have e0 : zim (fun b => c x b) (fun b => s.testBit b) 0 = 0 := rfl
    rw [e0] at R
    simp (disch := omega) [zf_Parts_fromLeft, zmeth, xm_en, zret, zretz, zretv, zseq, zst, zinc, zkl, zskip, zk, zi, za, zbin, zdiv, zrem, zgi, zgr, zld, zldr, zlen, zn, zc, zcall, zcallv, zrcv, zdo, zdov, zpf, zpfc, zas, zasc, zmin, zmax, zcmp, zcz, zand_e, zor_e, zite_e, zbite_e, zif_e, znot_e, z_add, z_sub, z_mul, z_and, z_or, z_xor, z_shl, z_shr, zcpy, -List.getElem?_cons_succ, zg_0, zg_1, zg_2, zg_3, zg_4, zg_5, zg_6, zg_7, zg_8, zg_9, R, tL]
  · intro j _ h2
    simp (disch := omega) [zc_Parts_fromLeft_1, zmeth, xm_en, zret, zretz, zretv, zseq, zst, zinc, zkl, zskip, zk, zi, za, zbin, zdiv, zrem, zgi, zgr, zld, zldr, zlen, zn, zc, zcall, zcallv, zrcv, zdo, zdov, zpf, zpfc, zas, zasc, zmin, zmax, zcmp, zcz, zand_e, zor_e, zite_e, zbite_e, zif_e, znot_e, z_add, z_sub, z_mul, z_and, z_or, z_xor, z_shl, z_shr, zcpy, -List.getElem?_cons_succ, zg_0, zg_1, zg_2, zg_3, zg_4, zg_5, zg_6, zg_7, zg_8, zg_9, zc_lt, zc_le, zc_gt, zc_ge, zc_eq, zc_ne, zc_lt0, zc_ge0, zc_gt0, zc_eq0, zc_ne0, zb_ne, zb_eq, zb_01, z_00, z_01, z_11, zb_f, zb_T, zb_F, zbm1, zbm2, zbm5, zbm6, zbm3, zbm4, nI_clamp, zmod_n, pk_div, nI_ne0, pk_mul, nI_add, nI_1, ztb_tag hk, h.1, h2]
  · intro j _ h2
    have hm := qT_mul hk h h8 hf hx h2
    have hl := hf x j hx h2
    have hh := qP_has (M := M) hs (show j < 32 by omega)
    cases hb : s.testBit j with
    | false =>
      rw [hb] at hh
      simp (disch := omega) [zs_Parts_fromLeft_1, zmeth, xm_en, zret, zretz, zretv, zseq, zst, zinc, zkl, zskip, zk, zi, za, zbin, zdiv, zrem, zgi, zgr, zld, zldr, zlen, zn, zc, zcall, zcallv, zrcv, zdo, zdov, zpf, zpfc, zas, zasc, zmin, zmax, zcmp, zcz, zand_e, zor_e, zite_e, zbite_e, zif_e, znot_e, z_add, z_sub, z_mul, z_and, z_or, z_xor, z_shl, z_shr, zcpy, -List.getElem?_cons_succ, zg_0, zg_1, zg_2, zg_3, zg_4, zg_5, zg_6, zg_7, zg_8, zg_9, zc_lt, zc_le, zc_gt, zc_ge, zc_eq, zc_ne, zc_lt0, zc_ge0, zc_gt0, zc_eq0, zc_ne0, zb_ne, zb_eq, zb_01, z_00, z_01, z_11, zb_f, zb_T, zb_F, zbm1, zbm2, zbm5, zbm6, zbm3, zbm4, nI_clamp, zmod_n, pk_div, nI_ne0, pk_mul, nI_add, nI_1, hh, zim_s, hb]
    | true =>
      rw [hb] at hh
      simp (disch := omega) [zs_Parts_fromLeft_1, zmeth, xm_en, zret, zretz, zretv, zseq, zst, zinc, zkl, zskip, zk, zi, za, zbin, zdiv, zrem, zgi, zgr, zld, zldr, zlen, zn, zc, zcall, zcallv, zrcv, zdo, zdov, zpf, zpfc, zas, zasc, zmin, zmax, zcmp, zcz, zand_e, zor_e, zite_e, zbite_e, zif_e, znot_e, z_add, z_sub, z_mul, z_and, z_or, z_xor, z_shl, z_shr, zcpy, -List.getElem?_cons_succ, zg_0, zg_1, zg_2, zg_3, zg_4, zg_5, zg_6, zg_7, zg_8, zg_9, zc_lt, zc_le, zc_gt, zc_ge, zc_eq, zc_ne, zc_lt0, zc_ge0, zc_gt0, zc_eq0, zc_ne0, zb_ne, zb_eq, zb_01, z_00, z_01, z_11, zb_f, zb_T, zb_F, zbm1, zbm2, zbm5, zbm6, zbm3, zbm4, nI_clamp, zmod_n, pk_div, nI_ne0, pk_mul, nI_add, nI_1, nI_or, nI_shl1, nI_bit, zb_eq1, ztb_tag hk, hh, hm, zim_s, hb]
  · simp (disch := omega) [zc_Parts_fromLeft_1, zmeth, xm_en, zret, zretz, zretv, zseq, zst, zinc, zkl, zskip, zk, zi, za, zbin, zdiv, zrem, zgi, zgr, zld, zldr, zlen, zn, zc, zcall, zcallv, zrcv, zdo, zdov, zpf, zpfc, zas, zasc, zmin, zmax, zcmp, zcz, zand_e, zor_e, zite_e, zbite_e, zif_e, znot_e, z_add, z_sub, z_mul, z_and, z_or, z_xor, z_shl, z_shr, zcpy, -List.getElem?_cons_succ, zg_0, zg_1, zg_2, zg_3, zg_4, zg_5, zg_6, zg_7, zg_8, zg_9, zc_lt, zc_le, zc_gt, zc_ge, zc_eq, zc_ne, zc_lt0, zc_ge0, zc_gt0, zc_eq0, zc_ne0, zb_ne, zb_eq, zb_01, z_00, z_01, z_11, zb_f, zb_T, zb_F, zbm1, zbm2, zbm5, zbm6, zbm3, zbm4, nI_clamp, zmod_n, pk_div, nI_ne0, pk_mul, nI_add, nI_1, ztb_tag hk, h.1]
theorem qP_fromRight {M : zM} {k n x s : Nat} {c : tC} (hk : ztb k) (h : kT M k n c) (h8 : n ≤ 8) (hf : tF n c) (hx : x < n) (hs : s < 2 ^ 31) : zf_Parts_fromRight [.ref k, .int (nI s), .int (nI x)] M = some (some (nI (tRt n c s x)), M) := by
  have hp := p8 h8
  have R := zwh_up (c := zc_Parts_fromRight_1) (s := zs_Parts_fromRight_1) (fun j => [some (Value.ref (k)), some (Value.int (nI s)), some (Value.int (nI x)), some (Value.int (nI (zim (fun a => c a x) (fun b => s.testBit b) j))), some (Value.int (nI j))]) (fun _ => M) (n := n) n 0 (by omega) ?_ ?_ ?_
  · have e0 : zim (fun a => c a x) (fun b => s.testBit b) 0 = 0 := rfl
    rw [e0] at R
    simp (disch := omega) [zf_Parts_fromRight, zmeth, xm_en, zret, zretz, zretv, zseq, zst, zinc, zkl, zskip, zk, zi, za, zbin, zdiv, zrem, zgi, zgr, zld, zldr, zlen, zn, zc, zcall, zcallv, zrcv, zdo, zdov, zpf, zpfc, zas, zasc, zmin, zmax, zcmp, zcz, zand_e, zor_e, zite_e, zbite_e, zif_e, znot_e, z_add, z_sub, z_mul, z_and, z_or, z_xor, z_shl, z_shr, zcpy, -List.getElem?_cons_succ, zg_0, zg_1, zg_2, zg_3, zg_4, zg_5, zg_6, zg_7, zg_8, zg_9, R, tRt]
  · intro j _ h2
    simp (disch := omega) [zc_Parts_fromRight_1, zmeth, xm_en, zret, zretz, zretv, zseq, zst, zinc, zkl, zskip, zk, zi, za, zbin, zdiv, zrem, zgi, zgr, zld, zldr, zlen, zn, zc, zcall, zcallv, zrcv, zdo, zdov, zpf, zpfc, zas, zasc, zmin, zmax, zcmp, zcz, zand_e, zor_e, zite_e, zbite_e, zif_e, znot_e, z_add, z_sub, z_mul, z_and, z_or, z_xor, z_shl, z_shr, zcpy, -List.getElem?_cons_succ, zg_0, zg_1, zg_2, zg_3, zg_4, zg_5, zg_6, zg_7, zg_8, zg_9, zc_lt, zc_le, zc_gt, zc_ge, zc_eq, zc_ne, zc_lt0, zc_ge0, zc_gt0, zc_eq0, zc_ne0, zb_ne, zb_eq, zb_01, z_00, z_01, z_11, zb_f, zb_T, zb_F, zbm1, zbm2, zbm5, zbm6, zbm3, zbm4, nI_clamp, zmod_n, pk_div, nI_ne0, pk_mul, nI_add, nI_1, ztb_tag hk, h.1, h2]
  · intro j _ h2
    have hm := qT_mul hk h h8 hf h2 hx
    have hl := hf j x h2 hx
    have hh := qP_has (M := M) hs (show j < 32 by omega)
    cases hb : s.testBit j with
    | false =>
      rw [hb] at hh
      simp (disch := omega) [zs_Parts_fromRight_1, zmeth, xm_en, zret, zretz, zretv, zseq, zst, zinc, zkl, zskip, zk, zi, za, zbin, zdiv, zrem, zgi, zgr, zld, zldr, zlen, zn, zc, zcall, zcallv, zrcv, zdo, zdov, zpf, zpfc, zas, zasc, zmin, zmax, zcmp, zcz, zand_e, zor_e, zite_e, zbite_e, zif_e, znot_e, z_add, z_sub, z_mul, z_and, z_or, z_xor, z_shl, z_shr, zcpy, -List.getElem?_cons_succ, zg_0, zg_1, zg_2, zg_3, zg_4, zg_5, zg_6, zg_7, zg_8, zg_9, zc_lt, zc_le, zc_gt, zc_ge, zc_eq, zc_ne, zc_lt0, zc_ge0, zc_gt0, zc_eq0, zc_ne0, zb_ne, zb_eq, zb_01, z_00, z_01, z_11, zb_f, zb_T, zb_F, zbm1, zbm2, zbm5, zbm6, zbm3, zbm4, nI_clamp, zmod_n, pk_div, nI_ne0, pk_mul, nI_add, nI_1, hh, zim_s, hb]
    | true =>
      rw [hb] at hh
      simp (disch := omega) [zs_Parts_fromRight_1, zmeth, xm_en, zret, zretz, zretv, zseq, zst, zinc, zkl, zskip, zk, zi, za, zbin, zdiv, zrem, zgi, zgr, zld, zldr, zlen, zn, zc, zcall, zcallv, zrcv, zdo, zdov, zpf, zpfc, zas, zasc, zmin, zmax, zcmp, zcz, zand_e, zor_e, zite_e, zbite_e, zif_e, znot_e, z_add, z_sub, z_mul, z_and, z_or, z_xor, z_shl, z_shr, zcpy, -List.getElem?_cons_succ, zg_0, zg_1, zg_2, zg_3, zg_4, zg_5, zg_6, zg_7, zg_8, zg_9, zc_lt, zc_le, zc_gt, zc_ge, zc_eq, zc_ne, zc_lt0, zc_ge0, zc_gt0, zc_eq0, zc_ne0, zb_ne, zb_eq, zb_01, z_00, z_01, z_11, zb_f, zb_T, zb_F, zbm1, zbm2, zbm5, zbm6, zbm3, zbm4, nI_clamp, zmod_n, pk_div, nI_ne0, pk_mul, nI_add, nI_1, nI_or, nI_shl1, nI_bit, zb_eq1, ztb_tag hk, hh, hm, zim_s, hb]
  · simp (disch := omega) [zc_Parts_fromRight_1, zmeth, xm_en, zret, zretz, zretv, zseq, zst, zinc, zkl, zskip, zk, zi, za, zbin, zdiv, zrem, zgi, zgr, zld, zldr, zlen, zn, zc, zcall, zcallv, zrcv, zdo, zdov, zpf, zpfc, zas, zasc, zmin, zmax, zcmp, zcz, zand_e, zor_e, zite_e, zbite_e, zif_e, znot_e, z_add, z_sub, z_mul, z_and, z_or, z_xor, z_shl, z_shr, zcpy, -List.getElem?_cons_succ, zg_0, zg_1, zg_2, zg_3, zg_4, zg_5, zg_6, zg_7, zg_8, zg_9, zc_lt, zc_le, zc_gt, zc_ge, zc_eq, zc_ne, zc_lt0, zc_ge0, zc_gt0, zc_eq0, zc_ne0, zb_ne, zb_eq, zb_01, z_00, z_01, z_11, zb_f, zb_T, zb_F, zbm1, zbm2, zbm5, zbm6, zbm3, zbm4, nI_clamp, zmod_n, pk_div, nI_ne0, pk_mul, nI_add, nI_1, ztb_tag hk, h.1]
theorem qM_timesL {M : zM} {t n x s : Nat} {c : tC} (ht : t < 6) (h : rT M t n c) (h8 : n ≤ 8) (hf : tF n c) (hx : x < n) (hs : s < 2 ^ 31) : zf_M_times [.ref 32, .int (nI t), .int (nI x), .int (nI s), .int (nI 1)] M = some (some (nI (tL n c x s)), M) := by
  have hp := p8 h8
  have R := zwh_up (c := zc_M_times_1) (s := zs_M_times_1) (fun j => [some (Value.ref (32)), some (Value.int (nI t)), some (Value.int (nI x)), some (Value.int (nI s)), some (Value.int (nI 1)), some (Value.int (nI (zim (fun b => c x b) (fun b => s.testBit b) j))), some (Value.int (nI j))]) (fun _ => M) (n := n) n 0 (by omega) ?_ ?_ ?_
  · have e0 : zim (fun b => c x b) (fun b => s.testBit b) 0 = 0 := rfl
    rw [e0] at R
    simp (disch := omega) [zf_M_times, zmeth, xm_en, zret, zretz, zretv, zseq, zst, zinc, zkl, zskip, zk, zi, za, zbin, zdiv, zrem, zgi, zgr, zld, zldr, zlen, zn, zc, zcall, zcallv, zrcv, zdo, zdov, zpf, zpfc, zas, zasc, zmin, zmax, zcmp, zcz, zand_e, zor_e, zite_e, zbite_e, zif_e, znot_e, z_add, z_sub, z_mul, z_and, z_or, z_xor, z_shl, z_shr, zcpy, -List.getElem?_cons_succ, zg_0, zg_1, zg_2, zg_3, zg_4, zg_5, zg_6, zg_7, zg_8, zg_9, R, tL]
  · intro j _ h2
    simp (disch := omega) [zc_M_times_1, zmeth, xm_en, zret, zretz, zretv, zseq, zst, zinc, zkl, zskip, zk, zi, za, zbin, zdiv, zrem, zgi, zgr, zld, zldr, zlen, zn, zc, zcall, zcallv, zrcv, zdo, zdov, zpf, zpfc, zas, zasc, zmin, zmax, zcmp, zcz, zand_e, zor_e, zite_e, zbite_e, zif_e, znot_e, z_add, z_sub, z_mul, z_and, z_or, z_xor, z_shl, z_shr, zcpy, -List.getElem?_cons_succ, zg_0, zg_1, zg_2, zg_3, zg_4, zg_5, zg_6, zg_7, zg_8, zg_9, zc_lt, zc_le, zc_gt, zc_ge, zc_eq, zc_ne, zc_lt0, zc_ge0, zc_gt0, zc_eq0, zc_ne0, zb_ne, zb_eq, zb_01, z_00, z_01, z_11, zb_f, zb_T, zb_F, zbm1, zbm2, zbm5, zbm6, zbm3, zbm4, nI_clamp, zmod_n, pk_div, nI_ne0, pk_mul, nI_add, nI_1, zt_0, zt_12, zt_20, zt_26, zt_32, zf_0_0, zf_0_1, zf_0_2, zf_0_3, zf_0_4, zf_12_0, zf_12_1, zf_12_2, zf_12_4, zf_12_5, zf_20_1, zf_20_2, zf_20_3, zf_20_4, zf_20_6, zf_26_0, zf_26_1, zf_26_2, zf_26_3, zf_32_0, zf_32_1, zf_32_3, zf_32_4, zf_32_5, zf_32_6, zi_33, h.1, h2]
  · intro j _ h2
    have hm := qM_mul ht h h8 hf hx h2
    have hl := hf x j hx h2
    have hh := qM_has (M := M) hs (show j < 32 by omega)
    cases hb : s.testBit j with
    | false =>
      rw [hb] at hh
      simp (disch := omega) [zs_M_times_1, zmeth, xm_en, zret, zretz, zretv, zseq, zst, zinc, zkl, zskip, zk, zi, za, zbin, zdiv, zrem, zgi, zgr, zld, zldr, zlen, zn, zc, zcall, zcallv, zrcv, zdo, zdov, zpf, zpfc, zas, zasc, zmin, zmax, zcmp, zcz, zand_e, zor_e, zite_e, zbite_e, zif_e, znot_e, z_add, z_sub, z_mul, z_and, z_or, z_xor, z_shl, z_shr, zcpy, -List.getElem?_cons_succ, zg_0, zg_1, zg_2, zg_3, zg_4, zg_5, zg_6, zg_7, zg_8, zg_9, zc_lt, zc_le, zc_gt, zc_ge, zc_eq, zc_ne, zc_lt0, zc_ge0, zc_gt0, zc_eq0, zc_ne0, zb_ne, zb_eq, zb_01, z_00, z_01, z_11, zb_f, zb_T, zb_F, zbm1, zbm2, zbm5, zbm6, zbm3, zbm4, nI_clamp, zmod_n, pk_div, nI_ne0, pk_mul, nI_add, nI_1, nI_or, nI_shl1, nI_bit, zb_eq1, hh, zim_s, hb]
    | true =>
      rw [hb] at hh
      simp (disch := omega) [zs_M_times_1, zmeth, xm_en, zret, zretz, zretv, zseq, zst, zinc, zkl, zskip, zk, zi, za, zbin, zdiv, zrem, zgi, zgr, zld, zldr, zlen, zn, zc, zcall, zcallv, zrcv, zdo, zdov, zpf, zpfc, zas, zasc, zmin, zmax, zcmp, zcz, zand_e, zor_e, zite_e, zbite_e, zif_e, znot_e, z_add, z_sub, z_mul, z_and, z_or, z_xor, z_shl, z_shr, zcpy, -List.getElem?_cons_succ, zg_0, zg_1, zg_2, zg_3, zg_4, zg_5, zg_6, zg_7, zg_8, zg_9, zc_lt, zc_le, zc_gt, zc_ge, zc_eq, zc_ne, zc_lt0, zc_ge0, zc_gt0, zc_eq0, zc_ne0, zb_ne, zb_eq, zb_01, z_00, z_01, z_11, zb_f, zb_T, zb_F, zbm1, zbm2, zbm5, zbm6, zbm3, zbm4, nI_clamp, zmod_n, pk_div, nI_ne0, pk_mul, nI_add, nI_1, nI_or, nI_shl1, nI_bit, zb_eq1, zt_0, zt_12, zt_20, zt_26, zt_32, zf_0_0, zf_0_1, zf_0_2, zf_0_3, zf_0_4, zf_12_0, zf_12_1, zf_12_2, zf_12_4, zf_12_5, zf_20_1, zf_20_2, zf_20_3, zf_20_4, zf_20_6, zf_26_0, zf_26_1, zf_26_2, zf_26_3, zf_32_0, zf_32_1, zf_32_3, zf_32_4, zf_32_5, zf_32_6, hh, hm, zim_s, hb]
  · simp (disch := omega) [zc_M_times_1, zmeth, xm_en, zret, zretz, zretv, zseq, zst, zinc, zkl, zskip, zk, zi, za, zbin, zdiv, zrem, zgi, zgr, zld, zldr, zlen, zn, zc, zcall, zcallv, zrcv, zdo, zdov, zpf, zpfc, zas, zasc, zmin, zmax, zcmp, zcz, zand_e, zor_e, zite_e, zbite_e, zif_e, znot_e, z_add, z_sub, z_mul, z_and, z_or, z_xor, z_shl, z_shr, zcpy, -List.getElem?_cons_succ, zg_0, zg_1, zg_2, zg_3, zg_4, zg_5, zg_6, zg_7, zg_8, zg_9, zc_lt, zc_le, zc_gt, zc_ge, zc_eq, zc_ne, zc_lt0, zc_ge0, zc_gt0, zc_eq0, zc_ne0, zb_ne, zb_eq, zb_01, z_00, z_01, z_11, zb_f, zb_T, zb_F, zbm1, zbm2, zbm5, zbm6, zbm3, zbm4, nI_clamp, zmod_n, pk_div, nI_ne0, pk_mul, nI_add, nI_1, zt_0, zt_12, zt_20, zt_26, zt_32, zf_0_0, zf_0_1, zf_0_2, zf_0_3, zf_0_4, zf_12_0, zf_12_1, zf_12_2, zf_12_4, zf_12_5, zf_20_1, zf_20_2, zf_20_3, zf_20_4, zf_20_6, zf_26_0, zf_26_1, zf_26_2, zf_26_3, zf_32_0, zf_32_1, zf_32_3, zf_32_4, zf_32_5, zf_32_6, zi_33, h.1]
theorem qM_timesR {M : zM} {t n x s : Nat} {c : tC} (ht : t < 6) (h : rT M t n c) (h8 : n ≤ 8) (hf : tF n c) (hx : x < n) (hs : s < 2 ^ 31) : zf_M_times [.ref 32, .int (nI t), .int (nI x), .int (nI s), .int (nI 0)] M = some (some (nI (tRt n c s x)), M) := by
  have hp := p8 h8
  have R := zwh_up (c := zc_M_times_1) (s := zs_M_times_1) (fun j => [some (Value.ref (32)), some (Value.int (nI t)), some (Value.int (nI x)), some (Value.int (nI s)), some (Value.int (nI 0)), some (Value.int (nI (zim (fun a => c a x) (fun b => s.testBit b) j))), some (Value.int (nI j))]) (fun _ => M) (n := n) n 0 (by omega) ?_ ?_ ?_
  · have e0 : zim (fun a => c a x) (fun b => s.testBit b) 0 = 0 := rfl
    rw [e0] at R
    simp (disch := omega) [zf_M_times, zmeth, xm_en, zret, zretz, zretv, zseq, zst, zinc, zkl, zskip, zk, zi, za, zbin, zdiv, zrem, zgi, zgr, zld, zldr, zlen, zn, zc, zcall, zcallv, zrcv, zdo, zdov, zpf, zpfc, zas, zasc, zmin, zmax, zcmp, zcz, zand_e, zor_e, zite_e, zbite_e, zif_e, znot_e, z_add, z_sub, z_mul, z_and, z_or, z_xor, z_shl, z_shr, zcpy, -List.getElem?_cons_succ, zg_0, zg_1, zg_2, zg_3, zg_4, zg_5, zg_6, zg_7, zg_8, zg_9, R, tRt]
  · intro j _ h2
    simp (disch := omega) [zc_M_times_1, zmeth, xm_en, zret, zretz, zretv, zseq, zst, zinc, zkl, zskip, zk, zi, za, zbin, zdiv, zrem, zgi, zgr, zld, zldr, zlen, zn, zc, zcall, zcallv, zrcv, zdo, zdov, zpf, zpfc, zas, zasc, zmin, zmax, zcmp, zcz, zand_e, zor_e, zite_e, zbite_e, zif_e, znot_e, z_add, z_sub, z_mul, z_and, z_or, z_xor, z_shl, z_shr, zcpy, -List.getElem?_cons_succ, zg_0, zg_1, zg_2, zg_3, zg_4, zg_5, zg_6, zg_7, zg_8, zg_9, zc_lt, zc_le, zc_gt, zc_ge, zc_eq, zc_ne, zc_lt0, zc_ge0, zc_gt0, zc_eq0, zc_ne0, zb_ne, zb_eq, zb_01, z_00, z_01, z_11, zb_f, zb_T, zb_F, zbm1, zbm2, zbm5, zbm6, zbm3, zbm4, nI_clamp, zmod_n, pk_div, nI_ne0, pk_mul, nI_add, nI_1, zt_0, zt_12, zt_20, zt_26, zt_32, zf_0_0, zf_0_1, zf_0_2, zf_0_3, zf_0_4, zf_12_0, zf_12_1, zf_12_2, zf_12_4, zf_12_5, zf_20_1, zf_20_2, zf_20_3, zf_20_4, zf_20_6, zf_26_0, zf_26_1, zf_26_2, zf_26_3, zf_32_0, zf_32_1, zf_32_3, zf_32_4, zf_32_5, zf_32_6, zi_33, h.1, h2]
  · intro j _ h2
    have hm := qM_mul ht h h8 hf h2 hx
    have hl := hf j x h2 hx
    have hh := qM_has (M := M) hs (show j < 32 by omega)
    cases hb : s.testBit j with
    | false =>
      rw [hb] at hh
      simp (disch := omega) [zs_M_times_1, zmeth, xm_en, zret, zretz, zretv, zseq, zst, zinc, zkl, zskip, zk, zi, za, zbin, zdiv, zrem, zgi, zgr, zld, zldr, zlen, zn, zc, zcall, zcallv, zrcv, zdo, zdov, zpf, zpfc, zas, zasc, zmin, zmax, zcmp, zcz, zand_e, zor_e, zite_e, zbite_e, zif_e, znot_e, z_add, z_sub, z_mul, z_and, z_or, z_xor, z_shl, z_shr, zcpy, -List.getElem?_cons_succ, zg_0, zg_1, zg_2, zg_3, zg_4, zg_5, zg_6, zg_7, zg_8, zg_9, zc_lt, zc_le, zc_gt, zc_ge, zc_eq, zc_ne, zc_lt0, zc_ge0, zc_gt0, zc_eq0, zc_ne0, zb_ne, zb_eq, zb_01, z_00, z_01, z_11, zb_f, zb_T, zb_F, zbm1, zbm2, zbm5, zbm6, zbm3, zbm4, nI_clamp, zmod_n, pk_div, nI_ne0, pk_mul, nI_add, nI_1, nI_or, nI_shl1, nI_bit, zb_eq1, hh, zim_s, hb]
    | true =>
      rw [hb] at hh
      simp (disch := omega) [zs_M_times_1, zmeth, xm_en, zret, zretz, zretv, zseq, zst, zinc, zkl, zskip, zk, zi, za, zbin, zdiv, zrem, zgi, zgr, zld, zldr, zlen, zn, zc, zcall, zcallv, zrcv, zdo, zdov, zpf, zpfc, zas, zasc, zmin, zmax, zcmp, zcz, zand_e, zor_e, zite_e, zbite_e, zif_e, znot_e, z_add, z_sub, z_mul, z_and, z_or, z_xor, z_shl, z_shr, zcpy, -List.getElem?_cons_succ, zg_0, zg_1, zg_2, zg_3, zg_4, zg_5, zg_6, zg_7, zg_8, zg_9, zc_lt, zc_le, zc_gt, zc_ge, zc_eq, zc_ne, zc_lt0, zc_ge0, zc_gt0, zc_eq0, zc_ne0, zb_ne, zb_eq, zb_01, z_00, z_01, z_11, zb_f, zb_T, zb_F, zbm1, zbm2, zbm5, zbm6, zbm3, zbm4, nI_clamp, zmod_n, pk_div, nI_ne0, pk_mul, nI_add, nI_1, nI_or, nI_shl1, nI_bit, zb_eq1, zt_0, zt_12, zt_20, zt_26, zt_32, zf_0_0, zf_0_1, zf_0_2, zf_0_3, zf_0_4, zf_12_0, zf_12_1, zf_12_2, zf_12_4, zf_12_5, zf_20_1, zf_20_2, zf_20_3, zf_20_4, zf_20_6, zf_26_0, zf_26_1, zf_26_2, zf_26_3, zf_32_0, zf_32_1, zf_32_3, zf_32_4, zf_32_5, zf_32_6, hh, hm, zim_s, hb]
  · simp (disch := omega) [zc_M_times_1, zmeth, xm_en, zret, zretz, zretv, zseq, zst, zinc, zkl, zskip, zk, zi, za, zbin, zdiv, zrem, zgi, zgr, zld, zldr, zlen, zn, zc, zcall, zcallv, zrcv, zdo, zdov, zpf, zpfc, zas, zasc, zmin, zmax, zcmp, zcz, zand_e, zor_e, zite_e, zbite_e, zif_e, znot_e, z_add, z_sub, z_mul, z_and, z_or, z_xor, z_shl, z_shr, zcpy, -List.getElem?_cons_succ, zg_0, zg_1, zg_2, zg_3, zg_4, zg_5, zg_6, zg_7, zg_8, zg_9, zc_lt, zc_le, zc_gt, zc_ge, zc_eq, zc_ne, zc_lt0, zc_ge0, zc_gt0, zc_eq0, zc_ne0, zb_ne, zb_eq, zb_01, z_00, z_01, z_11, zb_f, zb_T, zb_F, zbm1, zbm2, zbm5, zbm6, zbm3, zbm4, nI_clamp, zmod_n, pk_div, nI_ne0, pk_mul, nI_add, nI_1, zt_0, zt_12, zt_20, zt_26, zt_32, zf_0_0, zf_0_1, zf_0_2, zf_0_3, zf_0_4, zf_12_0, zf_12_1, zf_12_2, zf_12_4, zf_12_5, zf_20_1, zf_20_2, zf_20_3, zf_20_4, zf_20_6, zf_26_0, zf_26_1, zf_26_2, zf_26_3, zf_32_0, zf_32_1, zf_32_3, zf_32_4, zf_32_5, zf_32_6, zi_33, h.1]
theorem zwh_finde {c : zB} {s : zS} (L : Nat → zL) (N : zM) (p : Nat → Bool) (v : Nat → Option Int32) {n : Nat} (he : c (L n) N = some (false, N)) : ∀ (d i : Nat), i + d = n → (∀ j, i ≤ j → j < n → c (L j) N = some (true, N)) → (∀ j, i ≤ j → j < n → p j = false → s (L j) N = some (none, L (j + 1), N)) → (∀ j, i ≤ j → j < n → p j = true → ∃ ls', s (L j) N = some (some (v j), ls', N)) → ∃ ls', zwh c s (L i) N = if zidx p i d < n then some (some (v (zidx p i d)), ls', N) else some (none, L n, N)
  | 0, i, h, _, _, _ => by
    have : i = n := by omega
    subst this
    refine ⟨[], ?_⟩
    rw [if_neg (by unfold zidx; omega)]
    exact zwh_f he
  | d + 1, i, h, hc, hs, hr => by
    unfold zidx
    cases hp : p i with
    | true =>
      obtain ⟨ls', g⟩ := hr i (Nat.le_refl _) (by omega) hp
      refine ⟨ls', ?_⟩
      dsimp only [cond]
      rw [if_pos (by omega)]
      exact zwh_r (hc i (Nat.le_refl _) (by omega)) g
    | false =>
      obtain ⟨ls', ih⟩ := zwh_finde L N p v he d (i + 1) (by omega) (fun j h1 h2 => hc j (by omega) h2) (fun j h1 h2 => hs j (by omega) h2) (fun j h1 h2 => hr j (by omega) h2)
      refine ⟨ls', ?_⟩
      dsimp only [cond]
      split at ih
      · rename_i h9
        rw [if_pos h9]
        exact zwh_t (hc i (Nat.le_refl _) (by omega)) (hs i (Nat.le_refl _) (by omega) hp) ih
      · rename_i h9
        rw [if_neg h9]
        exact zwh_t (hc i (Nat.le_refl _) (by omega)) (hs i (Nat.le_refl _) (by omega) hp) ih
/-! normal -/
def nm2 (n : Nat) (c : tC) (h x y : Nat) : Bool := decide (tL n c x (tL n c y h) = tL n c (c x y) h) && decide (tRt n c (tRt n c h x) y = tRt n c h (c x y))
def nm1 (n : Nat) (c : tC) (h x : Nat) : Bool := decide (tL n c x h = tRt n c h x) && zall (nm2 n c h x) n
def tNm (n : Nat) (c : tC) (h : Nat) : Bool := zall (nm1 n c h) n
theorem zall_idx {p : Nat → Bool} {n : Nat} : zall p n = !decide (zidx (fun i => !p i) 0 n < n) := by
  rw [Bool.eq_iff_iff, zall_t]
  simp only [Bool.not_eq_true', decide_eq_false_iff_not]
  constructor
  · intro h g
    have := zidx_lt (p := fun i => !p i) n 0 (by omega)
    rw [h _ g] at this
    cases this
  · intro h i hi
    have := zidx_no (p := fun i => !p i) n 0 i (by omega) (by omega)
    simpa using this
theorem qP_nm2 {M : zM} {k n x s : Nat} {c : tC} (hk : ztb k) (h : kT M k n c) (h8 : n ≤ 8) (hf : tF n c) (hx : x < n) (hs : s < 2 ^ 31) : ∃ ls', zwh zc_Parts_isNormal_2 zs_Parts_isNormal_2 [some (Value.ref (k)), some (Value.int (nI s)), some (Value.int (nI x)), some (Value.int (nI 0)), none] M = if zidx (fun y => !nm2 n c s x y) 0 n < n then some (some (some (nI 0)), ls', M) else some (none, [some (Value.ref (k)), some (Value.int (nI s)), some (Value.int (nI x)), some (Value.int (nI n)), none], M) := by
  have hp := p8 h8
  refine ⟨_, zwh_find (c := zc_Parts_isNormal_2) (s := zs_Parts_isNormal_2) (fun j => [some (Value.ref (k)), some (Value.int (nI s)), some (Value.int (nI x)), some (Value.int (nI j)), none]) M (fun y => !nm2 n c s x y) (fun _ => some (nI 0)) (fun j => [some (Value.ref (k)), some (Value.int (nI s)), some (Value.int (nI x)), some (Value.int (nI j)), some (Value.int (nI (c x j)))]) (n := n) ?_ n 0 (by omega) ?_ ?_ ?_⟩
  · simp (disch := omega) [zc_Parts_isNormal_2, zmeth, xm_en, zret, zretz, zretv, zseq, zst, zinc, zkl, zskip, zk, zi, za, zbin, zdiv, zrem, zgi, zgr, zld, zldr, zlen, zn, zc, zcall, zcallv, zrcv, zdo, zdov, zpf, zpfc, zas, zasc, zmin, zmax, zcmp, zcz, zand_e, zor_e, zite_e, zbite_e, zif_e, znot_e, z_add, z_sub, z_mul, z_and, z_or, z_xor, z_shl, z_shr, zcpy, -List.getElem?_cons_succ, zg_0, zg_1, zg_2, zg_3, zg_4, zg_5, zg_6, zg_7, zg_8, zg_9, zc_lt, zc_le, zc_gt, zc_ge, zc_eq, zc_ne, zc_lt0, zc_ge0, zc_gt0, zc_eq0, zc_ne0, zb_ne, zb_eq, zb_01, z_00, z_01, z_11, zb_f, zb_T, zb_F, zbm1, zbm2, zbm5, zbm6, zbm3, zbm4, nI_clamp, zmod_n, pk_div, nI_ne0, pk_mul, nI_add, nI_1, ztb_tag hk, h.1]
  · intro j _ h2
    simp (disch := omega) [zc_Parts_isNormal_2, zmeth, xm_en, zret, zretz, zretv, zseq, zst, zinc, zkl, zskip, zk, zi, za, zbin, zdiv, zrem, zgi, zgr, zld, zldr, zlen, zn, zc, zcall, zcallv, zrcv, zdo, zdov, zpf, zpfc, zas, zasc, zmin, zmax, zcmp, zcz, zand_e, zor_e, zite_e, zbite_e, zif_e, znot_e, z_add, z_sub, z_mul, z_and, z_or, z_xor, z_shl, z_shr, zcpy, -List.getElem?_cons_succ, zg_0, zg_1, zg_2, zg_3, zg_4, zg_5, zg_6, zg_7, zg_8, zg_9, zc_lt, zc_le, zc_gt, zc_ge, zc_eq, zc_ne, zc_lt0, zc_ge0, zc_gt0, zc_eq0, zc_ne0, zb_ne, zb_eq, zb_01, z_00, z_01, z_11, zb_f, zb_T, zb_F, zbm1, zbm2, zbm5, zbm6, zbm3, zbm4, nI_clamp, zmod_n, pk_div, nI_ne0, pk_mul, nI_add, nI_1, ztb_tag hk, h.1, h2]
  all_goals
    intro j _ h2 hq
    have hxy := hf x j hx h2
    have l1 := tL_lt (s := s) hf h2
    have l2 := tL_lt (s := tL n c j s) hf hx
    have l3 := tL_lt (s := s) hf hxy
    have r1 := tRt_lt (s := s) hf hx
    have r2 := tRt_lt (s := tRt n c s x) hf h2
    have r3 := tRt_lt (s := s) hf hxy
    have m0 := qT_mul hk h h8 hf hx h2
    have a1 := qP_fromLeft hk h h8 hf h2 hs
    have a2 := qP_fromLeft (s := tL n c j s) hk h h8 hf hx (by omega)
    have a3 := qP_fromLeft hk h h8 hf hxy hs
    have b1 := qP_fromRight hk h h8 hf hx hs
    have b2 := qP_fromRight (s := tRt n c s x) hk h h8 hf h2 (by omega)
    have b3 := qP_fromRight hk h h8 hf hxy hs
  · simp only [nm2, Bool.not_eq_false', Bool.and_eq_true, decide_eq_true_eq] at hq
    simp (disch := omega) [zs_Parts_isNormal_2, zmeth, xm_en, zret, zretz, zretv, zseq, zst, zinc, zkl, zskip, zk, zi, za, zbin, zdiv, zrem, zgi, zgr, zld, zldr, zlen, zn, zc, zcall, zcallv, zrcv, zdo, zdov, zpf, zpfc, zas, zasc, zmin, zmax, zcmp, zcz, zand_e, zor_e, zite_e, zbite_e, zif_e, znot_e, z_add, z_sub, z_mul, z_and, z_or, z_xor, z_shl, z_shr, zcpy, -List.getElem?_cons_succ, zg_0, zg_1, zg_2, zg_3, zg_4, zg_5, zg_6, zg_7, zg_8, zg_9, zc_lt, zc_le, zc_gt, zc_ge, zc_eq, zc_ne, zc_lt0, zc_ge0, zc_gt0, zc_eq0, zc_ne0, zb_ne, zb_eq, zb_01, z_00, z_01, z_11, zb_f, zb_T, zb_F, zbm1, zbm2, zbm5, zbm6, zbm3, zbm4, nI_clamp, zmod_n, pk_div, nI_ne0, pk_mul, nI_add, nI_1, ztb_tag hk, m0, a1, a2, a3, b1, b2, b3, hq.1, hq.2]
  · simp only [nm2, Bool.not_eq_true', Bool.and_eq_false_iff, decide_eq_false_iff_not] at hq
    by_cases g1 : tL n c x (tL n c j s) = tL n c (c x j) s
    · have g2 : ¬ tRt n c (tRt n c s x) j = tRt n c s (c x j) := by
        rcases hq with hq | hq
        · exact absurd g1 hq
        · exact hq
      simp (disch := omega) [zs_Parts_isNormal_2, zmeth, xm_en, zret, zretz, zretv, zseq, zst, zinc, zkl, zskip, zk, zi, za, zbin, zdiv, zrem, zgi, zgr, zld, zldr, zlen, zn, zc, zcall, zcallv, zrcv, zdo, zdov, zpf, zpfc, zas, zasc, zmin, zmax, zcmp, zcz, zand_e, zor_e, zite_e, zbite_e, zif_e, znot_e, z_add, z_sub, z_mul, z_and, z_or, z_xor, z_shl, z_shr, zcpy, -List.getElem?_cons_succ, zg_0, zg_1, zg_2, zg_3, zg_4, zg_5, zg_6, zg_7, zg_8, zg_9, zc_lt, zc_le, zc_gt, zc_ge, zc_eq, zc_ne, zc_lt0, zc_ge0, zc_gt0, zc_eq0, zc_ne0, zb_ne, zb_eq, zb_01, z_00, z_01, z_11, zb_f, zb_T, zb_F, zbm1, zbm2, zbm5, zbm6, zbm3, zbm4, nI_clamp, zmod_n, pk_div, nI_ne0, pk_mul, nI_add, nI_1, ztb_tag hk, m0, a1, a2, a3, b1, b2, b3, g1, g2]
    · simp (disch := omega) [zs_Parts_isNormal_2, zmeth, xm_en, zret, zretz, zretv, zseq, zst, zinc, zkl, zskip, zk, zi, za, zbin, zdiv, zrem, zgi, zgr, zld, zldr, zlen, zn, zc, zcall, zcallv, zrcv, zdo, zdov, zpf, zpfc, zas, zasc, zmin, zmax, zcmp, zcz, zand_e, zor_e, zite_e, zbite_e, zif_e, znot_e, z_add, z_sub, z_mul, z_and, z_or, z_xor, z_shl, z_shr, zcpy, -List.getElem?_cons_succ, zg_0, zg_1, zg_2, zg_3, zg_4, zg_5, zg_6, zg_7, zg_8, zg_9, zc_lt, zc_le, zc_gt, zc_ge, zc_eq, zc_ne, zc_lt0, zc_ge0, zc_gt0, zc_eq0, zc_ne0, zb_ne, zb_eq, zb_01, z_00, z_01, z_11, zb_f, zb_T, zb_F, zbm1, zbm2, zbm5, zbm6, zbm3, zbm4, nI_clamp, zmod_n, pk_div, nI_ne0, pk_mul, nI_add, nI_1, ztb_tag hk, m0, a1, a2, a3, b1, b2, b3, g1]
theorem qP_isNormal {M : zM} {k n s : Nat} {c : tC} (hk : ztb k) (h : kT M k n c) (h8 : n ≤ 8) (hf : tF n c) (hs : s < 2 ^ 31) : zf_Parts_isNormal [.ref k, .int (nI s)] M = some (some (zb (tNm n c s)), M) := by
  have hp := p8 h8
  have L' : ∀ x, x < n → ∃ ls', zwh zc_Parts_isNormal_2 zs_Parts_isNormal_2 [some (Value.ref (k)), some (Value.int (nI s)), some (Value.int (nI x)), some (Value.int (nI 0)), none] M = if zidx (fun y => !nm2 n c s x y) 0 n < n then some (some (some (nI 0)), ls', M) else some (none, [some (Value.ref (k)), some (Value.int (nI s)), some (Value.int (nI x)), some (Value.int (nI n)), none], M) := fun x hx => qP_nm2 hk h h8 hf hx hs
  have step : ∀ j, j < n → ∃ ls', zs_Parts_isNormal_1 [some (Value.ref (k)), some (Value.int (nI s)), some (Value.int (nI j)), none, none] M = bif nm1 n c s j then some (none, [some (Value.ref (k)), some (Value.int (nI s)), some (Value.int (nI (j + 1))), none, none], M) else some (some (some (nI 0)), ls', M) := by
    intro j h2
    have a1 := qP_fromLeft hk h h8 hf h2 hs
    have b1 := qP_fromRight hk h h8 hf h2 hs
    have l1 := tL_lt (s := s) hf h2
    have r1 := tRt_lt (s := s) hf h2
    obtain ⟨ls', g⟩ := L' j h2
    by_cases g1 : tL n c j s = tRt n c s j
    · by_cases g2 : zidx (fun y => !nm2 n c s j y) 0 n < n
      · rw [if_pos g2] at g
        have e : nm1 n c s j = false := by
          unfold nm1
          rw [zall_idx, decide_eq_true g2]
          simp
        refine ⟨ls', ?_⟩
        rw [e]
        simp (disch := omega) [zs_Parts_isNormal_1, zmeth, xm_en, zret, zretz, zretv, zseq, zst, zinc, zkl, zskip, zk, zi, za, zbin, zdiv, zrem, zgi, zgr, zld, zldr, zlen, zn, zc, zcall, zcallv, zrcv, zdo, zdov, zpf, zpfc, zas, zasc, zmin, zmax, zcmp, zcz, zand_e, zor_e, zite_e, zbite_e, zif_e, znot_e, z_add, z_sub, z_mul, z_and, z_or, z_xor, z_shl, z_shr, zcpy, -List.getElem?_cons_succ, zg_0, zg_1, zg_2, zg_3, zg_4, zg_5, zg_6, zg_7, zg_8, zg_9, zc_lt, zc_le, zc_gt, zc_ge, zc_eq, zc_ne, zc_lt0, zc_ge0, zc_gt0, zc_eq0, zc_ne0, zb_ne, zb_eq, zb_01, z_00, z_01, z_11, zb_f, zb_T, zb_F, zbm1, zbm2, zbm5, zbm6, zbm3, zbm4, nI_clamp, zmod_n, pk_div, nI_ne0, pk_mul, nI_add, nI_1, a1, b1, g1, g]
      · rw [if_neg g2] at g
        have e : nm1 n c s j = true := by
          unfold nm1
          rw [zall_idx, decide_eq_false g2, decide_eq_true g1]
          rfl
        refine ⟨[], ?_⟩
        rw [e]
        simp (disch := omega) [zs_Parts_isNormal_1, zmeth, xm_en, zret, zretz, zretv, zseq, zst, zinc, zkl, zskip, zk, zi, za, zbin, zdiv, zrem, zgi, zgr, zld, zldr, zlen, zn, zc, zcall, zcallv, zrcv, zdo, zdov, zpf, zpfc, zas, zasc, zmin, zmax, zcmp, zcz, zand_e, zor_e, zite_e, zbite_e, zif_e, znot_e, z_add, z_sub, z_mul, z_and, z_or, z_xor, z_shl, z_shr, zcpy, -List.getElem?_cons_succ, zg_0, zg_1, zg_2, zg_3, zg_4, zg_5, zg_6, zg_7, zg_8, zg_9, zc_lt, zc_le, zc_gt, zc_ge, zc_eq, zc_ne, zc_lt0, zc_ge0, zc_gt0, zc_eq0, zc_ne0, zb_ne, zb_eq, zb_01, z_00, z_01, z_11, zb_f, zb_T, zb_F, zbm1, zbm2, zbm5, zbm6, zbm3, zbm4, nI_clamp, zmod_n, pk_div, nI_ne0, pk_mul, nI_add, nI_1, a1, b1, g1, g]
    · have e : nm1 n c s j = false := by
        unfold nm1
        rw [decide_eq_false g1]
        rfl
      refine ⟨[some (Value.ref (k)), some (Value.int (nI s)), some (Value.int (nI j)), none, none], ?_⟩
      rw [e]
      simp (disch := omega) [zs_Parts_isNormal_1, zmeth, xm_en, zret, zretz, zretv, zseq, zst, zinc, zkl, zskip, zk, zi, za, zbin, zdiv, zrem, zgi, zgr, zld, zldr, zlen, zn, zc, zcall, zcallv, zrcv, zdo, zdov, zpf, zpfc, zas, zasc, zmin, zmax, zcmp, zcz, zand_e, zor_e, zite_e, zbite_e, zif_e, znot_e, z_add, z_sub, z_mul, z_and, z_or, z_xor, z_shl, z_shr, zcpy, -List.getElem?_cons_succ, zg_0, zg_1, zg_2, zg_3, zg_4, zg_5, zg_6, zg_7, zg_8, zg_9, zc_lt, zc_le, zc_gt, zc_ge, zc_eq, zc_ne, zc_lt0, zc_ge0, zc_gt0, zc_eq0, zc_ne0, zb_ne, zb_eq, zb_01, z_00, z_01, z_11, zb_f, zb_T, zb_F, zbm1, zbm2, zbm5, zbm6, zbm3, zbm4, nI_clamp, zmod_n, pk_div, nI_ne0, pk_mul, nI_add, nI_1, a1, b1, g1]
  have R := zwh_finde (c := zc_Parts_isNormal_1) (s := zs_Parts_isNormal_1) (fun j => [some (Value.ref (k)), some (Value.int (nI s)), some (Value.int (nI j)), none, none]) M (fun x => !nm1 n c s x) (fun _ => some (nI 0)) (n := n) ?_ n 0 (by omega) ?_ ?_ ?_
  · obtain ⟨ls9, R⟩ := R
    unfold tNm
    rw [zall_idx]
    by_cases hz : zidx (fun x => !nm1 n c s x) 0 n < n
    · rw [if_pos hz] at R
      simp (disch := omega) [zf_Parts_isNormal, zmeth, xm_en, zret, zretz, zretv, zseq, zst, zinc, zkl, zskip, zk, zi, za, zbin, zdiv, zrem, zgi, zgr, zld, zldr, zlen, zn, zc, zcall, zcallv, zrcv, zdo, zdov, zpf, zpfc, zas, zasc, zmin, zmax, zcmp, zcz, zand_e, zor_e, zite_e, zbite_e, zif_e, znot_e, z_add, z_sub, z_mul, z_and, z_or, z_xor, z_shl, z_shr, zcpy, -List.getElem?_cons_succ, zg_0, zg_1, zg_2, zg_3, zg_4, zg_5, zg_6, zg_7, zg_8, zg_9, R, hz, zb, z_01]
    · rw [if_neg hz] at R
      simp (disch := omega) [zf_Parts_isNormal, zmeth, xm_en, zret, zretz, zretv, zseq, zst, zinc, zkl, zskip, zk, zi, za, zbin, zdiv, zrem, zgi, zgr, zld, zldr, zlen, zn, zc, zcall, zcallv, zrcv, zdo, zdov, zpf, zpfc, zas, zasc, zmin, zmax, zcmp, zcz, zand_e, zor_e, zite_e, zbite_e, zif_e, znot_e, z_add, z_sub, z_mul, z_and, z_or, z_xor, z_shl, z_shr, zcpy, -List.getElem?_cons_succ, zg_0, zg_1, zg_2, zg_3, zg_4, zg_5, zg_6, zg_7, zg_8, zg_9, R, hz, zb, z_01]
  · simp (disch := omega) [zc_Parts_isNormal_1, zmeth, xm_en, zret, zretz, zretv, zseq, zst, zinc, zkl, zskip, zk, zi, za, zbin, zdiv, zrem, zgi, zgr, zld, zldr, zlen, zn, zc, zcall, zcallv, zrcv, zdo, zdov, zpf, zpfc, zas, zasc, zmin, zmax, zcmp, zcz, zand_e, zor_e, zite_e, zbite_e, zif_e, znot_e, z_add, z_sub, z_mul, z_and, z_or, z_xor, z_shl, z_shr, zcpy, -List.getElem?_cons_succ, zg_0, zg_1, zg_2, zg_3, zg_4, zg_5, zg_6, zg_7, zg_8, zg_9, zc_lt, zc_le, zc_gt, zc_ge, zc_eq, zc_ne, zc_lt0, zc_ge0, zc_gt0, zc_eq0, zc_ne0, zb_ne, zb_eq, zb_01, z_00, z_01, z_11, zb_f, zb_T, zb_F, zbm1, zbm2, zbm5, zbm6, zbm3, zbm4, nI_clamp, zmod_n, pk_div, nI_ne0, pk_mul, nI_add, nI_1, ztb_tag hk, h.1]
  · intro j _ h2
    simp (disch := omega) [zc_Parts_isNormal_1, zmeth, xm_en, zret, zretz, zretv, zseq, zst, zinc, zkl, zskip, zk, zi, za, zbin, zdiv, zrem, zgi, zgr, zld, zldr, zlen, zn, zc, zcall, zcallv, zrcv, zdo, zdov, zpf, zpfc, zas, zasc, zmin, zmax, zcmp, zcz, zand_e, zor_e, zite_e, zbite_e, zif_e, znot_e, z_add, z_sub, z_mul, z_and, z_or, z_xor, z_shl, z_shr, zcpy, -List.getElem?_cons_succ, zg_0, zg_1, zg_2, zg_3, zg_4, zg_5, zg_6, zg_7, zg_8, zg_9, zc_lt, zc_le, zc_gt, zc_ge, zc_eq, zc_ne, zc_lt0, zc_ge0, zc_gt0, zc_eq0, zc_ne0, zb_ne, zb_eq, zb_01, z_00, z_01, z_11, zb_f, zb_T, zb_F, zbm1, zbm2, zbm5, zbm6, zbm3, zbm4, nI_clamp, zmod_n, pk_div, nI_ne0, pk_mul, nI_add, nI_1, ztb_tag hk, h.1, h2]
  · intro j _ h2 hq
    obtain ⟨ls', g⟩ := step j h2
    rw [show nm1 n c s j = true by simpa using hq] at g
    exact g
  · intro j _ h2 hq
    obtain ⟨ls', g⟩ := step j h2
    rw [show nm1 n c s j = false by simpa using hq] at g
    exact ⟨ls', g⟩
theorem qM_nm2 {M : zM} {t n x s : Nat} {c : tC} {b0 : Bool} (ht : t < 6) (h : rT M t n c) (h8 : n ≤ 8) (hf : tF n c) (hx : x < n) (hs : s < 2 ^ 31) : zwh zc_M_isNormal_2 zs_M_isNormal_2 [some (Value.ref (32)), some (Value.int (nI t)), some (Value.int (nI s)), some (Value.int (zb b0)), some (Value.int (nI x)), some (Value.int (nI 0)), none] M = some (none, [some (Value.ref (32)), some (Value.int (nI t)), some (Value.int (nI s)), some (Value.int (zb (b0 && zall (nm2 n c s x) n))), some (Value.int (nI x)), some (Value.int (nI n)), none], M) := by
  have hp := p8 h8
  have R := zwh_up (c := zc_M_isNormal_2) (s := zs_M_isNormal_2) (fun j => [some (Value.ref (32)), some (Value.int (nI t)), some (Value.int (nI s)), some (Value.int (zb (b0 && zall (nm2 n c s x) j))), some (Value.int (nI x)), some (Value.int (nI j)), none]) (fun _ => M) (n := n) n 0 (by omega) ?_ ?_ ?_
  · have e0 : (b0 && zall (nm2 n c s x) 0) = b0 := by simp [zall]
    rw [e0] at R
    exact R
  · intro j _ h2
    simp (disch := omega) [zc_M_isNormal_2, zmeth, xm_en, zret, zretz, zretv, zseq, zst, zinc, zkl, zskip, zk, zi, za, zbin, zdiv, zrem, zgi, zgr, zld, zldr, zlen, zn, zc, zcall, zcallv, zrcv, zdo, zdov, zpf, zpfc, zas, zasc, zmin, zmax, zcmp, zcz, zand_e, zor_e, zite_e, zbite_e, zif_e, znot_e, z_add, z_sub, z_mul, z_and, z_or, z_xor, z_shl, z_shr, zcpy, -List.getElem?_cons_succ, zg_0, zg_1, zg_2, zg_3, zg_4, zg_5, zg_6, zg_7, zg_8, zg_9, zc_lt, zc_le, zc_gt, zc_ge, zc_eq, zc_ne, zc_lt0, zc_ge0, zc_gt0, zc_eq0, zc_ne0, zb_ne, zb_eq, zb_01, z_00, z_01, z_11, zb_f, zb_T, zb_F, zbm1, zbm2, zbm5, zbm6, zbm3, zbm4, nI_clamp, zmod_n, pk_div, nI_ne0, pk_mul, nI_add, nI_1, zt_0, zt_12, zt_20, zt_26, zt_32, zf_0_0, zf_0_1, zf_0_2, zf_0_3, zf_0_4, zf_12_0, zf_12_1, zf_12_2, zf_12_4, zf_12_5, zf_20_1, zf_20_2, zf_20_3, zf_20_4, zf_20_6, zf_26_0, zf_26_1, zf_26_2, zf_26_3, zf_32_0, zf_32_1, zf_32_3, zf_32_4, zf_32_5, zf_32_6, zi_33, h.1, h2]
  · intro j _ h2
    have hxy := hf x j hx h2
    have l1 := tL_lt (s := s) hf h2
    have l2 := tL_lt (s := tL n c j s) hf hx
    have l3 := tL_lt (s := s) hf hxy
    have r1 := tRt_lt (s := s) hf hx
    have r2 := tRt_lt (s := tRt n c s x) hf h2
    have r3 := tRt_lt (s := s) hf hxy
    have m0 := qM_mul ht h h8 hf hx h2
    have a1 := qM_timesL ht h h8 hf h2 hs
    have a2 := qM_timesL (s := tL n c j s) ht h h8 hf hx (by omega)
    have a3 := qM_timesL ht h h8 hf hxy hs
    have b1 := qM_timesR ht h h8 hf hx hs
    have b2 := qM_timesR (s := tRt n c s x) ht h h8 hf h2 (by omega)
    have b3 := qM_timesR ht h h8 hf hxy hs
    have e : zall (nm2 n c s x) (j + 1) = (zall (nm2 n c s x) j && nm2 n c s x j) := rfl
    simp (disch := omega) [zs_M_isNormal_2, zmeth, xm_en, zret, zretz, zretv, zseq, zst, zinc, zkl, zskip, zk, zi, za, zbin, zdiv, zrem, zgi, zgr, zld, zldr, zlen, zn, zc, zcall, zcallv, zrcv, zdo, zdov, zpf, zpfc, zas, zasc, zmin, zmax, zcmp, zcz, zand_e, zor_e, zite_e, zbite_e, zif_e, znot_e, z_add, z_sub, z_mul, z_and, z_or, z_xor, z_shl, z_shr, zcpy, -List.getElem?_cons_succ, zg_0, zg_1, zg_2, zg_3, zg_4, zg_5, zg_6, zg_7, zg_8, zg_9, zc_lt, zc_le, zc_gt, zc_ge, zc_eq, zc_ne, zc_lt0, zc_ge0, zc_gt0, zc_eq0, zc_ne0, zb_ne, zb_eq, zb_01, z_00, z_01, z_11, zb_f, zb_T, zb_F, zbm1, zbm2, zbm5, zbm6, zbm3, zbm4, nI_clamp, zmod_n, pk_div, nI_ne0, pk_mul, nI_add, nI_1, zt_0, zt_12, zt_20, zt_26, zt_32, zf_0_0, zf_0_1, zf_0_2, zf_0_3, zf_0_4, zf_12_0, zf_12_1, zf_12_2, zf_12_4, zf_12_5, zf_20_1, zf_20_2, zf_20_3, zf_20_4, zf_20_6, zf_26_0, zf_26_1, zf_26_2, zf_26_3, zf_32_0, zf_32_1, zf_32_3, zf_32_4, zf_32_5, zf_32_6, m0, a1, a2, a3, b1, b2, b3, e, nm2, Bool.and_assoc]
  · simp (disch := omega) [zc_M_isNormal_2, zmeth, xm_en, zret, zretz, zretv, zseq, zst, zinc, zkl, zskip, zk, zi, za, zbin, zdiv, zrem, zgi, zgr, zld, zldr, zlen, zn, zc, zcall, zcallv, zrcv, zdo, zdov, zpf, zpfc, zas, zasc, zmin, zmax, zcmp, zcz, zand_e, zor_e, zite_e, zbite_e, zif_e, znot_e, z_add, z_sub, z_mul, z_and, z_or, z_xor, z_shl, z_shr, zcpy, -List.getElem?_cons_succ, zg_0, zg_1, zg_2, zg_3, zg_4, zg_5, zg_6, zg_7, zg_8, zg_9, zc_lt, zc_le, zc_gt, zc_ge, zc_eq, zc_ne, zc_lt0, zc_ge0, zc_gt0, zc_eq0, zc_ne0, zb_ne, zb_eq, zb_01, z_00, z_01, z_11, zb_f, zb_T, zb_F, zbm1, zbm2, zbm5, zbm6, zbm3, zbm4, nI_clamp, zmod_n, pk_div, nI_ne0, pk_mul, nI_add, nI_1, zt_0, zt_12, zt_20, zt_26, zt_32, zf_0_0, zf_0_1, zf_0_2, zf_0_3, zf_0_4, zf_12_0, zf_12_1, zf_12_2, zf_12_4, zf_12_5, zf_20_1, zf_20_2, zf_20_3, zf_20_4, zf_20_6, zf_26_0, zf_26_1, zf_26_2, zf_26_3, zf_32_0, zf_32_1, zf_32_3, zf_32_4, zf_32_5, zf_32_6, zi_33, h.1]
theorem qM_isNormal {M : zM} {t n s : Nat} {c : tC} (ht : t < 6) (h : rT M t n c) (h8 : n ≤ 8) (hf : tF n c) (hs : s < 2 ^ 31) : zf_M_isNormal [.ref 32, .int (nI t), .int (nI s)] M = some (some (zb (tNm n c s)), M) := by
  have hp := p8 h8
  have R := zwh_up (c := zc_M_isNormal_1) (s := zs_M_isNormal_1) (fun j => [some (Value.ref (32)), some (Value.int (nI t)), some (Value.int (nI s)), some (Value.int (zb (zall (nm1 n c s) j))), some (Value.int (nI j)), none, none]) (fun _ => M) (n := n) n 0 (by omega) ?_ ?_ ?_
  · have e0 : zb (zall (nm1 n c s) 0) = nI 1 := rfl
    rw [e0] at R
    simp (disch := omega) [zf_M_isNormal, zmeth, xm_en, zret, zretz, zretv, zseq, zst, zinc, zkl, zskip, zk, zi, za, zbin, zdiv, zrem, zgi, zgr, zld, zldr, zlen, zn, zc, zcall, zcallv, zrcv, zdo, zdov, zpf, zpfc, zas, zasc, zmin, zmax, zcmp, zcz, zand_e, zor_e, zite_e, zbite_e, zif_e, znot_e, z_add, z_sub, z_mul, z_and, z_or, z_xor, z_shl, z_shr, zcpy, -List.getElem?_cons_succ, zg_0, zg_1, zg_2, zg_3, zg_4, zg_5, zg_6, zg_7, zg_8, zg_9, R, zb_01, tNm]
  · intro j _ h2
    simp (disch := omega) [zc_M_isNormal_1, zmeth, xm_en, zret, zretz, zretv, zseq, zst, zinc, zkl, zskip, zk, zi, za, zbin, zdiv, zrem, zgi, zgr, zld, zldr, zlen, zn, zc, zcall, zcallv, zrcv, zdo, zdov, zpf, zpfc, zas, zasc, zmin, zmax, zcmp, zcz, zand_e, zor_e, zite_e, zbite_e, zif_e, znot_e, z_add, z_sub, z_mul, z_and, z_or, z_xor, z_shl, z_shr, zcpy, -List.getElem?_cons_succ, zg_0, zg_1, zg_2, zg_3, zg_4, zg_5, zg_6, zg_7, zg_8, zg_9, zc_lt, zc_le, zc_gt, zc_ge, zc_eq, zc_ne, zc_lt0, zc_ge0, zc_gt0, zc_eq0, zc_ne0, zb_ne, zb_eq, zb_01, z_00, z_01, z_11, zb_f, zb_T, zb_F, zbm1, zbm2, zbm5, zbm6, zbm3, zbm4, nI_clamp, zmod_n, pk_div, nI_ne0, pk_mul, nI_add, nI_1, zt_0, zt_12, zt_20, zt_26, zt_32, zf_0_0, zf_0_1, zf_0_2, zf_0_3, zf_0_4, zf_12_0, zf_12_1, zf_12_2, zf_12_4, zf_12_5, zf_20_1, zf_20_2, zf_20_3, zf_20_4, zf_20_6, zf_26_0, zf_26_1, zf_26_2, zf_26_3, zf_32_0, zf_32_1, zf_32_3, zf_32_4, zf_32_5, zf_32_6, zi_33, h.1, h2]
  · intro j _ h2
    have l1 := tL_lt (s := s) hf h2
    have r1 := tRt_lt (s := s) hf h2
    have a1 := qM_timesL ht h h8 hf h2 hs
    have b1 := qM_timesR ht h h8 hf h2 hs
    have g := qM_nm2 (b0 := zall (nm1 n c s) j && decide (tL n c j s = tRt n c s j)) ht h h8 hf h2 hs
    have e : zall (nm1 n c s) (j + 1) = (zall (nm1 n c s) j && nm1 n c s j) := rfl
    simp (disch := omega) [zs_M_isNormal_1, zmeth, xm_en, zret, zretz, zretv, zseq, zst, zinc, zkl, zskip, zk, zi, za, zbin, zdiv, zrem, zgi, zgr, zld, zldr, zlen, zn, zc, zcall, zcallv, zrcv, zdo, zdov, zpf, zpfc, zas, zasc, zmin, zmax, zcmp, zcz, zand_e, zor_e, zite_e, zbite_e, zif_e, znot_e, z_add, z_sub, z_mul, z_and, z_or, z_xor, z_shl, z_shr, zcpy, -List.getElem?_cons_succ, zg_0, zg_1, zg_2, zg_3, zg_4, zg_5, zg_6, zg_7, zg_8, zg_9, zc_lt, zc_le, zc_gt, zc_ge, zc_eq, zc_ne, zc_lt0, zc_ge0, zc_gt0, zc_eq0, zc_ne0, zb_ne, zb_eq, zb_01, z_00, z_01, z_11, zb_f, zb_T, zb_F, zbm1, zbm2, zbm5, zbm6, zbm3, zbm4, nI_clamp, zmod_n, pk_div, nI_ne0, pk_mul, nI_add, nI_1, zt_0, zt_12, zt_20, zt_26, zt_32, zf_0_0, zf_0_1, zf_0_2, zf_0_3, zf_0_4, zf_12_0, zf_12_1, zf_12_2, zf_12_4, zf_12_5, zf_20_1, zf_20_2, zf_20_3, zf_20_4, zf_20_6, zf_26_0, zf_26_1, zf_26_2, zf_26_3, zf_32_0, zf_32_1, zf_32_3, zf_32_4, zf_32_5, zf_32_6, a1, b1, g, e, nm1, Bool.and_assoc]
  · simp (disch := omega) [zc_M_isNormal_1, zmeth, xm_en, zret, zretz, zretv, zseq, zst, zinc, zkl, zskip, zk, zi, za, zbin, zdiv, zrem, zgi, zgr, zld, zldr, zlen, zn, zc, zcall, zcallv, zrcv, zdo, zdov, zpf, zpfc, zas, zasc, zmin, zmax, zcmp, zcz, zand_e, zor_e, zite_e, zbite_e, zif_e, znot_e, z_add, z_sub, z_mul, z_and, z_or, z_xor, z_shl, z_shr, zcpy, -List.getElem?_cons_succ, zg_0, zg_1, zg_2, zg_3, zg_4, zg_5, zg_6, zg_7, zg_8, zg_9, zc_lt, zc_le, zc_gt, zc_ge, zc_eq, zc_ne, zc_lt0, zc_ge0, zc_gt0, zc_eq0, zc_ne0, zb_ne, zb_eq, zb_01, z_00, z_01, z_11, zb_f, zb_T, zb_F, zbm1, zbm2, zbm5, zbm6, zbm3, zbm4, nI_clamp, zmod_n, pk_div, nI_ne0, pk_mul, nI_add, nI_1, zt_0, zt_12, zt_20, zt_26, zt_32, zf_0_0, zf_0_1, zf_0_2, zf_0_3, zf_0_4, zf_12_0, zf_12_1, zf_12_2, zf_12_4, zf_12_5, zf_20_1, zf_20_2, zf_20_3, zf_20_4, zf_20_6, zf_26_0, zf_26_1, zf_26_2, zf_26_3, zf_32_0, zf_32_1, zf_32_3, zf_32_4, zf_32_5, zf_32_6, zi_33, h.1]
/-! parts: closed sets -/
def zun (f : Nat → Nat) : Nat → Nat
  | 0 => 0
  | n + 1 => zun f n ||| f n
theorem zun_t {f : Nat → Nat} {v : Nat} : ∀ {n : Nat}, (zun f n).testBit v = zany (fun i => (f i).testBit v) n
  | 0 => by simp [zun, zany]
  | n + 1 => by
    unfold zun zany
    rw [Nat.testBit_or, zun_t]
theorem zun_lt {f : Nat → Nat} {m : Nat} : ∀ {n : Nat}, (∀ i, i < n → f i < 2 ^ m) → zun f n < 2 ^ m
  | 0, _ => by unfold zun; exact Nat.two_pow_pos m
  | n + 1, h => by
    unfold zun
    exact Nat.or_lt_two_pow (zun_lt (fun i hi => h i (by omega))) (h n (by omega))
/-! quotients -/
def tun (n : Nat) (c : tC) (a b : Nat) : Nat := zidx (fun y => decide (c a y = b)) 0 n
def tov (n : Nat) (c : tC) (b a : Nat) : Nat := zidx (fun x => decide (c x a = b)) 0 n
theorem tun_ok {n a b : Nat} {c : tC} (h : tO n c) (hf : tF n c) (ha : a < n) (hb : b < n) : tun n c a b < n ∧ c a (tun n c a b) = b := by
  have h8 := h.1.2
  obtain ⟨i, hi, e⟩ := zpig n (fun y => c a y) (fun i hi => hf a i ha hi) (fun i j hi hj g => h.2.2.2.1 a i j ha hi hj g (by have := hf a i ha hi; omega)) b hb
  have h1 : tun n c a b < n := by
    rcases Nat.lt_or_ge (tun n c a b) n with g | g
    · exact g
    · have := zidx_no (p := fun y => decide (c a y = b)) n 0 i (by omega) (by unfold tun at g; omega)
      simp [e] at this
  refine ⟨h1, ?_⟩
  have := zidx_lt (p := fun y => decide (c a y = b)) n 0 (by unfold tun at h1; omega)
  unfold tun
  simpa using this
theorem tov_ok {n a b : Nat} {c : tC} (h : tO n c) (hf : tF n c) (ha : a < n) (hb : b < n) : tov n c b a < n ∧ c (tov n c b a) a = b := by
  have h8 := h.1.2
  obtain ⟨i, hi, e⟩ := zpig n (fun x => c x a) (fun i hi => hf i a hi ha) (fun i j hi hj g => h.2.2.2.2 i j a hi hj ha g (by have := hf i a hi ha; omega)) b hb
  have h1 : tov n c b a < n := by
    rcases Nat.lt_or_ge (tov n c b a) n with g | g
    · exact g
    · have := zidx_no (p := fun x => decide (c x a = b)) n 0 i (by omega) (by unfold tov at g; omega)
      simp [e] at this
  refine ⟨h1, ?_⟩
  have := zidx_lt (p := fun x => decide (c x a = b)) n 0 (by unfold tov at h1; omega)
  unfold tov
  simpa using this
/-! the class: products of a set -/
def wPf (n : Nat) (c : tC) (s a : Nat) : Nat := bif s.testBit a then tL n c a s else 0
def wP (n : Nat) (c : tC) (s : Nat) : Nat := s ||| zun (wPf n c s) n
theorem wPf_lt {n s a : Nat} {c : tC} (hf : tF n c) (ha : a < n) : wPf n c s a < 2 ^ n := by
  unfold wPf
  cases s.testBit a with
  | false => exact Nat.two_pow_pos n
  | true => exact tL_lt hf ha
theorem wP_lt {n s : Nat} {c : tC} (hf : tF n c) (hs : s < 2 ^ n) : wP n c s < 2 ^ n := Nat.or_lt_two_pow hs (zun_lt (fun i hi => wPf_lt hf hi))
theorem qP_withProducts {M : zM} {k n s : Nat} {c : tC} (hk : ztb k) (h : kT M k n c) (h8 : n ≤ 8) (hf : tF n c) (hs : s < 2 ^ n) : zf_Parts_withProducts [.ref k, .int (nI s)] M = some (some (nI (wP n c s)), M) := by
  have hp := p8 h8
  have R := zwh_up (c := zc_Parts_withProducts_1) (s := zs_Parts_withProducts_1) (fun j => [some (Value.ref (k)), some (Value.int (nI s)), some (Value.int (nI (s ||| zun (wPf n c s) j))), some (Value.int (nI j))]) (fun _ => M) (n := n) n 0 (by omega) ?_ ?_ ?_
  · have e0 : s ||| zun (wPf n c s) 0 = s := by simp [zun]
    rw [e0] at R
    simp (disch := omega) [zf_Parts_withProducts, zmeth, xm_en, zret, zretz, zretv, zseq, zst, zinc, zkl, zskip, zk, zi, za, zbin, zdiv, zrem, zgi, zgr, zld, zldr, zlen, zn, zc, zcall, zcallv, zrcv, zdo, zdov, zpf, zpfc, zas, zasc, zmin, zmax, zcmp, zcz, zand_e, zor_e, zite_e, zbite_e, zif_e, znot_e, z_add, z_sub, z_mul, z_and, z_or, z_xor, z_shl, z_shr, zcpy, -List.getElem?_cons_succ, zg_0, zg_1, zg_2, zg_3, zg_4, zg_5, zg_6, zg_7, zg_8, zg_9, R, wP]
  · intro j _ h2
    simp (disch := omega) [zc_Parts_withProducts_1, zmeth, xm_en, zret, zretz, zretv, zseq, zst, zinc, zkl, zskip, zk, zi, za, zbin, zdiv, zrem, zgi, zgr, zld, zldr, zlen, zn, zc, zcall, zcallv, zrcv, zdo, zdov, zpf, zpfc, zas, zasc, zmin, zmax, zcmp, zcz, zand_e, zor_e, zite_e, zbite_e, zif_e, znot_e, z_add, z_sub, z_mul, z_and, z_or, z_xor, z_shl, z_shr, zcpy, -List.getElem?_cons_succ, zg_0, zg_1, zg_2, zg_3, zg_4, zg_5, zg_6, zg_7, zg_8, zg_9, zc_lt, zc_le, zc_gt, zc_ge, zc_eq, zc_ne, zc_lt0, zc_ge0, zc_gt0, zc_eq0, zc_ne0, zb_ne, zb_eq, zb_01, z_00, z_01, z_11, zb_f, zb_T, zb_F, zbm1, zbm2, zbm5, zbm6, zbm3, zbm4, nI_clamp, zmod_n, pk_div, nI_ne0, pk_mul, nI_add, nI_1, ztb_tag hk, h.1, h2]
  · intro j _ h2
    have hh := qP_has (M := M) (show s < 2 ^ 31 by omega) (show j < 32 by omega)
    have hl := qP_fromLeft (s := s) hk h h8 hf h2 (by omega)
    have e : s ||| zun (wPf n c s) (j + 1) = s ||| zun (wPf n c s) j ||| wPf n c s j := by rw [Nat.or_assoc]; rfl
    cases hb : s.testBit j with
    | false =>
      rw [hb] at hh
      simp (disch := omega) [zs_Parts_withProducts_1, zmeth, xm_en, zret, zretz, zretv, zseq, zst, zinc, zkl, zskip, zk, zi, za, zbin, zdiv, zrem, zgi, zgr, zld, zldr, zlen, zn, zc, zcall, zcallv, zrcv, zdo, zdov, zpf, zpfc, zas, zasc, zmin, zmax, zcmp, zcz, zand_e, zor_e, zite_e, zbite_e, zif_e, znot_e, z_add, z_sub, z_mul, z_and, z_or, z_xor, z_shl, z_shr, zcpy, -List.getElem?_cons_succ, zg_0, zg_1, zg_2, zg_3, zg_4, zg_5, zg_6, zg_7, zg_8, zg_9, zc_lt, zc_le, zc_gt, zc_ge, zc_eq, zc_ne, zc_lt0, zc_ge0, zc_gt0, zc_eq0, zc_ne0, zb_ne, zb_eq, zb_01, z_00, z_01, z_11, zb_f, zb_T, zb_F, zbm1, zbm2, zbm5, zbm6, zbm3, zbm4, nI_clamp, zmod_n, pk_div, nI_ne0, pk_mul, nI_add, nI_1, hh, e, wPf, hb]
    | true =>
      rw [hb] at hh
      simp (disch := omega) [zs_Parts_withProducts_1, zmeth, xm_en, zret, zretz, zretv, zseq, zst, zinc, zkl, zskip, zk, zi, za, zbin, zdiv, zrem, zgi, zgr, zld, zldr, zlen, zn, zc, zcall, zcallv, zrcv, zdo, zdov, zpf, zpfc, zas, zasc, zmin, zmax, zcmp, zcz, zand_e, zor_e, zite_e, zbite_e, zif_e, znot_e, z_add, z_sub, z_mul, z_and, z_or, z_xor, z_shl, z_shr, zcpy, -List.getElem?_cons_succ, zg_0, zg_1, zg_2, zg_3, zg_4, zg_5, zg_6, zg_7, zg_8, zg_9, zc_lt, zc_le, zc_gt, zc_ge, zc_eq, zc_ne, zc_lt0, zc_ge0, zc_gt0, zc_eq0, zc_ne0, zb_ne, zb_eq, zb_01, z_00, z_01, z_11, zb_f, zb_T, zb_F, zbm1, zbm2, zbm5, zbm6, zbm3, zbm4, nI_clamp, zmod_n, pk_div, nI_ne0, pk_mul, nI_add, nI_1, hh, hl, nI_or, e, wPf, hb]
  · simp (disch := omega) [zc_Parts_withProducts_1, zmeth, xm_en, zret, zretz, zretv, zseq, zst, zinc, zkl, zskip, zk, zi, za, zbin, zdiv, zrem, zgi, zgr, zld, zldr, zlen, zn, zc, zcall, zcallv, zrcv, zdo, zdov, zpf, zpfc, zas, zasc, zmin, zmax, zcmp, zcz, zand_e, zor_e, zite_e, zbite_e, zif_e, znot_e, z_add, z_sub, z_mul, z_and, z_or, z_xor, z_shl, z_shr, zcpy, -List.getElem?_cons_succ, zg_0, zg_1, zg_2, zg_3, zg_4, zg_5, zg_6, zg_7, zg_8, zg_9, zc_lt, zc_le, zc_gt, zc_ge, zc_eq, zc_ne, zc_lt0, zc_ge0, zc_gt0, zc_eq0, zc_ne0, zb_ne, zb_eq, zb_01, z_00, z_01, z_11, zb_f, zb_T, zb_F, zbm1, zbm2, zbm5, zbm6, zbm3, zbm4, nI_clamp, zmod_n, pk_div, nI_ne0, pk_mul, nI_add, nI_1, ztb_tag hk, h.1]
def isP (n : Nat) (c : tC) (s : Nat) : Bool := s.testBit 0 && decide (wP n c s = s)
theorem nI_and1 (s : Nat) : nI s &&& nI 1 = zb (s.testBit 0) := by
  rw [nI_and, Nat.and_one_is_mod]
  unfold zb
  rw [Nat.testBit_eq_decide_div_mod_eq]
  have h2 : s % 2 = 0 ∨ s % 2 = 1 := by omega
  simp only [Nat.pow_zero, Nat.div_one]
  rcases h2 with h2 | h2 <;> rw [h2] <;> rfl
theorem qP_isPart {M : zM} {k n s : Nat} {c : tC} (hk : ztb k) (h : kT M k n c) (h8 : n ≤ 8) (hf : tF n c) (hs : s < 2 ^ n) : zf_Parts_isPart [.ref k, .int (nI s)] M = some (some (zb (isP n c s)), M) := by
  have hp := p8 h8
  have hw := wP_lt hf hs
  have w := qP_withProducts hk h h8 hf hs
  simp (disch := omega) [zf_Parts_isPart, zmeth, xm_en, zret, zretz, zretv, zseq, zst, zinc, zkl, zskip, zk, zi, za, zbin, zdiv, zrem, zgi, zgr, zld, zldr, zlen, zn, zc, zcall, zcallv, zrcv, zdo, zdov, zpf, zpfc, zas, zasc, zmin, zmax, zcmp, zcz, zand_e, zor_e, zite_e, zbite_e, zif_e, znot_e, z_add, z_sub, z_mul, z_and, z_or, z_xor, z_shl, z_shr, zcpy, -List.getElem?_cons_succ, zg_0, zg_1, zg_2, zg_3, zg_4, zg_5, zg_6, zg_7, zg_8, zg_9, zc_lt, zc_le, zc_gt, zc_ge, zc_eq, zc_ne, zc_lt0, zc_ge0, zc_gt0, zc_eq0, zc_ne0, zb_ne, zb_eq, zb_01, z_00, z_01, z_11, zb_f, zb_T, zb_F, zbm1, zbm2, zbm5, zbm6, zbm3, zbm4, nI_clamp, zmod_n, pk_div, nI_ne0, pk_mul, nI_add, nI_1, nI_and1, w, isP]
/-! the reference: closed under products and both quotients -/
def clg (n : Nat) (c : tC) (s a b : Nat) : Nat := bif s.testBit a && s.testBit b then 2 ^ c a b ||| 2 ^ tun n c a b ||| 2 ^ tov n c b a else 0
def FS (n : Nat) (c : tC) (s : Nat) : Nat := s ||| zun (fun a => zun (clg n c s a) n) n
theorem clg_lt {n s a b : Nat} {c : tC} (h : tO n c) (hf : tF n c) (ha : a < n) (hb : b < n) : clg n c s a b < 2 ^ n := by
  unfold clg
  have p : ∀ v, v < n → 2 ^ v < 2 ^ n := fun v hv => Nat.pow_lt_pow_right (by decide) hv
  cases s.testBit a && s.testBit b with
  | false => exact Nat.two_pow_pos n
  | true => exact Nat.or_lt_two_pow (Nat.or_lt_two_pow (p _ (hf a b ha hb)) (p _ (tun_ok h hf ha hb).1)) (p _ (tov_ok h hf ha hb).1)
theorem FS_lt {n s : Nat} {c : tC} (h : tO n c) (hf : tF n c) (hs : s < 2 ^ n) : FS n c s < 2 ^ n := Nat.or_lt_two_pow hs (zun_lt (fun a ha => zun_lt (fun b hb => clg_lt h hf ha hb)))
theorem qM_cl3 {M : zM} {t n s x a : Nat} {c : tC} {y : Int32} (ht : t < 6) (h : rT M t n c) (ho : tO n c) (hf : tF n c) (ha : a < n) (hs : s < 2 ^ n) : zwh zc_M_closed_3 zs_M_closed_3 [some (Value.ref (32)), some (Value.int (nI t)), some (Value.int (y)), some (Value.int (nI x)), some (Value.int (nI s)), some (Value.int (nI a)), some (Value.int (nI 0))] M = some (none, [some (Value.ref (32)), some (Value.int (nI t)), some (Value.int (y)), some (Value.int (nI (x ||| zun (clg n c s a) n))), some (Value.int (nI s)), some (Value.int (nI a)), some (Value.int (nI n))], M) := by
  have h8 := ho.1.2
  have hp := p8 h8
  have R := zwh_up (c := zc_M_closed_3) (s := zs_M_closed_3) (fun j => [some (Value.ref (32)), some (Value.int (nI t)), some (Value.int (y)), some (Value.int (nI (x ||| zun (clg n c s a) j))), some (Value.int (nI s)), some (Value.int (nI a)), some (Value.int (nI j))]) (fun _ => M) (n := n) n 0 (by omega) ?_ ?_ ?_
  · have e0 : x ||| zun (clg n c s a) 0 = x := by simp [zun]
    rw [e0] at R
    exact R
  · intro j _ h2
    simp (disch := omega) [zc_M_closed_3, zmeth, xm_en, zret, zretz, zretv, zseq, zst, zinc, zkl, zskip, zk, zi, za, zbin, zdiv, zrem, zgi, zgr, zld, zldr, zlen, zn, zc, zcall, zcallv, zrcv, zdo, zdov, zpf, zpfc, zas, zasc, zmin, zmax, zcmp, zcz, zand_e, zor_e, zite_e, zbite_e, zif_e, znot_e, z_add, z_sub, z_mul, z_and, z_or, z_xor, z_shl, z_shr, zcpy, -List.getElem?_cons_succ, zg_0, zg_1, zg_2, zg_3, zg_4, zg_5, zg_6, zg_7, zg_8, zg_9, zc_lt, zc_le, zc_gt, zc_ge, zc_eq, zc_ne, zc_lt0, zc_ge0, zc_gt0, zc_eq0, zc_ne0, zb_ne, zb_eq, zb_01, z_00, z_01, z_11, zb_f, zb_T, zb_F, zbm1, zbm2, zbm5, zbm6, zbm3, zbm4, nI_clamp, zmod_n, pk_div, nI_ne0, pk_mul, nI_add, nI_1, zt_0, zt_12, zt_20, zt_26, zt_32, zf_0_0, zf_0_1, zf_0_2, zf_0_3, zf_0_4, zf_12_0, zf_12_1, zf_12_2, zf_12_4, zf_12_5, zf_20_1, zf_20_2, zf_20_3, zf_20_4, zf_20_6, zf_26_0, zf_26_1, zf_26_2, zf_26_3, zf_32_0, zf_32_1, zf_32_3, zf_32_4, zf_32_5, zf_32_6, zi_33, h.1, h2]
  · intro j _ h2
    have ha1 := qM_has (M := M) (show s < 2 ^ 31 by omega) (show a < 32 by omega)
    have ha2 := qM_has (M := M) (show s < 2 ^ 31 by omega) (show j < 32 by omega)
    have m := qM_mul ht h h8 hf ha h2
    have u := tun_ok ho hf ha h2
    have v := tov_ok ho hf ha h2
    have mu := qM_behind (w := j) ht h h8 ha (by omega) u.1
    have mv := qM_ahead (w := j) ht h h8 ha (by omega) v.1
    have hc := hf a j ha h2
    have e : x ||| zun (clg n c s a) (j + 1) = x ||| zun (clg n c s a) j ||| clg n c s a j := by rw [Nat.or_assoc]; rfl
    have eu : zidx (fun b => decide (c a b = j)) 0 n = tun n c a j := rfl
    have ev : zidx (fun x => decide (c x a = j)) 0 n = tov n c j a := rfl
    rw [eu] at mu
    rw [ev] at mv
    have s1 := nI_shl1 (v := c a j) (by omega)
    have s2 := nI_shl1 (v := tun n c a j) (by omega)
    have s3 := nI_shl1 (v := tov n c j a) (by omega)
    cases hb : s.testBit a && s.testBit j with
    | false =>
      simp (disch := omega) [zs_M_closed_3, zmeth, xm_en, zret, zretz, zretv, zseq, zst, zinc, zkl, zskip, zk, zi, za, zbin, zdiv, zrem, zgi, zgr, zld, zldr, zlen, zn, zc, zcall, zcallv, zrcv, zdo, zdov, zpf, zpfc, zas, zasc, zmin, zmax, zcmp, zcz, zand_e, zor_e, zite_e, zbite_e, zif_e, znot_e, z_add, z_sub, z_mul, z_and, z_or, z_xor, z_shl, z_shr, zcpy, -List.getElem?_cons_succ, zg_0, zg_1, zg_2, zg_3, zg_4, zg_5, zg_6, zg_7, zg_8, zg_9, zc_lt, zc_le, zc_gt, zc_ge, zc_eq, zc_ne, zc_lt0, zc_ge0, zc_gt0, zc_eq0, zc_ne0, zb_ne, zb_eq, zb_01, z_00, z_01, z_11, zb_f, zb_T, zb_F, zbm1, zbm2, zbm5, zbm6, zbm3, zbm4, nI_clamp, zmod_n, pk_div, nI_ne0, pk_mul, nI_add, nI_1, zt_0, zt_12, zt_20, zt_26, zt_32, zf_0_0, zf_0_1, zf_0_2, zf_0_3, zf_0_4, zf_12_0, zf_12_1, zf_12_2, zf_12_4, zf_12_5, zf_20_1, zf_20_2, zf_20_3, zf_20_4, zf_20_6, zf_26_0, zf_26_1, zf_26_2, zf_26_3, zf_32_0, zf_32_1, zf_32_3, zf_32_4, zf_32_5, zf_32_6, ha1, ha2, hb, e, clg]
    | true =>
      simp (disch := omega) [zs_M_closed_3, zmeth, xm_en, zret, zretz, zretv, zseq, zst, zinc, zkl, zskip, zk, zi, za, zbin, zdiv, zrem, zgi, zgr, zld, zldr, zlen, zn, zc, zcall, zcallv, zrcv, zdo, zdov, zpf, zpfc, zas, zasc, zmin, zmax, zcmp, zcz, zand_e, zor_e, zite_e, zbite_e, zif_e, znot_e, z_add, z_sub, z_mul, z_and, z_or, z_xor, z_shl, z_shr, zcpy, -List.getElem?_cons_succ, zg_0, zg_1, zg_2, zg_3, zg_4, zg_5, zg_6, zg_7, zg_8, zg_9, zc_lt, zc_le, zc_gt, zc_ge, zc_eq, zc_ne, zc_lt0, zc_ge0, zc_gt0, zc_eq0, zc_ne0, zb_ne, zb_eq, zb_01, z_00, z_01, z_11, zb_f, zb_T, zb_F, zbm1, zbm2, zbm5, zbm6, zbm3, zbm4, nI_clamp, zmod_n, pk_div, nI_ne0, pk_mul, nI_add, nI_1, zt_0, zt_12, zt_20, zt_26, zt_32, zf_0_0, zf_0_1, zf_0_2, zf_0_3, zf_0_4, zf_12_0, zf_12_1, zf_12_2, zf_12_4, zf_12_5, zf_20_1, zf_20_2, zf_20_3, zf_20_4, zf_20_6, zf_26_0, zf_26_1, zf_26_2, zf_26_3, zf_32_0, zf_32_1, zf_32_3, zf_32_4, zf_32_5, zf_32_6, ha1, ha2, hb, m, mu, mv, s1, s2, s3, nI_or, e, clg, Nat.or_assoc]
  · simp (disch := omega) [zc_M_closed_3, zmeth, xm_en, zret, zretz, zretv, zseq, zst, zinc, zkl, zskip, zk, zi, za, zbin, zdiv, zrem, zgi, zgr, zld, zldr, zlen, zn, zc, zcall, zcallv, zrcv, zdo, zdov, zpf, zpfc, zas, zasc, zmin, zmax, zcmp, zcz, zand_e, zor_e, zite_e, zbite_e, zif_e, znot_e, z_add, z_sub, z_mul, z_and, z_or, z_xor, z_shl, z_shr, zcpy, -List.getElem?_cons_succ, zg_0, zg_1, zg_2, zg_3, zg_4, zg_5, zg_6, zg_7, zg_8, zg_9, zc_lt, zc_le, zc_gt, zc_ge, zc_eq, zc_ne, zc_lt0, zc_ge0, zc_gt0, zc_eq0, zc_ne0, zb_ne, zb_eq, zb_01, z_00, z_01, z_11, zb_f, zb_T, zb_F, zbm1, zbm2, zbm5, zbm6, zbm3, zbm4, nI_clamp, zmod_n, pk_div, nI_ne0, pk_mul, nI_add, nI_1, zt_0, zt_12, zt_20, zt_26, zt_32, zf_0_0, zf_0_1, zf_0_2, zf_0_3, zf_0_4, zf_12_0, zf_12_1, zf_12_2, zf_12_4, zf_12_5, zf_20_1, zf_20_2, zf_20_3, zf_20_4, zf_20_6, zf_26_0, zf_26_1, zf_26_2, zf_26_3, zf_32_0, zf_32_1, zf_32_3, zf_32_4, zf_32_5, zf_32_6, zi_33, h.1]
theorem qM_cl2 {M : zM} {t n s : Nat} {c : tC} {y : Int32} (ht : t < 6) (h : rT M t n c) (ho : tO n c) (hf : tF n c) (hs : s < 2 ^ n) : zwh zc_M_closed_2 zs_M_closed_2 [some (Value.ref (32)), some (Value.int (nI t)), some (Value.int (y)), some (Value.int (nI s)), some (Value.int (nI s)), some (Value.int (nI 0)), none] M = some (none, [some (Value.ref (32)), some (Value.int (nI t)), some (Value.int (y)), some (Value.int (nI (FS n c s))), some (Value.int (nI s)), some (Value.int (nI n)), none], M) := by
  have h8 := ho.1.2
  have R := zwh_up (c := zc_M_closed_2) (s := zs_M_closed_2) (fun j => [some (Value.ref (32)), some (Value.int (nI t)), some (Value.int (y)), some (Value.int (nI (s ||| zun (fun a => zun (clg n c s a) n) j))), some (Value.int (nI s)), some (Value.int (nI j)), none]) (fun _ => M) (n := n) n 0 (by omega) ?_ ?_ ?_
  · have e0 : s ||| zun (fun a => zun (clg n c s a) n) 0 = s := by simp [zun]
    rw [e0] at R
    exact R
  · intro j _ h2
    simp (disch := omega) [zc_M_closed_2, zmeth, xm_en, zret, zretz, zretv, zseq, zst, zinc, zkl, zskip, zk, zi, za, zbin, zdiv, zrem, zgi, zgr, zld, zldr, zlen, zn, zc, zcall, zcallv, zrcv, zdo, zdov, zpf, zpfc, zas, zasc, zmin, zmax, zcmp, zcz, zand_e, zor_e, zite_e, zbite_e, zif_e, znot_e, z_add, z_sub, z_mul, z_and, z_or, z_xor, z_shl, z_shr, zcpy, -List.getElem?_cons_succ, zg_0, zg_1, zg_2, zg_3, zg_4, zg_5, zg_6, zg_7, zg_8, zg_9, zc_lt, zc_le, zc_gt, zc_ge, zc_eq, zc_ne, zc_lt0, zc_ge0, zc_gt0, zc_eq0, zc_ne0, zb_ne, zb_eq, zb_01, z_00, z_01, z_11, zb_f, zb_T, zb_F, zbm1, zbm2, zbm5, zbm6, zbm3, zbm4, nI_clamp, zmod_n, pk_div, nI_ne0, pk_mul, nI_add, nI_1, zt_0, zt_12, zt_20, zt_26, zt_32, zf_0_0, zf_0_1, zf_0_2, zf_0_3, zf_0_4, zf_12_0, zf_12_1, zf_12_2, zf_12_4, zf_12_5, zf_20_1, zf_20_2, zf_20_3, zf_20_4, zf_20_6, zf_26_0, zf_26_1, zf_26_2, zf_26_3, zf_32_0, zf_32_1, zf_32_3, zf_32_4, zf_32_5, zf_32_6, zi_33, h.1, h2]
  · intro j _ h2
    have g := qM_cl3 (x := s ||| zun (fun a => zun (clg n c s a) n) j) (y := y) ht h ho hf h2 hs
    have e : s ||| zun (fun a => zun (clg n c s a) n) (j + 1) = s ||| zun (fun a => zun (clg n c s a) n) j ||| zun (clg n c s j) n := by rw [Nat.or_assoc]; rfl
    simp (disch := omega) [zs_M_closed_2, zmeth, xm_en, zret, zretz, zretv, zseq, zst, zinc, zkl, zskip, zk, zi, za, zbin, zdiv, zrem, zgi, zgr, zld, zldr, zlen, zn, zc, zcall, zcallv, zrcv, zdo, zdov, zpf, zpfc, zas, zasc, zmin, zmax, zcmp, zcz, zand_e, zor_e, zite_e, zbite_e, zif_e, znot_e, z_add, z_sub, z_mul, z_and, z_or, z_xor, z_shl, z_shr, zcpy, -List.getElem?_cons_succ, zg_0, zg_1, zg_2, zg_3, zg_4, zg_5, zg_6, zg_7, zg_8, zg_9, zc_lt, zc_le, zc_gt, zc_ge, zc_eq, zc_ne, zc_lt0, zc_ge0, zc_gt0, zc_eq0, zc_ne0, zb_ne, zb_eq, zb_01, z_00, z_01, z_11, zb_f, zb_T, zb_F, zbm1, zbm2, zbm5, zbm6, zbm3, zbm4, nI_clamp, zmod_n, pk_div, nI_ne0, pk_mul, nI_add, nI_1, g, e]
  · simp (disch := omega) [zc_M_closed_2, zmeth, xm_en, zret, zretz, zretv, zseq, zst, zinc, zkl, zskip, zk, zi, za, zbin, zdiv, zrem, zgi, zgr, zld, zldr, zlen, zn, zc, zcall, zcallv, zrcv, zdo, zdov, zpf, zpfc, zas, zasc, zmin, zmax, zcmp, zcz, zand_e, zor_e, zite_e, zbite_e, zif_e, znot_e, z_add, z_sub, z_mul, z_and, z_or, z_xor, z_shl, z_shr, zcpy, -List.getElem?_cons_succ, zg_0, zg_1, zg_2, zg_3, zg_4, zg_5, zg_6, zg_7, zg_8, zg_9, zc_lt, zc_le, zc_gt, zc_ge, zc_eq, zc_ne, zc_lt0, zc_ge0, zc_gt0, zc_eq0, zc_ne0, zb_ne, zb_eq, zb_01, z_00, z_01, z_11, zb_f, zb_T, zb_F, zbm1, zbm2, zbm5, zbm6, zbm3, zbm4, nI_clamp, zmod_n, pk_div, nI_ne0, pk_mul, nI_add, nI_1, zt_0, zt_12, zt_20, zt_26, zt_32, zf_0_0, zf_0_1, zf_0_2, zf_0_3, zf_0_4, zf_12_0, zf_12_1, zf_12_2, zf_12_4, zf_12_5, zf_20_1, zf_20_2, zf_20_3, zf_20_4, zf_20_6, zf_26_0, zf_26_1, zf_26_2, zf_26_3, zf_32_0, zf_32_1, zf_32_3, zf_32_4, zf_32_5, zf_32_6, zi_33, h.1]
def tcl (n : Nat) (c : tC) : Nat → Nat → Nat
  | 0, s => s
  | k + 1, s => if FS n c s = s then s else tcl n c k (FS n c s)
theorem qM_cl1 {M : zM} {t n : Nat} {c : tC} {y : Int32} (ht : t < 6) (h : rT M t n c) (ho : tO n c) (hf : tF n c) : ∀ (k s w : Nat), s < 2 ^ n → w < 2 ^ n → s ≠ w → 2 ^ n ≤ s + k → zwh zc_M_closed_1 zs_M_closed_1 [some (Value.ref (32)), some (Value.int (nI t)), some (Value.int (y)), some (Value.int (nI s)), some (Value.int (nI w)), none, none] M = some (none, [some (Value.ref (32)), some (Value.int (nI t)), some (Value.int (y)), some (Value.int (nI (tcl n c k s))), some (Value.int (nI (tcl n c k s))), none, none], M) ∧ FS n c (tcl n c k s) = tcl n c k s
  | 0, s, w, hs, _, _, hk => by omega
  | k + 1, s, w, hs, hw, hne, hk => by
    have hp := p8 ho.1.2
    have hF := FS_lt ho hf hs
    have hge : s ≤ FS n c s := Nat.left_le_or
    have c1 : zc_M_closed_1 [some (Value.ref (32)), some (Value.int (nI t)), some (Value.int (y)), some (Value.int (nI s)), some (Value.int (nI w)), none, none] M = some (true, M) := by
      simp (disch := omega) [zc_M_closed_1, zmeth, xm_en, zret, zretz, zretv, zseq, zst, zinc, zkl, zskip, zk, zi, za, zbin, zdiv, zrem, zgi, zgr, zld, zldr, zlen, zn, zc, zcall, zcallv, zrcv, zdo, zdov, zpf, zpfc, zas, zasc, zmin, zmax, zcmp, zcz, zand_e, zor_e, zite_e, zbite_e, zif_e, znot_e, z_add, z_sub, z_mul, z_and, z_or, z_xor, z_shl, z_shr, zcpy, -List.getElem?_cons_succ, zg_0, zg_1, zg_2, zg_3, zg_4, zg_5, zg_6, zg_7, zg_8, zg_9, zc_lt, zc_le, zc_gt, zc_ge, zc_eq, zc_ne, zc_lt0, zc_ge0, zc_gt0, zc_eq0, zc_ne0, zb_ne, zb_eq, zb_01, z_00, z_01, z_11, zb_f, zb_T, zb_F, zbm1, zbm2, zbm5, zbm6, zbm3, zbm4, nI_clamp, zmod_n, pk_div, nI_ne0, pk_mul, nI_add, nI_1, hne]
    have s1 : zs_M_closed_1 [some (Value.ref (32)), some (Value.int (nI t)), some (Value.int (y)), some (Value.int (nI s)), some (Value.int (nI w)), none, none] M = some (none, [some (Value.ref (32)), some (Value.int (nI t)), some (Value.int (y)), some (Value.int (nI (FS n c s))), some (Value.int (nI s)), none, none], M) := by
      simp (disch := omega) [zs_M_closed_1, zmeth, xm_en, zret, zretz, zretv, zseq, zst, zinc, zkl, zskip, zk, zi, za, zbin, zdiv, zrem, zgi, zgr, zld, zldr, zlen, zn, zc, zcall, zcallv, zrcv, zdo, zdov, zpf, zpfc, zas, zasc, zmin, zmax, zcmp, zcz, zand_e, zor_e, zite_e, zbite_e, zif_e, znot_e, z_add, z_sub, z_mul, z_and, z_or, z_xor, z_shl, z_shr, zcpy, -List.getElem?_cons_succ, zg_0, zg_1, zg_2, zg_3, zg_4, zg_5, zg_6, zg_7, zg_8, zg_9, zc_lt, zc_le, zc_gt, zc_ge, zc_eq, zc_ne, zc_lt0, zc_ge0, zc_gt0, zc_eq0, zc_ne0, zb_ne, zb_eq, zb_01, z_00, z_01, z_11, zb_f, zb_T, zb_F, zbm1, zbm2, zbm5, zbm6, zbm3, zbm4, nI_clamp, zmod_n, pk_div, nI_ne0, pk_mul, nI_add, nI_1, qM_cl2 (y := y) ht h ho hf hs]
    unfold tcl
    by_cases he : FS n c s = s
    · rw [if_pos he]
      refine ⟨zwh_t c1 s1 ?_, he⟩
      rw [he]
      refine zwh_f ?_
      simp (disch := omega) [zc_M_closed_1, zmeth, xm_en, zret, zretz, zretv, zseq, zst, zinc, zkl, zskip, zk, zi, za, zbin, zdiv, zrem, zgi, zgr, zld, zldr, zlen, zn, zc, zcall, zcallv, zrcv, zdo, zdov, zpf, zpfc, zas, zasc, zmin, zmax, zcmp, zcz, zand_e, zor_e, zite_e, zbite_e, zif_e, znot_e, z_add, z_sub, z_mul, z_and, z_or, z_xor, z_shl, z_shr, zcpy, -List.getElem?_cons_succ, zg_0, zg_1, zg_2, zg_3, zg_4, zg_5, zg_6, zg_7, zg_8, zg_9, zc_lt, zc_le, zc_gt, zc_ge, zc_eq, zc_ne, zc_lt0, zc_ge0, zc_gt0, zc_eq0, zc_ne0, zb_ne, zb_eq, zb_01, z_00, z_01, z_11, zb_f, zb_T, zb_F, zbm1, zbm2, zbm5, zbm6, zbm3, zbm4, nI_clamp, zmod_n, pk_div, nI_ne0, pk_mul, nI_add, nI_1]
    · rw [if_neg he]
      obtain ⟨g1, g2⟩ := qM_cl1 (y := y) ht h ho hf k (FS n c s) s hF hs he (by omega)
      exact ⟨zwh_t c1 s1 g1, g2⟩
theorem or1_lt {n s : Nat} (h1 : 1 ≤ n) (hs : s < 2 ^ n) : s ||| 1 < 2 ^ n := Nat.or_lt_two_pow hs (Nat.one_lt_two_pow (by omega))
theorem or1_ne (s : Nat) : s ||| 1 ≠ 0 := fun h => by
  have : (s ||| 1).testBit 0 = true := by rw [Nat.testBit_or]; simp
  rw [h] at this
  simp at this
def tCl (n : Nat) (c : tC) (s : Nat) : Nat := tcl n c (2 ^ n) (s ||| 1)
theorem qM_closed {M : zM} {t n s : Nat} {c : tC} (ht : t < 6) (h : rT M t n c) (ho : tO n c) (hf : tF n c) (hs : s < 2 ^ n) : zf_M_closed [.ref 32, .int (nI t), .int (nI s)] M = some (some (nI (tCl n c s)), M) ∧ FS n c (tCl n c s) = tCl n c s := by
  obtain ⟨g1, g2⟩ := qM_cl1 (y := nI s) ht h ho hf (2 ^ n) (s ||| 1) 0 (or1_lt ho.1.1 hs) (Nat.two_pow_pos n) (or1_ne s) (by omega)
  refine ⟨?_, g2⟩
  simp (disch := omega) [zf_M_closed, zmeth, xm_en, zret, zretz, zretv, zseq, zst, zinc, zkl, zskip, zk, zi, za, zbin, zdiv, zrem, zgi, zgr, zld, zldr, zlen, zn, zc, zcall, zcallv, zrcv, zdo, zdov, zpf, zpfc, zas, zasc, zmin, zmax, zcmp, zcz, zand_e, zor_e, zite_e, zbite_e, zif_e, znot_e, z_add, z_sub, z_mul, z_and, z_or, z_xor, z_shl, z_shr, zcpy, -List.getElem?_cons_succ, zg_0, zg_1, zg_2, zg_3, zg_4, zg_5, zg_6, zg_7, zg_8, zg_9, nI_or, g1, tCl]
/-! a set is closed if its products lie in it -/
theorem FS_t {n s v : Nat} {c : tC} : (FS n c s).testBit v = true ↔ s.testBit v = true ∨ ∃ a b, a < n ∧ b < n ∧ s.testBit a = true ∧ s.testBit b = true ∧ (v = c a b ∨ v = tun n c a b ∨ v = tov n c b a) := by
  unfold FS
  rw [Nat.testBit_or, Bool.or_eq_true, zun_t, zany_t]
  refine or_congr Iff.rfl ⟨fun h => ?_, fun h => ?_⟩
  · obtain ⟨a, ha, h⟩ := h
    rw [zun_t, zany_t] at h
    obtain ⟨b, hb, h⟩ := h
    unfold clg at h
    cases hs : s.testBit a && s.testBit b with
    | false => rw [hs] at h; simp at h
    | true =>
      rw [hs] at h
      simp only [Bool.and_eq_true] at hs
      simp only [cond_true, Nat.testBit_or, Nat.testBit_two_pow, Bool.or_eq_true, decide_eq_true_eq] at h
      exact ⟨a, b, ha, hb, hs.1, hs.2, by omega⟩
  · obtain ⟨a, b, ha, hb, s1, s2, h⟩ := h
    refine ⟨a, ha, ?_⟩
    rw [zun_t, zany_t]
    refine ⟨b, hb, ?_⟩
    unfold clg
    rw [s1, s2]
    simp only [Bool.and_self, cond_true, Nat.testBit_or, Nat.testBit_two_pow, Bool.or_eq_true, decide_eq_true_eq]
    omega
theorem tL_t {n x s v : Nat} {c : tC} : (tL n c x s).testBit v = true ↔ ∃ b, b < n ∧ s.testBit b = true ∧ c x b = v := by
  unfold tL
  rw [zim_t, zany_t]
  simp only [Bool.and_eq_true, decide_eq_true_eq]
theorem tRt_t {n x s v : Nat} {c : tC} : (tRt n c s x).testBit v = true ↔ ∃ b, b < n ∧ s.testBit b = true ∧ c b x = v := by
  unfold tRt
  rw [zim_t, zany_t]
  simp only [Bool.and_eq_true, decide_eq_true_eq]
theorem wP_t {n s v : Nat} {c : tC} : (wP n c s).testBit v = true ↔ s.testBit v = true ∨ ∃ a b, a < n ∧ b < n ∧ s.testBit a = true ∧ s.testBit b = true ∧ v = c a b := by
  unfold wP
  rw [Nat.testBit_or, Bool.or_eq_true, zun_t, zany_t]
  refine or_congr Iff.rfl ⟨fun h => ?_, fun h => ?_⟩
  · obtain ⟨a, ha, h⟩ := h
    unfold wPf at h
    cases hs : s.testBit a with
    | false => rw [hs] at h; simp at h
    | true =>
      rw [hs, cond_true, tL_t] at h
      obtain ⟨b, hb, s2, e⟩ := h
      exact ⟨a, b, ha, hb, hs, s2, e.symm⟩
  · obtain ⟨a, b, ha, hb, s1, s2, h⟩ := h
    refine ⟨a, ha, ?_⟩
    unfold wPf
    rw [s1, cond_true, tL_t]
    exact ⟨b, hb, s2, h.symm⟩
theorem tb_ext {x y : Nat} (h : ∀ v, x.testBit v = true ↔ y.testBit v = true) : x = y := by
  apply Nat.eq_of_testBit_eq
  intro i
  rw [Bool.eq_iff_iff]
  exact h i
theorem wP_fix {n s : Nat} {c : tC} : wP n c s = s ↔ ∀ a b, a < n → b < n → s.testBit a = true → s.testBit b = true → s.testBit (c a b) = true := by
  constructor
  · intro h a b ha hb s1 s2
    have : (wP n c s).testBit (c a b) = true := wP_t.mpr (Or.inr ⟨a, b, ha, hb, s1, s2, rfl⟩)
    rwa [h] at this
  · intro h
    refine tb_ext (fun v => ?_)
    rw [wP_t]
    constructor
    · rintro (g | ⟨a, b, ha, hb, s1, s2, rfl⟩)
      · exact g
      · exact h a b ha hb s1 s2
    · exact Or.inl
/-- a subset of a finite set that an injection takes into itself -/
theorem zpig_s {n : Nat} {f : Nat → Nat} {s : Nat} (hf : ∀ i, i < n → f i < n) (hi : ∀ i j, i < n → j < n → f i = f j → i = j) (hs : ∀ i, i < n → s.testBit i = true → s.testBit (f i) = true) {v : Nat} (hv : v < n) (hsv : s.testBit v = true) : ∃ i, i < n ∧ s.testBit i = true ∧ f i = v := by
  obtain ⟨i, h1, h2⟩ := zpig n (fun i => if s.testBit i = true then f i else i) (fun i h => by
    try dsimp only
    split
    · exact hf i h
    · exact h) (fun i j h1 h2 g => by
    try dsimp only at g
    split at g
    · rename_i a1
      split at g
      · exact hi i j h1 h2 g
      · rename_i a2
        exact absurd (g ▸ hs i h1 a1) a2
    · rename_i a1
      split at g
      · rename_i a2
        exact absurd (g ▸ hs j h2 a2) a1
      · exact g) v hv
  try dsimp only at h2
  split at h2
  · rename_i a1
    exact ⟨i, h1, a1, h2⟩
  · rename_i a1
    rw [h2] at a1
    exact absurd hsv a1
theorem FS_fix {n s : Nat} {c : tC} (h : tO n c) (hf : tF n c) (hw : wP n c s = s) : FS n c s = s := by
  have h8 := h.1.2
  have hc := wP_fix.mp hw
  refine tb_ext (fun v => ?_)
  rw [FS_t]
  constructor
  · rintro (g | ⟨a, b, ha, hb, s1, s2, rfl | rfl | rfl⟩)
    · exact g
    · exact hc a b ha hb s1 s2
    · obtain ⟨i, hi, si, e⟩ := zpig_s (f := fun y => c a y) (fun i hi => hf a i ha hi) (fun i j hi hj g => h.2.2.2.1 a i j ha hi hj g (by have := hf a i ha hi; omega)) (fun i hi g => hc a i ha hi s1 g) hb s2
      have u := tun_ok h hf ha hb
      have : tun n c a b = i := h.2.2.2.1 a _ i ha u.1 hi (u.2.trans e.symm) (by have := u.2; omega)
      rw [this]
      exact si
    · obtain ⟨i, hi, si, e⟩ := zpig_s (f := fun x => c x a) (fun i hi => hf i a hi ha) (fun i j hi hj g => h.2.2.2.2 i j a hi hj ha g (by have := hf i a hi ha; omega)) (fun i hi g => hc i a hi ha g s1) hb s2
      have u := tov_ok h hf ha hb
      have : tov n c b a = i := h.2.2.2.2 _ i a u.1 hi ha (u.2.trans e.symm) (by have := u.2; omega)
      rw [this]
      exact si
  · exact Or.inl
theorem wP_of_FS {n s : Nat} {c : tC} (h : FS n c s = s) : wP n c s = s := wP_fix.mpr (fun a b ha hb s1 s2 => by
  have : (FS n c s).testBit (c a b) = true := FS_t.mpr (Or.inr ⟨a, b, ha, hb, s1, s2, Or.inl rfl⟩)
  rwa [h] at this)
theorem tcl_sub {n : Nat} {c : tC} : ∀ (k s v : Nat), s.testBit v = true → (tcl n c k s).testBit v = true
  | 0, s, v, h => h
  | k + 1, s, v, h => by
    unfold tcl
    split
    · exact h
    · exact tcl_sub k _ v (FS_t.mpr (Or.inl h))
theorem tcl_fix {n s : Nat} {c : tC} (h : FS n c s = s) : ∀ k, tcl n c k s = s
  | 0 => rfl
  | k + 1 => by unfold tcl; rw [if_pos h]
theorem or1_eq {s : Nat} (h : s.testBit 0 = true) : s ||| 1 = s := by
  refine tb_ext (fun v => ?_)
  rw [Nat.testBit_or, Bool.or_eq_true]
  constructor
  · rintro (g | g)
    · exact g
    · have : v = 0 := by
        rcases Nat.eq_zero_or_pos v with q | q
        · exact q
        · rw [Nat.testBit_one_eq_true_iff_self_eq_zero] at g
          exact g
      rw [this]
      exact h
  · exact Or.inl
theorem isP_iff {n s : Nat} {c : tC} (h : tO n c) (hf : tF n c) (hfix : FS n c (tCl n c s) = tCl n c s) : decide (tCl n c s = s) = isP n c s := by
  rw [Bool.eq_iff_iff, decide_eq_true_eq]
  unfold isP
  rw [Bool.and_eq_true, decide_eq_true_eq]
  constructor
  · intro g
    have h0 : (tCl n c s).testBit 0 = true := tcl_sub _ _ 0 (by rw [Nat.testBit_or]; simp)
    rw [g] at h0 hfix
    exact ⟨h0, wP_of_FS hfix⟩
  · rintro ⟨g1, g2⟩
    unfold tCl
    rw [or1_eq g1]
    exact tcl_fix (FS_fix h hf g2) _
/-! normal, made, parts -/
theorem tcl_lt {n : Nat} {c : tC} (h : tO n c) (hf : tF n c) : ∀ (k s : Nat), s < 2 ^ n → tcl n c k s < 2 ^ n
  | 0, s, hs => hs
  | k + 1, s, hs => by
    unfold tcl
    split
    · exact hs
    · exact tcl_lt h hf k _ (FS_lt h hf hs)
theorem tCl_lt {n s : Nat} {c : tC} (h : tO n c) (hf : tF n c) (hs : s < 2 ^ n) : tCl n c s < 2 ^ n := tcl_lt h hf _ _ (or1_lt h.1.1 hs)
theorem p31 {n : Nat} (h8 : n ≤ 8) : 2 ^ n < 2 ^ 31 := Nat.lt_of_le_of_lt (p8 h8) (by decide)
theorem qL_isSet {T : tS} {M : zM} {t : Nat} {x : Int32} (hC : CS T M) (hT : TO T) (ht : t < 4) : zf_L_isSet [.ref 0, .int (nI t), .int x] M = some (some (zb (zlt x (2 ^ (T t).1))), M) := by
  have h8 := (hT t ht).1.2
  have s := nI_shl1 (v := (T t).1) (by omega)
  simp (disch := omega) [zf_L_isSet, zmeth, xm_en, zret, zretz, zretv, zseq, zst, zinc, zkl, zskip, zk, zi, za, zbin, zdiv, zrem, zgi, zgr, zld, zldr, zlen, zn, zc, zcall, zcallv, zrcv, zdo, zdov, zpf, zpfc, zas, zasc, zmin, zmax, zcmp, zcz, zand_e, zor_e, zite_e, zbite_e, zif_e, znot_e, z_add, z_sub, z_mul, z_and, z_or, z_xor, z_shl, z_shr, zcpy, -List.getElem?_cons_succ, zg_0, zg_1, zg_2, zg_3, zg_4, zg_5, zg_6, zg_7, zg_8, zg_9, zt_0, zt_12, zt_20, zt_26, zt_32, zf_0_0, zf_0_1, zf_0_2, zf_0_3, zf_0_4, zf_12_0, zf_12_1, zf_12_2, zf_12_4, zf_12_5, zf_20_1, zf_20_2, zf_20_3, zf_20_4, zf_20_6, zf_26_0, zf_26_1, zf_26_2, zf_26_3, zf_32_0, zf_32_1, zf_32_3, zf_32_4, zf_32_5, zf_32_6, zi_1, zf_1, nI_clamp, ztb_tag (tb4 ht), (hC t ht).1, s, qL_isBelow, zb_01]
theorem qM_isSet {T : tS} {M : zM} {t : Nat} {x : Int32} (hR : RS T M) (hT : TO T) (ht : t < 4) : zf_M_isSet [.ref 32, .int (nI t), .int x] M = some (some (zb (zlt x (2 ^ (T t).1))), M) := by
  have h8 := (hT t ht).1.2
  have s := nI_shl1 (v := (T t).1) (by omega)
  have hp := p8 h8
  have h1 : 1 ≤ 2 ^ (T t).1 := Nat.two_pow_pos _
  have e : 2 ^ (T t).1 - 1 + 1 = 2 ^ (T t).1 := by omega
  have z := zin0 x (m := 2 ^ (T t).1 - 1) (by omega)
  rw [e] at z
  simp (disch := omega) [zf_M_isSet, zmeth, xm_en, zret, zretz, zretv, zseq, zst, zinc, zkl, zskip, zk, zi, za, zbin, zdiv, zrem, zgi, zgr, zld, zldr, zlen, zn, zc, zcall, zcallv, zrcv, zdo, zdov, zpf, zpfc, zas, zasc, zmin, zmax, zcmp, zcz, zand_e, zor_e, zite_e, zbite_e, zif_e, znot_e, z_add, z_sub, z_mul, z_and, z_or, z_xor, z_shl, z_shr, zcpy, -List.getElem?_cons_succ, zg_0, zg_1, zg_2, zg_3, zg_4, zg_5, zg_6, zg_7, zg_8, zg_9, zt_0, zt_12, zt_20, zt_26, zt_32, zf_0_0, zf_0_1, zf_0_2, zf_0_3, zf_0_4, zf_12_0, zf_12_1, zf_12_2, zf_12_4, zf_12_5, zf_20_1, zf_20_2, zf_20_3, zf_20_4, zf_20_6, zf_26_0, zf_26_1, zf_26_2, zf_26_3, zf_32_0, zf_32_1, zf_32_3, zf_32_4, zf_32_5, zf_32_6, zi_33, nI_clamp, (hR t ht).1, s, nI_m1, qM_in, z, zb_01]
def aFault (n : Nat) (c : tC) (x : Int32) : Int32 := bif zlt x (2 ^ n) then (bif tB n c then (bif isP n c x.toNatClampNeg then nI 0 else -1) else -2) else -1
theorem qL_fault {T : tS} {M : zM} {t : Nat} {x : Int32} (hC : CS T M) (hT : TO T) (ht : t < 4) : zf_L_faultOfPart [.ref 0, .int (nI t), .int x] M = some (some (aFault (T t).1 (T t).2 x), M) := by
  have h8 := (hT t ht).1.2
  have hp := p31 h8
  have i1 := qL_isSet (x := x) hC hT ht
  unfold aFault
  cases hs : zlt x (2 ^ (T t).1) with
  | false =>
    rw [hs] at i1
    simp (disch := omega) [zf_L_faultOfPart, zmeth, xm_en, zret, zretz, zretv, zseq, zst, zinc, zkl, zskip, zk, zi, za, zbin, zdiv, zrem, zgi, zgr, zld, zldr, zlen, zn, zc, zcall, zcallv, zrcv, zdo, zdov, zpf, zpfc, zas, zasc, zmin, zmax, zcmp, zcz, zand_e, zor_e, zite_e, zbite_e, zif_e, znot_e, z_add, z_sub, z_mul, z_and, z_or, z_xor, z_shl, z_shr, zcpy, -List.getElem?_cons_succ, zg_0, zg_1, zg_2, zg_3, zg_4, zg_5, zg_6, zg_7, zg_8, zg_9, zt_0, zt_12, zt_20, zt_26, zt_32, zf_0_0, zf_0_1, zf_0_2, zf_0_3, zf_0_4, zf_12_0, zf_12_1, zf_12_2, zf_12_4, zf_12_5, zf_20_1, zf_20_2, zf_20_3, zf_20_4, zf_20_6, zf_26_0, zf_26_1, zf_26_2, zf_26_3, zf_32_0, zf_32_1, zf_32_3, zf_32_4, zf_32_5, zf_32_6, i1, zb_ne]
  | true =>
    rw [hs] at i1
    obtain ⟨s, hs2, rfl⟩ := zlt_t hp hs
    have cs : (nI s).toNatClampNeg = s := nI_clamp (by omega)
    cases hb : tB (T t).1 (T t).2 with
    | false => simp (disch := omega) [zf_L_faultOfPart, zmeth, xm_en, zret, zretz, zretv, zseq, zst, zinc, zkl, zskip, zk, zi, za, zbin, zdiv, zrem, zgi, zgr, zld, zldr, zlen, zn, zc, zcall, zcallv, zrcv, zdo, zdov, zpf, zpfc, zas, zasc, zmin, zmax, zcmp, zcz, zand_e, zor_e, zite_e, zbite_e, zif_e, znot_e, z_add, z_sub, z_mul, z_and, z_or, z_xor, z_shl, z_shr, zcpy, -List.getElem?_cons_succ, zg_0, zg_1, zg_2, zg_3, zg_4, zg_5, zg_6, zg_7, zg_8, zg_9, zt_0, zt_12, zt_20, zt_26, zt_32, zf_0_0, zf_0_1, zf_0_2, zf_0_3, zf_0_4, zf_12_0, zf_12_1, zf_12_2, zf_12_4, zf_12_5, zf_20_1, zf_20_2, zf_20_3, zf_20_4, zf_20_6, zf_26_0, zf_26_1, zf_26_2, zf_26_3, zf_32_0, zf_32_1, zf_32_3, zf_32_4, zf_32_5, zf_32_6, i1, zb_ne, zi_1, zf_1, nI_clamp, ztb_tag (tb4 ht), qT_isFull (tb4 ht) (hC t ht) (hT t ht), hb]
    | true =>
      have hf := (tB_iff (hT t ht)).mp hb
      have ip := qP_isPart (tb4 ht) (hC t ht) h8 hf hs2
      cases hi : isP (T t).1 (T t).2 s with
      | false => simp (disch := omega) [zf_L_faultOfPart, zmeth, xm_en, zret, zretz, zretv, zseq, zst, zinc, zkl, zskip, zk, zi, za, zbin, zdiv, zrem, zgi, zgr, zld, zldr, zlen, zn, zc, zcall, zcallv, zrcv, zdo, zdov, zpf, zpfc, zas, zasc, zmin, zmax, zcmp, zcz, zand_e, zor_e, zite_e, zbite_e, zif_e, znot_e, z_add, z_sub, z_mul, z_and, z_or, z_xor, z_shl, z_shr, zcpy, -List.getElem?_cons_succ, zg_0, zg_1, zg_2, zg_3, zg_4, zg_5, zg_6, zg_7, zg_8, zg_9, zt_0, zt_12, zt_20, zt_26, zt_32, zf_0_0, zf_0_1, zf_0_2, zf_0_3, zf_0_4, zf_12_0, zf_12_1, zf_12_2, zf_12_4, zf_12_5, zf_20_1, zf_20_2, zf_20_3, zf_20_4, zf_20_6, zf_26_0, zf_26_1, zf_26_2, zf_26_3, zf_32_0, zf_32_1, zf_32_3, zf_32_4, zf_32_5, zf_32_6, i1, zb_ne, zi_1, zf_1, nI_clamp, ztb_tag (tb4 ht), qT_isFull (tb4 ht) (hC t ht) (hT t ht), hb, ip, hi]
      | true => simp (disch := omega) [zf_L_faultOfPart, zmeth, xm_en, zret, zretz, zretv, zseq, zst, zinc, zkl, zskip, zk, zi, za, zbin, zdiv, zrem, zgi, zgr, zld, zldr, zlen, zn, zc, zcall, zcallv, zrcv, zdo, zdov, zpf, zpfc, zas, zasc, zmin, zmax, zcmp, zcz, zand_e, zor_e, zite_e, zbite_e, zif_e, znot_e, z_add, z_sub, z_mul, z_and, z_or, z_xor, z_shl, z_shr, zcpy, -List.getElem?_cons_succ, zg_0, zg_1, zg_2, zg_3, zg_4, zg_5, zg_6, zg_7, zg_8, zg_9, zt_0, zt_12, zt_20, zt_26, zt_32, zf_0_0, zf_0_1, zf_0_2, zf_0_3, zf_0_4, zf_12_0, zf_12_1, zf_12_2, zf_12_4, zf_12_5, zf_20_1, zf_20_2, zf_20_3, zf_20_4, zf_20_6, zf_26_0, zf_26_1, zf_26_2, zf_26_3, zf_32_0, zf_32_1, zf_32_3, zf_32_4, zf_32_5, zf_32_6, i1, zb_ne, zi_1, zf_1, nI_clamp, ztb_tag (tb4 ht), qT_isFull (tb4 ht) (hC t ht) (hT t ht), hb, ip, hi]
/-- the argument is a part of a full table -/
def okP (T : tS) (x y : Int32) : Bool := zlt x 4 && (zlt y (2 ^ (T x.toNatClampNeg).1) && (tB (T x.toNatClampNeg).1 (T x.toNatClampNeg).2 && isP (T x.toNatClampNeg).1 (T x.toNatClampNeg).2 y.toNatClampNeg))
def aNormal (T : tS) (x y : Int32) : Int32 := bif zlt x 4 then (bif okP T x y then zb (tNm (T x.toNatClampNeg).1 (T x.toNatClampNeg).2 y.toNatClampNeg) else aFault (T x.toNatClampNeg).1 (T x.toNatClampNeg).2 y) else -1
theorem aFault_0 {n : Nat} {c : tC} {y : Int32} : xe_cd .ne (aFault n c y) 0 = !(zlt y (2 ^ n) && (tB n c && isP n c y.toNatClampNeg)) := by
  unfold aFault
  cases zlt y (2 ^ n) with
  | false =>
    show xe_cd .ne (-1) 0 = true
    decide
  | true =>
    cases tB n c with
    | false =>
      show xe_cd .ne (-2) 0 = true
      decide
    | true =>
      cases isP n c y.toNatClampNeg with
      | false => decide
      | true => decide
theorem qL_normal {T : tS} {M : zM} (x y : Int32) (hC : CS T M) (hT : TO T) : zf_L_normal [.ref 0, .int x, .int y] M = some (some (aNormal T x y), M) := by
  rcases z3 x (n := 4) (by decide) with h | ⟨t, ht, rfl⟩
  · simp [zf_L_normal, zmeth, xm_en, zret, zretz, zretv, zseq, zst, zinc, zkl, zskip, zk, zi, za, zbin, zdiv, zrem, zgi, zgr, zld, zldr, zlen, zn, zc, zcall, zcallv, zrcv, zdo, zdov, zpf, zpfc, zas, zasc, zmin, zmax, zcmp, zcz, zand_e, zor_e, zite_e, zbite_e, zif_e, znot_e, z_add, z_sub, z_mul, z_and, z_or, z_xor, z_shl, z_shr, zcpy, -List.getElem?_cons_succ, zg_0, zg_1, zg_2, zg_3, zg_4, zg_5, zg_6, zg_7, zg_8, zg_9, qL_isTable, zb_ne, h, aNormal]
  · have e := zlt_y ht (by decide)
    have ct : (nI t).toNatClampNeg = t := nI_clamp (by omega)
    have h8 := (hT t ht).1.2
    have hp := p31 h8
    have fa := qL_fault (x := y) hC hT ht
    have f0 := aFault_0 (n := (T t).1) (c := (T t).2) (y := y)
    cases hk : zlt y (2 ^ (T t).1) && (tB (T t).1 (T t).2 && isP (T t).1 (T t).2 y.toNatClampNeg) with
    | false =>
      rw [hk] at f0
      have hok : okP T (nI t) y = false := by unfold okP; rw [ct, hk, Bool.and_false]
      simp (disch := omega) [zf_L_normal, zmeth, xm_en, zret, zretz, zretv, zseq, zst, zinc, zkl, zskip, zk, zi, za, zbin, zdiv, zrem, zgi, zgr, zld, zldr, zlen, zn, zc, zcall, zcallv, zrcv, zdo, zdov, zpf, zpfc, zas, zasc, zmin, zmax, zcmp, zcz, zand_e, zor_e, zite_e, zbite_e, zif_e, znot_e, z_add, z_sub, z_mul, z_and, z_or, z_xor, z_shl, z_shr, zcpy, -List.getElem?_cons_succ, zg_0, zg_1, zg_2, zg_3, zg_4, zg_5, zg_6, zg_7, zg_8, zg_9, zt_0, zt_12, zt_20, zt_26, zt_32, zf_0_0, zf_0_1, zf_0_2, zf_0_3, zf_0_4, zf_12_0, zf_12_1, zf_12_2, zf_12_4, zf_12_5, zf_20_1, zf_20_2, zf_20_3, zf_20_4, zf_20_6, zf_26_0, zf_26_1, zf_26_2, zf_26_3, zf_32_0, zf_32_1, zf_32_3, zf_32_4, zf_32_5, zf_32_6, qL_isTable, zb_ne, e, aNormal, hok, ct, fa, f0]
    | true =>
      rw [hk] at f0
      have hok : okP T (nI t) y = true := by unfold okP; rw [ct, hk, e]; rfl
      simp only [Bool.and_eq_true] at hk
      obtain ⟨s, hs2, rfl⟩ := zlt_t hp hk.1
      have cs : (nI s).toNatClampNeg = s := nI_clamp (by omega)
      have hf := (tB_iff (hT t ht)).mp hk.2.1
      have nn := qP_isNormal (tb4 ht) (hC t ht) h8 hf (show s < 2 ^ 31 by omega)
      simp (disch := omega) [zf_L_normal, zmeth, xm_en, zret, zretz, zretv, zseq, zst, zinc, zkl, zskip, zk, zi, za, zbin, zdiv, zrem, zgi, zgr, zld, zldr, zlen, zn, zc, zcall, zcallv, zrcv, zdo, zdov, zpf, zpfc, zas, zasc, zmin, zmax, zcmp, zcz, zand_e, zor_e, zite_e, zbite_e, zif_e, znot_e, z_add, z_sub, z_mul, z_and, z_or, z_xor, z_shl, z_shr, zcpy, -List.getElem?_cons_succ, zg_0, zg_1, zg_2, zg_3, zg_4, zg_5, zg_6, zg_7, zg_8, zg_9, zt_0, zt_12, zt_20, zt_26, zt_32, zf_0_0, zf_0_1, zf_0_2, zf_0_3, zf_0_4, zf_12_0, zf_12_1, zf_12_2, zf_12_4, zf_12_5, zf_20_1, zf_20_2, zf_20_3, zf_20_4, zf_20_6, zf_26_0, zf_26_1, zf_26_2, zf_26_3, zf_32_0, zf_32_1, zf_32_3, zf_32_4, zf_32_5, zf_32_6, qL_isTable, zb_ne, e, aNormal, hok, ct, cs, fa, f0, zi_1, zf_1, nI_clamp, nn, zbm3, zbm4, zb_f]
theorem qM_normal {T : tS} {M : zM} (x y : Int32) (hR : RS T M) (hT : TO T) : zf_M_normal [.ref 32, .int x, .int y] M = some (some (aNormal T x y), M) := by
  rcases z3 x (n := 4) (by decide) with h | ⟨t, ht, rfl⟩
  · simp [zf_M_normal, zmeth, xm_en, zret, zretz, zretv, zseq, zst, zinc, zkl, zskip, zk, zi, za, zbin, zdiv, zrem, zgi, zgr, zld, zldr, zlen, zn, zc, zcall, zcallv, zrcv, zdo, zdov, zpf, zpfc, zas, zasc, zmin, zmax, zcmp, zcz, zand_e, zor_e, zite_e, zbite_e, zif_e, znot_e, z_add, z_sub, z_mul, z_and, z_or, z_xor, z_shl, z_shr, zcpy, -List.getElem?_cons_succ, zg_0, zg_1, zg_2, zg_3, zg_4, zg_5, zg_6, zg_7, zg_8, zg_9, qM_isTable, zb_ne, h, aNormal]
  · have e := zlt_y ht (by decide)
    have ct : (nI t).toNatClampNeg = t := nI_clamp (by omega)
    have h8 := (hT t ht).1.2
    have h6 : t < 6 := by omega
    have hp := p31 h8
    have i1 := qM_isSet (x := y) hR hT ht
    cases hs : zlt y (2 ^ (T t).1) with
    | false =>
      rw [hs] at i1
      simp (disch := omega) [zf_M_normal, zmeth, xm_en, zret, zretz, zretv, zseq, zst, zinc, zkl, zskip, zk, zi, za, zbin, zdiv, zrem, zgi, zgr, zld, zldr, zlen, zn, zc, zcall, zcallv, zrcv, zdo, zdov, zpf, zpfc, zas, zasc, zmin, zmax, zcmp, zcz, zand_e, zor_e, zite_e, zbite_e, zif_e, znot_e, z_add, z_sub, z_mul, z_and, z_or, z_xor, z_shl, z_shr, zcpy, -List.getElem?_cons_succ, zg_0, zg_1, zg_2, zg_3, zg_4, zg_5, zg_6, zg_7, zg_8, zg_9, zt_0, zt_12, zt_20, zt_26, zt_32, zf_0_0, zf_0_1, zf_0_2, zf_0_3, zf_0_4, zf_12_0, zf_12_1, zf_12_2, zf_12_4, zf_12_5, zf_20_1, zf_20_2, zf_20_3, zf_20_4, zf_20_6, zf_26_0, zf_26_1, zf_26_2, zf_26_3, zf_32_0, zf_32_1, zf_32_3, zf_32_4, zf_32_5, zf_32_6, qM_isTable, zb_ne, e, aNormal, okP, aFault, ct, hs, i1]
    | true =>
      rw [hs] at i1
      obtain ⟨s, hs2, rfl⟩ := zlt_t hp hs
      have cs : (nI s).toNatClampNeg = s := nI_clamp (by omega)
      cases hb : tB (T t).1 (T t).2 with
      | false => simp (disch := omega) [zf_M_normal, zmeth, xm_en, zret, zretz, zretv, zseq, zst, zinc, zkl, zskip, zk, zi, za, zbin, zdiv, zrem, zgi, zgr, zld, zldr, zlen, zn, zc, zcall, zcallv, zrcv, zdo, zdov, zpf, zpfc, zas, zasc, zmin, zmax, zcmp, zcz, zand_e, zor_e, zite_e, zbite_e, zif_e, znot_e, z_add, z_sub, z_mul, z_and, z_or, z_xor, z_shl, z_shr, zcpy, -List.getElem?_cons_succ, zg_0, zg_1, zg_2, zg_3, zg_4, zg_5, zg_6, zg_7, zg_8, zg_9, zt_0, zt_12, zt_20, zt_26, zt_32, zf_0_0, zf_0_1, zf_0_2, zf_0_3, zf_0_4, zf_12_0, zf_12_1, zf_12_2, zf_12_4, zf_12_5, zf_20_1, zf_20_2, zf_20_3, zf_20_4, zf_20_6, zf_26_0, zf_26_1, zf_26_2, zf_26_3, zf_32_0, zf_32_1, zf_32_3, zf_32_4, zf_32_5, zf_32_6, qM_isTable, zb_ne, e, aNormal, okP, aFault, ct, cs, hs, i1, qM_isFull h6 (hR t ht) h8, hb]
      | true =>
        have hf := (tB_iff (hT t ht)).mp hb
        obtain ⟨c1, c2⟩ := qM_closed h6 (hR t ht) (hT t ht) hf hs2
        have c3 := isP_iff (hT t ht) hf c2
        have c4 := tCl_lt (hT t ht) hf hs2
        have nn := qM_isNormal h6 (hR t ht) h8 hf (show s < 2 ^ 31 by omega)
        have c5 : xe_cd .ne (nI (tCl (T t).1 (T t).2 s)) (nI s) = !isP (T t).1 (T t).2 s := by rw [zc_ne (by omega) (by omega), c3]
        cases hi : isP (T t).1 (T t).2 s with
        | false =>
          rw [hi] at c5
          simp (disch := omega) [zf_M_normal, zmeth, xm_en, zret, zretz, zretv, zseq, zst, zinc, zkl, zskip, zk, zi, za, zbin, zdiv, zrem, zgi, zgr, zld, zldr, zlen, zn, zc, zcall, zcallv, zrcv, zdo, zdov, zpf, zpfc, zas, zasc, zmin, zmax, zcmp, zcz, zand_e, zor_e, zite_e, zbite_e, zif_e, znot_e, z_add, z_sub, z_mul, z_and, z_or, z_xor, z_shl, z_shr, zcpy, -List.getElem?_cons_succ, zg_0, zg_1, zg_2, zg_3, zg_4, zg_5, zg_6, zg_7, zg_8, zg_9, zt_0, zt_12, zt_20, zt_26, zt_32, zf_0_0, zf_0_1, zf_0_2, zf_0_3, zf_0_4, zf_12_0, zf_12_1, zf_12_2, zf_12_4, zf_12_5, zf_20_1, zf_20_2, zf_20_3, zf_20_4, zf_20_6, zf_26_0, zf_26_1, zf_26_2, zf_26_3, zf_32_0, zf_32_1, zf_32_3, zf_32_4, zf_32_5, zf_32_6, qM_isTable, zb_ne, e, aNormal, okP, aFault, ct, cs, hs, i1, qM_isFull h6 (hR t ht) h8, hb, c1, c5, hi]
        | true =>
          rw [hi] at c5
          simp (disch := omega) [zf_M_normal, zmeth, xm_en, zret, zretz, zretv, zseq, zst, zinc, zkl, zskip, zk, zi, za, zbin, zdiv, zrem, zgi, zgr, zld, zldr, zlen, zn, zc, zcall, zcallv, zrcv, zdo, zdov, zpf, zpfc, zas, zasc, zmin, zmax, zcmp, zcz, zand_e, zor_e, zite_e, zbite_e, zif_e, znot_e, z_add, z_sub, z_mul, z_and, z_or, z_xor, z_shl, z_shr, zcpy, -List.getElem?_cons_succ, zg_0, zg_1, zg_2, zg_3, zg_4, zg_5, zg_6, zg_7, zg_8, zg_9, zt_0, zt_12, zt_20, zt_26, zt_32, zf_0_0, zf_0_1, zf_0_2, zf_0_3, zf_0_4, zf_12_0, zf_12_1, zf_12_2, zf_12_4, zf_12_5, zf_20_1, zf_20_2, zf_20_3, zf_20_4, zf_20_6, zf_26_0, zf_26_1, zf_26_2, zf_26_3, zf_32_0, zf_32_1, zf_32_3, zf_32_4, zf_32_5, zf_32_6, qM_isTable, zb_ne, e, aNormal, okP, aFault, ct, cs, hs, i1, qM_isFull h6 (hR t ht) h8, hb, c1, c5, hi, nn, zbm3, zbm4, zb_f]
/-! what is left of a table by a normal part -/
def lb (n : Nat) (c : tC) (h x : Nat) : Nat := zidx (fun a => (tL n c x h).testBit a) 0 n
def rk (n : Nat) (c : tC) (h a : Nat) : Nat := zsum (fun i => if lb n c h i = i then 1 else 0) a
def nm (n : Nat) (c : tC) (h x : Nat) : Nat := rk n c h (lb n c h x)
def rp (n : Nat) (c : tC) (h i : Nat) : Nat := zidx (fun a => decide (lb n c h a = a) && decide (rk n c h a = i)) 0 n
def tQ (n : Nat) (c : tC) (h : Nat) : tC := fun i j => nm n c h (c (rp n c h i) (rp n c h j))
/-- a normal part of a full table -/
def NP (n : Nat) (c : tC) (h : Nat) : Prop := tO n c ∧ tF n c ∧ h < 2 ^ n ∧ isP n c h = true ∧ tNm n c h = true
theorem tb_lt {n h v : Nat} (hh : h < 2 ^ n) (hv : h.testBit v = true) : v < n := by
  rcases Nat.lt_or_ge v n with g | g
  · exact g
  · have := Nat.testBit_lt_two_pow (Nat.lt_of_lt_of_le hh (Nat.pow_le_pow_right (by decide) g))
    rw [this] at hv
    cases hv
theorem NP.bit {n h : Nat} {c : tC} (H : NP n c h) : h.testBit 0 = true ∧ ∀ a b, h.testBit a = true → h.testBit b = true → h.testBit (c a b) = true := by
  obtain ⟨h1, h2, h3, h4, -⟩ := H
  unfold isP at h4
  rw [Bool.and_eq_true, decide_eq_true_eq] at h4
  exact ⟨h4.1, fun a b ha hb => wP_fix.mp h4.2 a b (tb_lt h3 ha) (tb_lt h3 hb) ha hb⟩
theorem NP.nmP {n h : Nat} {c : tC} (H : NP n c h) : (∀ x, x < n → tL n c x h = tRt n c h x) ∧ (∀ x y, x < n → y < n → tL n c x (tL n c y h) = tL n c (c x y) h) ∧ (∀ x y, x < n → y < n → tRt n c (tRt n c h x) y = tRt n c h (c x y)) := by
  obtain ⟨-, -, -, -, h5⟩ := H
  have g := zall_t.mp h5
  refine ⟨fun x hx => ?_, fun x y hx hy => ?_, fun x y hx hy => ?_⟩
  · have := g x hx
    simp only [nm1, Bool.and_eq_true, decide_eq_true_eq] at this
    exact this.1
  · have := g x hx
    simp only [nm1, Bool.and_eq_true, decide_eq_true_eq] at this
    have := zall_t.mp this.2 y hy
    simp only [nm2, Bool.and_eq_true, decide_eq_true_eq] at this
    exact this.1
  · have := g x hx
    simp only [nm1, Bool.and_eq_true, decide_eq_true_eq] at this
    have := zall_t.mp this.2 y hy
    simp only [nm2, Bool.and_eq_true, decide_eq_true_eq] at this
    exact this.2
theorem NP.self {n h x : Nat} {c : tC} (H : NP n c h) (hx : x < n) : (tL n c x h).testBit x = true := tL_t.mpr ⟨0, H.1.1.1, H.bit.1, (H.1.2.1 x hx).2⟩
theorem NP.kh {n h k : Nat} {c : tC} (H : NP n c h) (hk : h.testBit k = true) : tL n c k h = h := by
  have h8 := H.1.1.2
  have hkn := tb_lt H.2.2.1 hk
  refine tb_ext (fun v => ?_)
  rw [tL_t]
  constructor
  · rintro ⟨b, hb, sb, rfl⟩
    exact H.bit.2 k b hk sb
  · intro hv
    obtain ⟨i, hi, si, e⟩ := zpig_s (f := fun y => c k y) (fun i hi => H.2.1 k i hkn hi) (fun i j hi hj g => H.1.2.2.2.1 k i j hkn hi hj g (by have := H.2.1 k i hkn hi; omega)) (fun i hi g => H.bit.2 k i hk g) (tb_lt H.2.2.1 hv) hv
    exact ⟨i, hi, si, e⟩
theorem NP.cos {n h x y : Nat} {c : tC} (H : NP n c h) (hx : x < n) (hy : (tL n c x h).testBit y = true) : tL n c y h = tL n c x h := by
  obtain ⟨k, hk, sk, rfl⟩ := tL_t.mp hy
  rw [← H.nmP.2.1 x k hx hk, H.kh sk]
theorem NP.lbP {n h x : Nat} {c : tC} (H : NP n c h) (hx : x < n) : lb n c h x ≤ x ∧ (tL n c x h).testBit (lb n c h x) = true ∧ tL n c (lb n c h x) h = tL n c x h ∧ lb n c h (lb n c h x) = lb n c h x := by
  have s := H.self hx
  have h1 : lb n c h x ≤ x := by
    rcases Nat.lt_or_ge x (lb n c h x) with g | g
    · have := zidx_no (p := fun a => (tL n c x h).testBit a) n 0 x (by omega) g
      rw [s] at this
      cases this
    · exact g
  have h2 : (tL n c x h).testBit (lb n c h x) = true := zidx_lt (p := fun a => (tL n c x h).testBit a) n 0 (by unfold lb at h1; omega)
  have h3 := H.cos hx h2
  refine ⟨h1, h2, h3, ?_⟩
  show zidx (fun a => (tL n c (lb n c h x) h).testBit a) 0 n = _
  rw [h3]
  rfl
theorem NP.lb_eq {n h x y : Nat} {c : tC} (H : NP n c h) (hx : x < n) (hy : y < n) : lb n c h x = lb n c h y ↔ tL n c x h = tL n c y h := by
  constructor
  · intro e
    rw [← (H.lbP hx).2.2.1, ← (H.lbP hy).2.2.1, e]
  · intro e
    unfold lb
    rw [e]
theorem NP.con {n h x y x' y' : Nat} {c : tC} (H : NP n c h) (hx : x < n) (hy : y < n) (hx' : x' < n) (hy' : y' < n) (e1 : lb n c h x = lb n c h x') (e2 : lb n c h y = lb n c h y') : lb n c h (c x y) = lb n c h (c x' y') := by
  have f := H.2.1
  rw [H.lb_eq (f x y hx hy) (f x' y' hx' hy')]
  have g1 := (H.lb_eq hx hx').mp e1
  have g2 := (H.lb_eq hy hy').mp e2
  rw [← H.nmP.2.1 x y hx hy, g2, H.nmP.2.1 x y' hx hy', H.nmP.1 _ (f x y' hx hy'), ← H.nmP.2.2 x y' hx hy', ← H.nmP.1 x hx, g1, H.nmP.1 x' hx', H.nmP.2.2 x' y' hx' hy', ← H.nmP.1 _ (f x' y' hx' hy')]
theorem rk_s (n : Nat) (c : tC) (h a : Nat) : rk n c h (a + 1) = rk n c h a + if lb n c h a = a then 1 else 0 := rfl
theorem rk_le (n : Nat) (c : tC) (h a : Nat) : rk n c h a ≤ a := zsum_b (fun i => by split <;> omega)
theorem rk_mono {n : Nat} {c : tC} {h a b : Nat} (hab : a ≤ b) : rk n c h a ≤ rk n c h b := zsum_mono hab
theorem rk_lt {n : Nat} {c : tC} {h a b : Nat} (hab : a < b) (e : lb n c h a = a) : rk n c h a < rk n c h b := by
  have := rk_mono (n := n) (c := c) (h := h) (show a + 1 ≤ b from hab)
  rw [rk_s, if_pos e] at this
  omega
theorem rk_inj {n : Nat} {c : tC} {h a b : Nat} (ea : lb n c h a = a) (eb : lb n c h b = b) (e : rk n c h a = rk n c h b) : a = b := by
  rcases Nat.lt_trichotomy a b with g | g | g
  · have := rk_lt g ea; omega
  · exact g
  · have := rk_lt g eb; omega
theorem rk_ex {n : Nat} {c : tC} {h : Nat} : ∀ (m i : Nat), i < rk n c h m → ∃ a, a < m ∧ lb n c h a = a ∧ rk n c h a = i
  | 0, i, g => by simp [rk, zsum] at g
  | m + 1, i, g => by
    rw [rk_s] at g
    by_cases e : lb n c h m = m
    · rw [if_pos e] at g
      rcases Nat.lt_or_ge i (rk n c h m) with q | q
      · obtain ⟨a, h1, h2⟩ := rk_ex m i q
        exact ⟨a, by omega, h2⟩
      · exact ⟨m, by omega, e, by omega⟩
    · rw [if_neg e] at g
      obtain ⟨a, h1, h2⟩ := rk_ex m i (by omega)
      exact ⟨a, by omega, h2⟩
theorem rp_ok {n : Nat} {c : tC} {h i : Nat} (hi : i < rk n c h n) : rp n c h i < n ∧ lb n c h (rp n c h i) = rp n c h i ∧ rk n c h (rp n c h i) = i := by
  obtain ⟨a, h1, h2, h3⟩ := rk_ex n i hi
  have g : rp n c h i < n := by
    rcases Nat.lt_or_ge (rp n c h i) n with q | q
    · exact q
    · have := zidx_no (p := fun a => decide (lb n c h a = a) && decide (rk n c h a = i)) n 0 a (by omega) (by unfold rp at q; omega)
      simp [h2, h3] at this
  have := zidx_lt (p := fun a => decide (lb n c h a = a) && decide (rk n c h a = i)) n 0 (by unfold rp at g; omega)
  simp only [Bool.and_eq_true, decide_eq_true_eq] at this
  exact ⟨g, this.1, this.2⟩
theorem NP.nm_lt {n h x : Nat} {c : tC} (H : NP n c h) (hx : x < n) : nm n c h x < rk n c h n := by
  have := H.lbP hx
  exact rk_lt (by omega) this.2.2.2
theorem NP.nm_eq {n h x y : Nat} {c : tC} (H : NP n c h) (hx : x < n) (hy : y < n) : nm n c h x = nm n c h y ↔ lb n c h x = lb n c h y := by
  constructor
  · exact fun e => rk_inj (H.lbP hx).2.2.2 (H.lbP hy).2.2.2 e
  · intro e
    unfold nm
    rw [e]
theorem NP.rp_nm {n h x : Nat} {c : tC} (H : NP n c h) (hx : x < n) : lb n c h (rp n c h (nm n c h x)) = lb n c h x := by
  have g := rp_ok (H.nm_lt hx)
  have := H.lbP hx
  rw [g.2.1]
  exact rk_inj g.2.1 this.2.2.2 g.2.2
theorem NP.q {n h x y : Nat} {c : tC} (H : NP n c h) (hx : x < n) (hy : y < n) : nm n c h (c x y) = tQ n c h (nm n c h x) (nm n c h y) := by
  have g1 := rp_ok (H.nm_lt hx)
  have g2 := rp_ok (H.nm_lt hy)
  unfold tQ
  rw [H.nm_eq (H.2.1 x y hx hy) (H.2.1 _ _ g1.1 g2.1)]
  exact H.con hx hy g1.1 g2.1 (H.rp_nm hx).symm (H.rp_nm hy).symm
theorem tL_can {n x s s' : Nat} {c : tC} (h : tO n c) (hf : tF n c) (hx : x < n) (hs : s < 2 ^ n) (hs' : s' < 2 ^ n) (e : tL n c x s = tL n c x s') : s = s' := by
  have h8 := h.1.2
  have key : ∀ a b : Nat, a < 2 ^ n → tL n c x a = tL n c x b → ∀ v, a.testBit v = true → b.testBit v = true := fun a b ha q v hv => by
    have hvn := tb_lt ha hv
    have : (tL n c x a).testBit (c x v) = true := tL_t.mpr ⟨v, hvn, hv, rfl⟩
    rw [q] at this
    obtain ⟨w, hw, sw, ew⟩ := tL_t.mp this
    have : w = v := h.2.2.2.1 x w v hx hw hvn ew (by have := hf x w hx hw; omega)
    rwa [← this]
  exact tb_ext (fun v => ⟨key s s' hs e v, key s' s hs' e.symm v⟩)
theorem tRt_can {n x s s' : Nat} {c : tC} (h : tO n c) (hf : tF n c) (hx : x < n) (hs : s < 2 ^ n) (hs' : s' < 2 ^ n) (e : tRt n c s x = tRt n c s' x) : s = s' := by
  have h8 := h.1.2
  have key : ∀ a b : Nat, a < 2 ^ n → tRt n c a x = tRt n c b x → ∀ v, a.testBit v = true → b.testBit v = true := fun a b ha q v hv => by
    have hvn := tb_lt ha hv
    have : (tRt n c a x).testBit (c v x) = true := tRt_t.mpr ⟨v, hvn, hv, rfl⟩
    rw [q] at this
    obtain ⟨w, hw, sw, ew⟩ := tRt_t.mp this
    have : w = v := h.2.2.2.2 w v x hw hvn hx ew (by have := hf w x hw hx; omega)
    rwa [← this]
  exact tb_ext (fun v => ⟨key s s' hs e v, key s' s hs' e.symm v⟩)
theorem NP.lb0 {n h : Nat} {c : tC} (H : NP n c h) : lb n c h 0 = 0 := by
  have := (H.lbP H.1.1.1).1
  omega
theorem NP.tFP {n h : Nat} {c : tC} (H : NP n c h) : tF (rk n c h n) (tQ n c h) := fun i j hi hj => H.nm_lt (H.2.1 _ _ (rp_ok hi).1 (rp_ok hj).1)
theorem NP.tOP {n h : Nat} {c : tC} (H : NP n c h) : tO (rk n c h n) (tQ n c h) := by
  have h1 : 1 ≤ rk n c h n := by
    have := rk_lt (n := n) (c := c) (h := h) H.1.1.1 H.lb0
    omega
  have h8 : rk n c h n ≤ 8 := Nat.le_trans (rk_le n c h n) H.1.1.2
  have r0 : rp n c h 0 = 0 := by
    have g := rp_ok h1
    exact rk_inj g.2.1 H.lb0 (by rw [g.2.2]; rfl)
  have self : ∀ i, i < rk n c h n → nm n c h (rp n c h i) = i := fun i hi => by
    have g := rp_ok hi
    unfold nm
    rw [g.2.1, g.2.2]
  refine ⟨⟨h1, h8⟩, fun a ha => ?_, fun a b ha hb => Or.inl (H.tFP a b ha hb), fun a b d ha hb hd e _ => ?_, fun a b d ha hb hd e _ => ?_⟩
  · have g := rp_ok ha
    unfold tQ
    rw [r0, (H.1.2.1 _ g.1).1, (H.1.2.1 _ g.1).2]
    exact ⟨self a ha, self a ha⟩
  · have ga := rp_ok ha
    have gb := rp_ok hb
    have gd := rp_ok hd
    unfold tQ at e
    rw [H.nm_eq (H.2.1 _ _ ga.1 gb.1) (H.2.1 _ _ ga.1 gd.1), H.lb_eq (H.2.1 _ _ ga.1 gb.1) (H.2.1 _ _ ga.1 gd.1), ← H.nmP.2.1 _ _ ga.1 gb.1, ← H.nmP.2.1 _ _ ga.1 gd.1] at e
    have e2 := tL_can H.1 H.2.1 ga.1 (tL_lt H.2.1 gb.1) (tL_lt H.2.1 gd.1) e
    have e3 := (H.lb_eq gb.1 gd.1).mpr e2
    rw [← self b hb, ← self d hd, H.nm_eq gb.1 gd.1]
    exact e3
  · have ga := rp_ok ha
    have gb := rp_ok hb
    have gd := rp_ok hd
    have f1 := H.2.1 _ _ ga.1 gd.1
    have f2 := H.2.1 _ _ gb.1 gd.1
    unfold tQ at e
    rw [H.nm_eq f1 f2, H.lb_eq f1 f2, H.nmP.1 _ f1, H.nmP.1 _ f2, ← H.nmP.2.2 _ _ ga.1 gd.1, ← H.nmP.2.2 _ _ gb.1 gd.1] at e
    have e2 := tRt_can H.1 H.2.1 gd.1 (tRt_lt H.2.1 ga.1) (tRt_lt H.2.1 gb.1) e
    rw [← H.nmP.1 _ ga.1, ← H.nmP.1 _ gb.1] at e2
    have e3 := (H.lb_eq ga.1 gb.1).mpr e2
    rw [← self a ha, ← self b hb, H.nm_eq ga.1 gb.1]
    exact e3
/-! bitCount, place, lowest, named -/
def bc (v : Nat) : Nat := zsum (fun i => if v.testBit i = true then 1 else 0) 8
def zb1 (x : Int32) : Int32 := x - (z_ushr x (nI 1) &&& nI 1431655765)
def zb2 (x : Int32) : Int32 := (x &&& nI 858993459) + (z_ushr x (nI 2) &&& nI 858993459)
def zb3 (x : Int32) : Int32 := (x + z_ushr x (nI 4)) &&& nI 252645135
def zb4 (x : Int32) : Int32 := x + z_ushr x (nI 8)
def zb5 (x : Int32) : Int32 := x + z_ushr x (nI 16)
theorem bc_ok : ∀ v, v < 256 → zb5 (zb4 (zb3 (zb2 (zb1 (nI v))))) &&& nI 63 = nI (bc v) := by decide +kernel
theorem qI_bc {M : zM} {v : Nat} (hv : v < 256) : zf_Integer_bitCount [.int (nI v)] M = some (some (nI (bc v)), M) := by
  rw [← bc_ok v hv]
  rfl
theorem zsum_cut {f : Nat → Nat} {a : Nat} : ∀ {m : Nat}, a ≤ m → zsum (fun i => if i < a then f i else 0) m = zsum f a := by
  intro m h
  induction h with
  | refl => exact zsum_congr (fun i hi => if_pos hi)
  | step h ih =>
    rename_i m
    show zsum _ m + _ = _
    have h2 : a ≤ m := h
    rw [ih]
    show zsum f a + (if m < a then f m else 0) = _
    rw [if_neg (by omega), Nat.add_zero]
def tLs (n : Nat) (c : tC) (h : Nat) : Nat := zim (lb n c h) (fun _ => true) n
theorem NP.LS_t {n h i : Nat} {c : tC} (H : NP n c h) (hi : i < n) : (tLs n c h).testBit i = decide (lb n c h i = i) := by
  unfold tLs
  rw [zim_t, Bool.eq_iff_iff, zany_t, decide_eq_true_eq]
  simp only [Bool.true_and, decide_eq_true_eq]
  constructor
  · rintro ⟨x, hx, rfl⟩
    exact (H.lbP hx).2.2.2
  · intro e
    exact ⟨i, hi, e⟩
theorem NP.LS_lt {n h : Nat} {c : tC} (H : NP n c h) : tLs n c h < 2 ^ n := zim_lt (fun i hi _ => by have := (H.lbP hi).1; omega)
theorem NP.bc_rk {n h a : Nat} {c : tC} (H : NP n c h) (ha : a ≤ n) : bc (tLs n c h % 2 ^ a) = rk n c h a := by
  have h8 := H.1.1.2
  unfold bc
  refine Eq.trans (zsum_congr (g := fun i => if i < a then (if lb n c h i = i then 1 else 0) else 0) (fun i _ => ?_)) (zsum_cut (by omega))
  rw [Nat.testBit_mod_two_pow]
  by_cases g : i < a
  · rw [decide_eq_true g, H.LS_t (by omega), if_pos g]
    simp
  · rw [decide_eq_false g, if_neg g]
    simp
theorem NP.bc_all {n h : Nat} {c : tC} (H : NP n c h) : bc (tLs n c h) = rk n c h n := by
  rw [← H.bc_rk (Nat.le_refl n), Nat.mod_eq_of_lt H.LS_lt]
theorem NP.place {M : zM} {n h a : Nat} {c : tC} (H : NP n c h) (ha : a < n) : zf_Parts_place [.int (nI (tLs n c h)), .int (nI a)] M = some (some (nI (rk n c h a)), M) := by
  have h8 := H.1.1.2
  have s := nI_shl1 (v := a) (by omega)
  have hp : 1 ≤ 2 ^ a := Nat.two_pow_pos a
  have hl := H.LS_lt
  have hp8 := p8 h8
  have e1 : nI (tLs n c h) &&& nI (2 ^ a - 1) = nI (tLs n c h % 2 ^ a) := by rw [nI_and, Nat.and_two_pow_sub_one_eq_mod]
  have hm : tLs n c h % 2 ^ a < 256 := Nat.lt_of_le_of_lt (Nat.mod_le _ _) (by omega)
  have b := qI_bc (M := M) hm
  rw [H.bc_rk (by omega)] at b
  simp (disch := omega) [zf_Parts_place, zmeth, xm_en, zret, zretz, zretv, zseq, zst, zinc, zkl, zskip, zk, zi, za, zbin, zdiv, zrem, zgi, zgr, zld, zldr, zlen, zn, zc, zcall, zcallv, zrcv, zdo, zdov, zpf, zpfc, zas, zasc, zmin, zmax, zcmp, zcz, zand_e, zor_e, zite_e, zbite_e, zif_e, znot_e, z_add, z_sub, z_mul, z_and, z_or, z_xor, z_shl, z_shr, zcpy, -List.getElem?_cons_succ, zg_0, zg_1, zg_2, zg_3, zg_4, zg_5, zg_6, zg_7, zg_8, zg_9, s, nI_m1, e1, b]
theorem NP.least {M : zM} {k n h x : Nat} {c : tC} (H : NP n c h) (hk : ztb k) (hT : kT M k n c) (hx : x < n) : zf_Parts_leastBeside [.ref k, .int (nI x), .int (nI h)] M = some (some (nI (lb n c h x)), M) := by
  have h8 := H.1.1.2
  have hp8 := p8 h8
  have hh := H.2.2.1
  have fl := qP_fromLeft (s := h) hk hT h8 H.2.1 hx (by omega)
  have tl := tL_lt (s := h) H.2.1 hx
  have hb := H.lbP hx
  have R := zwh_find (c := zc_Parts_leastBeside_1) (s := zs_Parts_leastBeside_1) (fun j => [some (Value.ref (k)), some (Value.int (nI x)), some (Value.int (nI h)), some (Value.int (nI (tL n c x h))), some (Value.int (nI j))]) M (fun a => (tL n c x h).testBit a) (fun j => some (nI j)) (fun j => [some (Value.ref (k)), some (Value.int (nI x)), some (Value.int (nI h)), some (Value.int (nI (tL n c x h))), some (Value.int (nI j))]) (n := n) ?_ n 0 (by omega) ?_ ?_ ?_
  · have e : zidx (fun a => (tL n c x h).testBit a) 0 n = lb n c h x := rfl
    rw [e, if_pos (by omega)] at R
    simp (disch := omega) [zf_Parts_leastBeside, zmeth, xm_en, zret, zretz, zretv, zseq, zst, zinc, zkl, zskip, zk, zi, za, zbin, zdiv, zrem, zgi, zgr, zld, zldr, zlen, zn, zc, zcall, zcallv, zrcv, zdo, zdov, zpf, zpfc, zas, zasc, zmin, zmax, zcmp, zcz, zand_e, zor_e, zite_e, zbite_e, zif_e, znot_e, z_add, z_sub, z_mul, z_and, z_or, z_xor, z_shl, z_shr, zcpy, -List.getElem?_cons_succ, zg_0, zg_1, zg_2, zg_3, zg_4, zg_5, zg_6, zg_7, zg_8, zg_9, fl, R]
  · simp (disch := omega) [zc_Parts_leastBeside_1, zmeth, xm_en, zret, zretz, zretv, zseq, zst, zinc, zkl, zskip, zk, zi, za, zbin, zdiv, zrem, zgi, zgr, zld, zldr, zlen, zn, zc, zcall, zcallv, zrcv, zdo, zdov, zpf, zpfc, zas, zasc, zmin, zmax, zcmp, zcz, zand_e, zor_e, zite_e, zbite_e, zif_e, znot_e, z_add, z_sub, z_mul, z_and, z_or, z_xor, z_shl, z_shr, zcpy, -List.getElem?_cons_succ, zg_0, zg_1, zg_2, zg_3, zg_4, zg_5, zg_6, zg_7, zg_8, zg_9, zc_lt, zc_le, zc_gt, zc_ge, zc_eq, zc_ne, zc_lt0, zc_ge0, zc_gt0, zc_eq0, zc_ne0, zb_ne, zb_eq, zb_01, z_00, z_01, z_11, zb_f, zb_T, zb_F, zbm1, zbm2, zbm5, zbm6, zbm3, zbm4, nI_clamp, zmod_n, pk_div, nI_ne0, pk_mul, nI_add, nI_1, ztb_tag hk, hT.1]
  · intro j _ h2
    simp (disch := omega) [zc_Parts_leastBeside_1, zmeth, xm_en, zret, zretz, zretv, zseq, zst, zinc, zkl, zskip, zk, zi, za, zbin, zdiv, zrem, zgi, zgr, zld, zldr, zlen, zn, zc, zcall, zcallv, zrcv, zdo, zdov, zpf, zpfc, zas, zasc, zmin, zmax, zcmp, zcz, zand_e, zor_e, zite_e, zbite_e, zif_e, znot_e, z_add, z_sub, z_mul, z_and, z_or, z_xor, z_shl, z_shr, zcpy, -List.getElem?_cons_succ, zg_0, zg_1, zg_2, zg_3, zg_4, zg_5, zg_6, zg_7, zg_8, zg_9, zc_lt, zc_le, zc_gt, zc_ge, zc_eq, zc_ne, zc_lt0, zc_ge0, zc_gt0, zc_eq0, zc_ne0, zb_ne, zb_eq, zb_01, z_00, z_01, z_11, zb_f, zb_T, zb_F, zbm1, zbm2, zbm5, zbm6, zbm3, zbm4, nI_clamp, zmod_n, pk_div, nI_ne0, pk_mul, nI_add, nI_1, ztb_tag hk, hT.1, h2]
  · intro j _ h2 hq
    have g := qP_has (M := M) (s := tL n c x h) (a := j) (by omega) (by omega)
    rw [hq] at g
    simp (disch := omega) [zs_Parts_leastBeside_1, zmeth, xm_en, zret, zretz, zretv, zseq, zst, zinc, zkl, zskip, zk, zi, za, zbin, zdiv, zrem, zgi, zgr, zld, zldr, zlen, zn, zc, zcall, zcallv, zrcv, zdo, zdov, zpf, zpfc, zas, zasc, zmin, zmax, zcmp, zcz, zand_e, zor_e, zite_e, zbite_e, zif_e, znot_e, z_add, z_sub, z_mul, z_and, z_or, z_xor, z_shl, z_shr, zcpy, -List.getElem?_cons_succ, zg_0, zg_1, zg_2, zg_3, zg_4, zg_5, zg_6, zg_7, zg_8, zg_9, zc_lt, zc_le, zc_gt, zc_ge, zc_eq, zc_ne, zc_lt0, zc_ge0, zc_gt0, zc_eq0, zc_ne0, zb_ne, zb_eq, zb_01, z_00, z_01, z_11, zb_f, zb_T, zb_F, zbm1, zbm2, zbm5, zbm6, zbm3, zbm4, nI_clamp, zmod_n, pk_div, nI_ne0, pk_mul, nI_add, nI_1, g]
  · intro j _ h2 hq
    have g := qP_has (M := M) (s := tL n c x h) (a := j) (by omega) (by omega)
    rw [hq] at g
    simp (disch := omega) [zs_Parts_leastBeside_1, zmeth, xm_en, zret, zretz, zretv, zseq, zst, zinc, zkl, zskip, zk, zi, za, zbin, zdiv, zrem, zgi, zgr, zld, zldr, zlen, zn, zc, zcall, zcallv, zrcv, zdo, zdov, zpf, zpfc, zas, zasc, zmin, zmax, zcmp, zcz, zand_e, zor_e, zite_e, zbite_e, zif_e, znot_e, z_add, z_sub, z_mul, z_and, z_or, z_xor, z_shl, z_shr, zcpy, -List.getElem?_cons_succ, zg_0, zg_1, zg_2, zg_3, zg_4, zg_5, zg_6, zg_7, zg_8, zg_9, zc_lt, zc_le, zc_gt, zc_ge, zc_eq, zc_ne, zc_lt0, zc_ge0, zc_gt0, zc_eq0, zc_ne0, zb_ne, zb_eq, zb_01, z_00, z_01, z_11, zb_f, zb_T, zb_F, zbm1, zbm2, zbm5, zbm6, zbm3, zbm4, nI_clamp, zmod_n, pk_div, nI_ne0, pk_mul, nI_add, nI_1, g]
/-! the class builds it -/
theorem NP.bl1 {M : zM} {k n h : Nat} {c : tC} (H : NP n c h) (hk : ztb k) (hT : kT M k n c) : zwh zc_Parts_buildLeft_1 zs_Parts_buildLeft_1 [some (Value.ref (k)), some (Value.int (nI h)), some (Value.ref (10)), some (Value.int (nI 0)), some (Value.int (nI 0)), none, none] M = some (none, [some (Value.ref (k)), some (Value.int (nI h)), some (Value.ref (10)), some (Value.int (nI (tLs n c h))), some (Value.int (nI n)), none, none], M) := by
  have h8 := H.1.1.2
  refine zwh_up (c := zc_Parts_buildLeft_1) (s := zs_Parts_buildLeft_1) (fun j => [some (Value.ref (k)), some (Value.int (nI h)), some (Value.ref (10)), some (Value.int (nI (zim (lb n c h) (fun _ => true) j))), some (Value.int (nI j)), none, none]) (fun _ => M) (n := n) n 0 (by omega) ?_ ?_ ?_
  · intro j _ h2
    simp (disch := omega) [zc_Parts_buildLeft_1, zmeth, xm_en, zret, zretz, zretv, zseq, zst, zinc, zkl, zskip, zk, zi, za, zbin, zdiv, zrem, zgi, zgr, zld, zldr, zlen, zn, zc, zcall, zcallv, zrcv, zdo, zdov, zpf, zpfc, zas, zasc, zmin, zmax, zcmp, zcz, zand_e, zor_e, zite_e, zbite_e, zif_e, znot_e, z_add, z_sub, z_mul, z_and, z_or, z_xor, z_shl, z_shr, zcpy, -List.getElem?_cons_succ, zg_0, zg_1, zg_2, zg_3, zg_4, zg_5, zg_6, zg_7, zg_8, zg_9, zc_lt, zc_le, zc_gt, zc_ge, zc_eq, zc_ne, zc_lt0, zc_ge0, zc_gt0, zc_eq0, zc_ne0, zb_ne, zb_eq, zb_01, z_00, z_01, z_11, zb_f, zb_T, zb_F, zbm1, zbm2, zbm5, zbm6, zbm3, zbm4, nI_clamp, zmod_n, pk_div, nI_ne0, pk_mul, nI_add, nI_1, ztb_tag hk, hT.1, h2]
  · intro j _ h2
    have l := H.least (M := M) hk hT h2
    have b := (H.lbP h2).1
    have s := nI_shl1 (v := lb n c h j) (by omega)
    simp (disch := omega) [zs_Parts_buildLeft_1, zmeth, xm_en, zret, zretz, zretv, zseq, zst, zinc, zkl, zskip, zk, zi, za, zbin, zdiv, zrem, zgi, zgr, zld, zldr, zlen, zn, zc, zcall, zcallv, zrcv, zdo, zdov, zpf, zpfc, zas, zasc, zmin, zmax, zcmp, zcz, zand_e, zor_e, zite_e, zbite_e, zif_e, znot_e, z_add, z_sub, z_mul, z_and, z_or, z_xor, z_shl, z_shr, zcpy, -List.getElem?_cons_succ, zg_0, zg_1, zg_2, zg_3, zg_4, zg_5, zg_6, zg_7, zg_8, zg_9, zc_lt, zc_le, zc_gt, zc_ge, zc_eq, zc_ne, zc_lt0, zc_ge0, zc_gt0, zc_eq0, zc_ne0, zb_ne, zb_eq, zb_01, z_00, z_01, z_11, zb_f, zb_T, zb_F, zbm1, zbm2, zbm5, zbm6, zbm3, zbm4, nI_clamp, zmod_n, pk_div, nI_ne0, pk_mul, nI_add, nI_1, l, s, nI_or, zim_s]
  · simp (disch := omega) [zc_Parts_buildLeft_1, zmeth, xm_en, zret, zretz, zretv, zseq, zst, zinc, zkl, zskip, zk, zi, za, zbin, zdiv, zrem, zgi, zgr, zld, zldr, zlen, zn, zc, zcall, zcallv, zrcv, zdo, zdov, zpf, zpfc, zas, zasc, zmin, zmax, zcmp, zcz, zand_e, zor_e, zite_e, zbite_e, zif_e, znot_e, z_add, z_sub, z_mul, z_and, z_or, z_xor, z_shl, z_shr, zcpy, -List.getElem?_cons_succ, zg_0, zg_1, zg_2, zg_3, zg_4, zg_5, zg_6, zg_7, zg_8, zg_9, zc_lt, zc_le, zc_gt, zc_ge, zc_eq, zc_ne, zc_lt0, zc_ge0, zc_gt0, zc_eq0, zc_ne0, zb_ne, zb_eq, zb_01, z_00, z_01, z_11, zb_f, zb_T, zb_F, zbm1, zbm2, zbm5, zbm6, zbm3, zbm4, nI_clamp, zmod_n, pk_div, nI_ne0, pk_mul, nI_add, nI_1, ztb_tag hk, hT.1]
theorem NP.bl3 {M : zM} {k n h x : Nat} {c : tC} (H : NP n c h) (hk : ztb k) (hne : k ≠ 10) (hT : kT M k n c) (h10 : M 10 0 = nI (rk n c h n)) (hx : x < n) : zwh zc_Parts_buildLeft_3 zs_Parts_buildLeft_3 [some (Value.ref (k)), some (Value.int (nI h)), some (Value.ref (10)), some (Value.int (nI (tLs n c h))), some (Value.int (nI x)), some (Value.int (nI 0)), none] (zkf M 10 (rk n c h n) (tQ n c h) (rk n c h x) 0) = some (none, [some (Value.ref (k)), some (Value.int (nI h)), some (Value.ref (10)), some (Value.int (nI (tLs n c h))), some (Value.int (nI x)), some (Value.int (nI n)), none], zkf M 10 (rk n c h n) (tQ n c h) (rk n c h (x + 1)) 0) := by
  have h8 := H.1.1.2
  have hp8 := p8 h8
  have hl := H.LS_lt
  have r8 := H.tOP.1.2
  have hk' : ∀ a b, kT (zkf M 10 (rk n c h n) (tQ n c h) a b) k n c := fun a b => kT_kf hk tb10 hne hT
  by_cases ex : lb n c h x = x
  · have e0 : zkf M 10 (rk n c h n) (tQ n c h) (rk n c h (x + 1)) 0 = zkf M 10 (rk n c h n) (tQ n c h) (rk n c h x) (rk n c h n) := by rw [rk_s, if_pos ex, zkf_r]
    rw [e0]
    refine zwh_up (c := zc_Parts_buildLeft_3) (s := zs_Parts_buildLeft_3) (fun j => [some (Value.ref (k)), some (Value.int (nI h)), some (Value.ref (10)), some (Value.int (nI (tLs n c h))), some (Value.int (nI x)), some (Value.int (nI j)), none]) (fun j => zkf M 10 (rk n c h n) (tQ n c h) (rk n c h x) (rk n c h j)) (n := n) n 0 (by omega) ?_ ?_ ?_
    · intro j _ h2
      simp (disch := omega) [zc_Parts_buildLeft_3, zmeth, xm_en, zret, zretz, zretv, zseq, zst, zinc, zkl, zskip, zk, zi, za, zbin, zdiv, zrem, zgi, zgr, zld, zldr, zlen, zn, zc, zcall, zcallv, zrcv, zdo, zdov, zpf, zpfc, zas, zasc, zmin, zmax, zcmp, zcz, zand_e, zor_e, zite_e, zbite_e, zif_e, znot_e, z_add, z_sub, z_mul, z_and, z_or, z_xor, z_shl, z_shr, zcpy, -List.getElem?_cons_succ, zg_0, zg_1, zg_2, zg_3, zg_4, zg_5, zg_6, zg_7, zg_8, zg_9, zc_lt, zc_le, zc_gt, zc_ge, zc_eq, zc_ne, zc_lt0, zc_ge0, zc_gt0, zc_eq0, zc_ne0, zb_ne, zb_eq, zb_01, z_00, z_01, z_11, zb_f, zb_T, zb_F, zbm1, zbm2, zbm5, zbm6, zbm3, zbm4, nI_clamp, zmod_n, pk_div, nI_ne0, pk_mul, nI_add, nI_1, ztb_tag hk, (hk' _ _).1, h2]
    · intro j _ h2
      have g1 := qP_has (M := zkf M 10 (rk n c h n) (tQ n c h) (rk n c h x) (rk n c h j)) (s := tLs n c h) (a := x) (by omega) (by omega)
      have g2 := qP_has (M := zkf M 10 (rk n c h n) (tQ n c h) (rk n c h x) (rk n c h j)) (s := tLs n c h) (a := j) (by omega) (by omega)
      rw [H.LS_t hx, decide_eq_true ex] at g1
      rw [H.LS_t h2] at g2
      by_cases ej : lb n c h j = j
      · rw [decide_eq_true ej] at g2
        have hxy := H.2.1 x j hx h2
        have m := qT_mul hk (hk' (rk n c h x) (rk n c h j)) h8 H.2.1 hx h2
        have le := H.least hk (hk' (rk n c h x) (rk n c h j)) hxy
        have lbl := H.lbP hxy
        have p1 := H.place (M := zkf M 10 (rk n c h n) (tQ n c h) (rk n c h x) (rk n c h j)) hx
        have p2 := H.place (M := zkf M 10 (rk n c h n) (tQ n c h) (rk n c h x) (rk n c h j)) h2
        have p3 := H.place (M := zkf M 10 (rk n c h n) (tQ n c h) (rk n c h x) (rk n c h j)) (a := lb n c h (c x j)) (by omega)
        have rx := rk_lt (n := n) (c := c) (h := h) hx ex
        have rj := rk_lt (n := n) (c := c) (h := h) h2 ej
        have qe := H.q hx h2
        have nx : nm n c h x = rk n c h x := by unfold nm; rw [ex]
        have nj : nm n c h j = rk n c h j := by unfold nm; rw [ej]
        rw [nx, nj] at qe
        have qe2 : rk n c h (lb n c h (c x j)) = tQ n c h (rk n c h x) (rk n c h j) := qe
        have ql := H.tFP _ _ rx rj
        have e1 := zkf_s (M := M) (k := 10) (c := tQ n c h) r8 (show rk n c h x < 8 by omega) rj
        rw [zcl_lt (show tQ n c h (rk n c h x) (rk n c h j) < 8 by omega)] at e1
        have pt := qT_put (M := zkf M 10 (rk n c h n) (tQ n c h) (rk n c h x) (rk n c h j)) (v := nI (tQ n c h (rk n c h x) (rk n c h j))) tb10 (by rw [zkf_out (by omega)]; exact h10) r8 rx rj
        have es : rk n c h (j + 1) = rk n c h j + 1 := by rw [rk_s, if_pos ej]
        rw [qe2] at p3
        simp (disch := omega) [zs_Parts_buildLeft_3, zmeth, xm_en, zret, zretz, zretv, zseq, zst, zinc, zkl, zskip, zk, zi, za, zbin, zdiv, zrem, zgi, zgr, zld, zldr, zlen, zn, zc, zcall, zcallv, zrcv, zdo, zdov, zpf, zpfc, zas, zasc, zmin, zmax, zcmp, zcz, zand_e, zor_e, zite_e, zbite_e, zif_e, znot_e, z_add, z_sub, z_mul, z_and, z_or, z_xor, z_shl, z_shr, zcpy, -List.getElem?_cons_succ, zg_0, zg_1, zg_2, zg_3, zg_4, zg_5, zg_6, zg_7, zg_8, zg_9, zc_lt, zc_le, zc_gt, zc_ge, zc_eq, zc_ne, zc_lt0, zc_ge0, zc_gt0, zc_eq0, zc_ne0, zb_ne, zb_eq, zb_01, z_00, z_01, z_11, zb_f, zb_T, zb_F, zbm1, zbm2, zbm5, zbm6, zbm3, zbm4, nI_clamp, zmod_n, pk_div, nI_ne0, pk_mul, nI_add, nI_1, ztb_tag hk, ztb_tag tb10, g1, g2, m, le, p1, p2, p3, pt, e1, es]
      · rw [decide_eq_false ej] at g2
        have es : rk n c h (j + 1) = rk n c h j := by rw [rk_s, if_neg ej, Nat.add_zero]
        simp (disch := omega) [zs_Parts_buildLeft_3, zmeth, xm_en, zret, zretz, zretv, zseq, zst, zinc, zkl, zskip, zk, zi, za, zbin, zdiv, zrem, zgi, zgr, zld, zldr, zlen, zn, zc, zcall, zcallv, zrcv, zdo, zdov, zpf, zpfc, zas, zasc, zmin, zmax, zcmp, zcz, zand_e, zor_e, zite_e, zbite_e, zif_e, znot_e, z_add, z_sub, z_mul, z_and, z_or, z_xor, z_shl, z_shr, zcpy, -List.getElem?_cons_succ, zg_0, zg_1, zg_2, zg_3, zg_4, zg_5, zg_6, zg_7, zg_8, zg_9, zc_lt, zc_le, zc_gt, zc_ge, zc_eq, zc_ne, zc_lt0, zc_ge0, zc_gt0, zc_eq0, zc_ne0, zb_ne, zb_eq, zb_01, z_00, z_01, z_11, zb_f, zb_T, zb_F, zbm1, zbm2, zbm5, zbm6, zbm3, zbm4, nI_clamp, zmod_n, pk_div, nI_ne0, pk_mul, nI_add, nI_1, g1, g2, es]
    · simp (disch := omega) [zc_Parts_buildLeft_3, zmeth, xm_en, zret, zretz, zretv, zseq, zst, zinc, zkl, zskip, zk, zi, za, zbin, zdiv, zrem, zgi, zgr, zld, zldr, zlen, zn, zc, zcall, zcallv, zrcv, zdo, zdov, zpf, zpfc, zas, zasc, zmin, zmax, zcmp, zcz, zand_e, zor_e, zite_e, zbite_e, zif_e, znot_e, z_add, z_sub, z_mul, z_and, z_or, z_xor, z_shl, z_shr, zcpy, -List.getElem?_cons_succ, zg_0, zg_1, zg_2, zg_3, zg_4, zg_5, zg_6, zg_7, zg_8, zg_9, zc_lt, zc_le, zc_gt, zc_ge, zc_eq, zc_ne, zc_lt0, zc_ge0, zc_gt0, zc_eq0, zc_ne0, zb_ne, zb_eq, zb_01, z_00, z_01, z_11, zb_f, zb_T, zb_F, zbm1, zbm2, zbm5, zbm6, zbm3, zbm4, nI_clamp, zmod_n, pk_div, nI_ne0, pk_mul, nI_add, nI_1, ztb_tag hk, (hk' _ _).1]
  · have e0 : rk n c h (x + 1) = rk n c h x := by rw [rk_s, if_neg ex, Nat.add_zero]
    rw [e0]
    refine zwh_up (c := zc_Parts_buildLeft_3) (s := zs_Parts_buildLeft_3) (fun j => [some (Value.ref (k)), some (Value.int (nI h)), some (Value.ref (10)), some (Value.int (nI (tLs n c h))), some (Value.int (nI x)), some (Value.int (nI j)), none]) (fun j => zkf M 10 (rk n c h n) (tQ n c h) (rk n c h x) 0) (n := n) n 0 (by omega) ?_ ?_ ?_
    · intro j _ h2
      simp (disch := omega) [zc_Parts_buildLeft_3, zmeth, xm_en, zret, zretz, zretv, zseq, zst, zinc, zkl, zskip, zk, zi, za, zbin, zdiv, zrem, zgi, zgr, zld, zldr, zlen, zn, zc, zcall, zcallv, zrcv, zdo, zdov, zpf, zpfc, zas, zasc, zmin, zmax, zcmp, zcz, zand_e, zor_e, zite_e, zbite_e, zif_e, znot_e, z_add, z_sub, z_mul, z_and, z_or, z_xor, z_shl, z_shr, zcpy, -List.getElem?_cons_succ, zg_0, zg_1, zg_2, zg_3, zg_4, zg_5, zg_6, zg_7, zg_8, zg_9, zc_lt, zc_le, zc_gt, zc_ge, zc_eq, zc_ne, zc_lt0, zc_ge0, zc_gt0, zc_eq0, zc_ne0, zb_ne, zb_eq, zb_01, z_00, z_01, z_11, zb_f, zb_T, zb_F, zbm1, zbm2, zbm5, zbm6, zbm3, zbm4, nI_clamp, zmod_n, pk_div, nI_ne0, pk_mul, nI_add, nI_1, ztb_tag hk, (hk' _ _).1, h2]
    · intro j _ h2
      have g1 := qP_has (M := zkf M 10 (rk n c h n) (tQ n c h) (rk n c h x) 0) (s := tLs n c h) (a := x) (by omega) (by omega)
      rw [H.LS_t hx, decide_eq_false ex] at g1
      simp (disch := omega) [zs_Parts_buildLeft_3, zmeth, xm_en, zret, zretz, zretv, zseq, zst, zinc, zkl, zskip, zk, zi, za, zbin, zdiv, zrem, zgi, zgr, zld, zldr, zlen, zn, zc, zcall, zcallv, zrcv, zdo, zdov, zpf, zpfc, zas, zasc, zmin, zmax, zcmp, zcz, zand_e, zor_e, zite_e, zbite_e, zif_e, znot_e, z_add, z_sub, z_mul, z_and, z_or, z_xor, z_shl, z_shr, zcpy, -List.getElem?_cons_succ, zg_0, zg_1, zg_2, zg_3, zg_4, zg_5, zg_6, zg_7, zg_8, zg_9, zc_lt, zc_le, zc_gt, zc_ge, zc_eq, zc_ne, zc_lt0, zc_ge0, zc_gt0, zc_eq0, zc_ne0, zb_ne, zb_eq, zb_01, z_00, z_01, z_11, zb_f, zb_T, zb_F, zbm1, zbm2, zbm5, zbm6, zbm3, zbm4, nI_clamp, zmod_n, pk_div, nI_ne0, pk_mul, nI_add, nI_1, g1]
    · simp (disch := omega) [zc_Parts_buildLeft_3, zmeth, xm_en, zret, zretz, zretv, zseq, zst, zinc, zkl, zskip, zk, zi, za, zbin, zdiv, zrem, zgi, zgr, zld, zldr, zlen, zn, zc, zcall, zcallv, zrcv, zdo, zdov, zpf, zpfc, zas, zasc, zmin, zmax, zcmp, zcz, zand_e, zor_e, zite_e, zbite_e, zif_e, znot_e, z_add, z_sub, z_mul, z_and, z_or, z_xor, z_shl, z_shr, zcpy, -List.getElem?_cons_succ, zg_0, zg_1, zg_2, zg_3, zg_4, zg_5, zg_6, zg_7, zg_8, zg_9, zc_lt, zc_le, zc_gt, zc_ge, zc_eq, zc_ne, zc_lt0, zc_ge0, zc_gt0, zc_eq0, zc_ne0, zb_ne, zb_eq, zb_01, z_00, z_01, z_11, zb_f, zb_T, zb_F, zbm1, zbm2, zbm5, zbm6, zbm3, zbm4, nI_clamp, zmod_n, pk_div, nI_ne0, pk_mul, nI_add, nI_1, ztb_tag hk, (hk' _ _).1]
theorem NP.build {M : zM} {k n h : Nat} {c : tC} (H : NP n c h) (hk : ztb k) (hne : k ≠ 10) (hT : kT M k n c) : ∃ M', zf_Parts_buildLeft [.ref k, .int (nI h), .ref 10] M = some (none, M') ∧ kT M' 10 (rk n c h n) (tQ n c h) ∧ zsc M M' := by
  have h8 := H.1.1.2
  have hp8 := p8 h8
  have hl := H.LS_lt
  have r18 := H.tOP.1
  have b := qI_bc (M := M) (v := tLs n c h) (by omega)
  rw [H.bc_all] at b
  have hT2 := kT_rs (m := rk n c h n) (i := rk n c h n) hk tb10 hne hT
  have h10 : zrs M 10 (rk n c h n) (rk n c h n) 10 0 = nI (rk n c h n) := by simp [zrs]
  have hk' : ∀ a b, kT (zkf (zrs M 10 (rk n c h n) (rk n c h n)) 10 (rk n c h n) (tQ n c h) a b) k n c := fun a b => kT_kf hk tb10 hne hT2
  have R := zwh_up (c := zc_Parts_buildLeft_2) (s := zs_Parts_buildLeft_2) (fun j => [some (Value.ref (k)), some (Value.int (nI h)), some (Value.ref (10)), some (Value.int (nI (tLs n c h))), some (Value.int (nI j)), none, none]) (fun j => zkf (zrs M 10 (rk n c h n) (rk n c h n)) 10 (rk n c h n) (tQ n c h) (rk n c h j) 0) (n := n) n 0 (by omega) ?_ ?_ ?_
  · have e0 : rk n c h 0 = 0 := rfl
    rw [e0, zkf_0] at R
    refine ⟨zkf (zrs M 10 (rk n c h n) (rk n c h n)) 10 (rk n c h n) (tQ n c h) (rk n c h n) 0, ?_, zkf_kT r18.2 h10, ?_⟩
    · simp (disch := omega) [zf_Parts_buildLeft, zmeth, xm_en, zret, zretz, zretv, zseq, zst, zinc, zkl, zskip, zk, zi, za, zbin, zdiv, zrem, zgi, zgr, zld, zldr, zlen, zn, zc, zcall, zcallv, zrcv, zdo, zdov, zpf, zpfc, zas, zasc, zmin, zmax, zcmp, zcz, zand_e, zor_e, zite_e, zbite_e, zif_e, znot_e, z_add, z_sub, z_mul, z_and, z_or, z_xor, z_shl, z_shr, zcpy, -List.getElem?_cons_succ, zg_0, zg_1, zg_2, zg_3, zg_4, zg_5, zg_6, zg_7, zg_8, zg_9, zc_lt, zc_le, zc_gt, zc_ge, zc_eq, zc_ne, zc_lt0, zc_ge0, zc_gt0, zc_eq0, zc_ne0, zb_ne, zb_eq, zb_01, z_00, z_01, z_11, zb_f, zb_T, zb_F, zbm1, zbm2, zbm5, zbm6, zbm3, zbm4, nI_clamp, zmod_n, pk_div, nI_ne0, pk_mul, nI_add, nI_1, ztb_tag tb10, H.bl1 hk hT, b, qT_restart tb10 r18.1 r18.2, R]
    · intro q j hq
      rw [zkf_out (by omega)]
      unfold zrs
      rw [if_neg (by omega), if_neg (by omega)]
  · intro j _ h2
    simp (disch := omega) [zc_Parts_buildLeft_2, zmeth, xm_en, zret, zretz, zretv, zseq, zst, zinc, zkl, zskip, zk, zi, za, zbin, zdiv, zrem, zgi, zgr, zld, zldr, zlen, zn, zc, zcall, zcallv, zrcv, zdo, zdov, zpf, zpfc, zas, zasc, zmin, zmax, zcmp, zcz, zand_e, zor_e, zite_e, zbite_e, zif_e, znot_e, z_add, z_sub, z_mul, z_and, z_or, z_xor, z_shl, z_shr, zcpy, -List.getElem?_cons_succ, zg_0, zg_1, zg_2, zg_3, zg_4, zg_5, zg_6, zg_7, zg_8, zg_9, zc_lt, zc_le, zc_gt, zc_ge, zc_eq, zc_ne, zc_lt0, zc_ge0, zc_gt0, zc_eq0, zc_ne0, zb_ne, zb_eq, zb_01, z_00, z_01, z_11, zb_f, zb_T, zb_F, zbm1, zbm2, zbm5, zbm6, zbm3, zbm4, nI_clamp, zmod_n, pk_div, nI_ne0, pk_mul, nI_add, nI_1, ztb_tag hk, (hk' _ _).1, h2]
  · intro j _ h2
    have g := H.bl3 hk hne hT2 h10 h2
    simp (disch := omega) [zs_Parts_buildLeft_2, zmeth, xm_en, zret, zretz, zretv, zseq, zst, zinc, zkl, zskip, zk, zi, za, zbin, zdiv, zrem, zgi, zgr, zld, zldr, zlen, zn, zc, zcall, zcallv, zrcv, zdo, zdov, zpf, zpfc, zas, zasc, zmin, zmax, zcmp, zcz, zand_e, zor_e, zite_e, zbite_e, zif_e, znot_e, z_add, z_sub, z_mul, z_and, z_or, z_xor, z_shl, z_shr, zcpy, -List.getElem?_cons_succ, zg_0, zg_1, zg_2, zg_3, zg_4, zg_5, zg_6, zg_7, zg_8, zg_9, zc_lt, zc_le, zc_gt, zc_ge, zc_eq, zc_ne, zc_lt0, zc_ge0, zc_gt0, zc_eq0, zc_ne0, zb_ne, zb_eq, zb_01, z_00, z_01, z_11, zb_f, zb_T, zb_F, zbm1, zbm2, zbm5, zbm6, zbm3, zbm4, nI_clamp, zmod_n, pk_div, nI_ne0, pk_mul, nI_add, nI_1, g]
  · simp (disch := omega) [zc_Parts_buildLeft_2, zmeth, xm_en, zret, zretz, zretv, zseq, zst, zinc, zkl, zskip, zk, zi, za, zbin, zdiv, zrem, zgi, zgr, zld, zldr, zlen, zn, zc, zcall, zcallv, zrcv, zdo, zdov, zpf, zpfc, zas, zasc, zmin, zmax, zcmp, zcz, zand_e, zor_e, zite_e, zbite_e, zif_e, znot_e, z_add, z_sub, z_mul, z_and, z_or, z_xor, z_shl, z_shr, zcpy, -List.getElem?_cons_succ, zg_0, zg_1, zg_2, zg_3, zg_4, zg_5, zg_6, zg_7, zg_8, zg_9, zc_lt, zc_le, zc_gt, zc_ge, zc_eq, zc_ne, zc_lt0, zc_ge0, zc_gt0, zc_eq0, zc_ne0, zb_ne, zb_eq, zb_01, z_00, z_01, z_11, zb_f, zb_T, zb_F, zbm1, zbm2, zbm5, zbm6, zbm3, zbm4, nI_clamp, zmod_n, pk_div, nI_ne0, pk_mul, nI_add, nI_1, ztb_tag hk, (hk' _ _).1]
/-! left: the class's call, the reference -/
def okL (T : tS) (x y z : Int32) : Bool := zlt x 4 && (okP T y z && tNm (T y.toNatClampNeg).1 (T y.toNatClampNeg).2 z.toNatClampNeg)
def sL (T : tS) (x y z : Int32) : tS := bif okL T x y z then tset T x.toNatClampNeg (rk (T y.toNatClampNeg).1 (T y.toNatClampNeg).2 z.toNatClampNeg (T y.toNatClampNeg).1) (tQ (T y.toNatClampNeg).1 (T y.toNatClampNeg).2 z.toNatClampNeg) else T
def aL (T : tS) (x y z : Int32) : Int32 := bif zlt x 4 && zlt y 4 then (bif okP T y z then (bif okL T x y z then nI (rk (T y.toNatClampNeg).1 (T y.toNatClampNeg).2 z.toNatClampNeg (T y.toNatClampNeg).1) else -2) else aFault (T y.toNatClampNeg).1 (T y.toNatClampNeg).2 z) else -1
theorem qL_left {T : tS} {M : zM} (x y z : Int32) (hC : CS T M) (hT : TO T) : ∃ M', zf_L_left [.ref 0, .int x, .int y, .int z] M = some (some (aL T x y z), M') ∧ CS (sL T x y z) M' ∧ zhi M M' := by
  rcases z3 x (n := 4) (by decide) with h | ⟨s, hs, rfl⟩
  · refine ⟨M, ?_, by simpa [sL, okL, h] using hC, zhi.refl M⟩
    simp [zf_L_left, zmeth, xm_en, zret, zretz, zretv, zseq, zst, zinc, zkl, zskip, zk, zi, za, zbin, zdiv, zrem, zgi, zgr, zld, zldr, zlen, zn, zc, zcall, zcallv, zrcv, zdo, zdov, zpf, zpfc, zas, zasc, zmin, zmax, zcmp, zcz, zand_e, zor_e, zite_e, zbite_e, zif_e, znot_e, z_add, z_sub, z_mul, z_and, z_or, z_xor, z_shl, z_shr, zcpy, -List.getElem?_cons_succ, zg_0, zg_1, zg_2, zg_3, zg_4, zg_5, zg_6, zg_7, zg_8, zg_9, qL_isTable, zb_ne, h, aL]
  · have e := zlt_y hs (by decide)
    rcases z3 y (n := 4) (by decide) with h | ⟨t, ht, rfl⟩
    · refine ⟨M, ?_, by simpa [sL, okL, okP, h] using hC, zhi.refl M⟩
      simp [zf_L_left, zmeth, xm_en, zret, zretz, zretv, zseq, zst, zinc, zkl, zskip, zk, zi, za, zbin, zdiv, zrem, zgi, zgr, zld, zldr, zlen, zn, zc, zcall, zcallv, zrcv, zdo, zdov, zpf, zpfc, zas, zasc, zmin, zmax, zcmp, zcz, zand_e, zor_e, zite_e, zbite_e, zif_e, znot_e, z_add, z_sub, z_mul, z_and, z_or, z_xor, z_shl, z_shr, zcpy, -List.getElem?_cons_succ, zg_0, zg_1, zg_2, zg_3, zg_4, zg_5, zg_6, zg_7, zg_8, zg_9, qL_isTable, zb_ne, e, h, aL]
    · have e2 := zlt_y ht (by decide)
      have ct : (nI t).toNatClampNeg = t := nI_clamp (by omega)
      have cs : (nI s).toNatClampNeg = s := nI_clamp (by omega)
      have h8 := (hT t ht).1.2
      have hp := p31 h8
      have fa := qL_fault (x := z) hC hT ht
      have f0 := aFault_0 (n := (T t).1) (c := (T t).2) (y := z)
      cases hk : zlt z (2 ^ (T t).1) && (tB (T t).1 (T t).2 && isP (T t).1 (T t).2 z.toNatClampNeg) with
      | false =>
        rw [hk] at f0
        have hok : okP T (nI t) z = false := by unfold okP; rw [ct, hk, Bool.and_false]
        refine ⟨M, ?_, by simpa [sL, okL, hok] using hC, zhi.refl M⟩
        simp (disch := omega) [zf_L_left, zmeth, xm_en, zret, zretz, zretv, zseq, zst, zinc, zkl, zskip, zk, zi, za, zbin, zdiv, zrem, zgi, zgr, zld, zldr, zlen, zn, zc, zcall, zcallv, zrcv, zdo, zdov, zpf, zpfc, zas, zasc, zmin, zmax, zcmp, zcz, zand_e, zor_e, zite_e, zbite_e, zif_e, znot_e, z_add, z_sub, z_mul, z_and, z_or, z_xor, z_shl, z_shr, zcpy, -List.getElem?_cons_succ, zg_0, zg_1, zg_2, zg_3, zg_4, zg_5, zg_6, zg_7, zg_8, zg_9, zt_0, zt_12, zt_20, zt_26, zt_32, zf_0_0, zf_0_1, zf_0_2, zf_0_3, zf_0_4, zf_12_0, zf_12_1, zf_12_2, zf_12_4, zf_12_5, zf_20_1, zf_20_2, zf_20_3, zf_20_4, zf_20_6, zf_26_0, zf_26_1, zf_26_2, zf_26_3, zf_32_0, zf_32_1, zf_32_3, zf_32_4, zf_32_5, zf_32_6, qL_isTable, zb_ne, e, e2, aL, hok, ct, fa, f0]
      | true =>
        rw [hk] at f0
        have hok : okP T (nI t) z = true := by unfold okP; rw [ct, hk, e2]; rfl
        simp only [Bool.and_eq_true] at hk
        obtain ⟨v, hv, rfl⟩ := zlt_t hp hk.1
        have cv : (nI v).toNatClampNeg = v := nI_clamp (by omega)
        rw [cv] at hk
        have hf := (tB_iff (hT t ht)).mp hk.2.1
        have nn := qP_isNormal (tb4 ht) (hC t ht) h8 hf (show v < 2 ^ 31 by omega)
        cases hn : tNm (T t).1 (T t).2 v with
        | false =>
          rw [hn] at nn
          have hokl : okL T (nI s) (nI t) (nI v) = false := by simp [okL, ct, cv, hn]
          refine ⟨M, ?_, by simpa [sL, hokl] using hC, zhi.refl M⟩
          simp (disch := omega) [zf_L_left, zmeth, xm_en, zret, zretz, zretv, zseq, zst, zinc, zkl, zskip, zk, zi, za, zbin, zdiv, zrem, zgi, zgr, zld, zldr, zlen, zn, zc, zcall, zcallv, zrcv, zdo, zdov, zpf, zpfc, zas, zasc, zmin, zmax, zcmp, zcz, zand_e, zor_e, zite_e, zbite_e, zif_e, znot_e, z_add, z_sub, z_mul, z_and, z_or, z_xor, z_shl, z_shr, zcpy, -List.getElem?_cons_succ, zg_0, zg_1, zg_2, zg_3, zg_4, zg_5, zg_6, zg_7, zg_8, zg_9, zt_0, zt_12, zt_20, zt_26, zt_32, zf_0_0, zf_0_1, zf_0_2, zf_0_3, zf_0_4, zf_12_0, zf_12_1, zf_12_2, zf_12_4, zf_12_5, zf_20_1, zf_20_2, zf_20_3, zf_20_4, zf_20_6, zf_26_0, zf_26_1, zf_26_2, zf_26_3, zf_32_0, zf_32_1, zf_32_3, zf_32_4, zf_32_5, zf_32_6, qL_isTable, zb_ne, e, e2, aL, hok, hokl, ct, fa, f0, zi_1, zf_1, nI_clamp, nn]
        | true =>
          rw [hn] at nn
          have hokl : okL T (nI s) (nI t) (nI v) = true := by simp [okL, ct, cv, hn, e, hok]
          have H : NP (T t).1 (T t).2 v := ⟨hT t ht, hf, hv, hk.2.2, hn⟩
          obtain ⟨M1, g1, g2, g3⟩ := H.build (tb4 ht) (by omega) (hC t ht)
          refine ⟨zto M1 (2 + 2 * s) 10, ?_, ?_, zhi.trans g3.hi (zhi_to hs)⟩
          · simp (disch := omega) [zf_L_left, zmeth, xm_en, zret, zretz, zretv, zseq, zst, zinc, zkl, zskip, zk, zi, za, zbin, zdiv, zrem, zgi, zgr, zld, zldr, zlen, zn, zc, zcall, zcallv, zrcv, zdo, zdov, zpf, zpfc, zas, zasc, zmin, zmax, zcmp, zcz, zand_e, zor_e, zite_e, zbite_e, zif_e, znot_e, z_add, z_sub, z_mul, z_and, z_or, z_xor, z_shl, z_shr, zcpy, -List.getElem?_cons_succ, zg_0, zg_1, zg_2, zg_3, zg_4, zg_5, zg_6, zg_7, zg_8, zg_9, zt_0, zt_12, zt_20, zt_26, zt_32, zf_0_0, zf_0_1, zf_0_2, zf_0_3, zf_0_4, zf_12_0, zf_12_1, zf_12_2, zf_12_4, zf_12_5, zf_20_1, zf_20_2, zf_20_3, zf_20_4, zf_20_6, zf_26_0, zf_26_1, zf_26_2, zf_26_3, zf_32_0, zf_32_1, zf_32_3, zf_32_4, zf_32_5, zf_32_6, qL_isTable, zb_ne, e, e2, aL, hok, hokl, ct, cv, fa, f0, zi_1, zf_1, nI_clamp, nn, g1, qL_keepBuilt hs g2]
          · simp only [sL, hokl, cond_true, ct, cs, cv]
            exact CS_to hs tb10 H.tOP.1.2 (hC.sc g3) g2
theorem qM_lowest {M : zM} {s n : Nat} (h8 : n ≤ 8) (hs : s < 2 ^ 31) (hx : zidx (fun a => s.testBit a) 0 n < n) : zf_M_lowest [.int (nI s)] M = some (some (nI (zidx (fun a => s.testBit a) 0 n)), M) := by
  have R := zwh_up (c := zc_M_lowest_1) (s := zs_M_lowest_1) (fun j => [some (Value.int (nI s)), some (Value.int (nI j))]) (fun _ => M) (n := zidx (fun a => s.testBit a) 0 n) (zidx (fun a => s.testBit a) 0 n) 0 (by omega) ?_ ?_ ?_
  · simp (disch := omega) [zf_M_lowest, zmeth, xm_en, zret, zretz, zretv, zseq, zst, zinc, zkl, zskip, zk, zi, za, zbin, zdiv, zrem, zgi, zgr, zld, zldr, zlen, zn, zc, zcall, zcallv, zrcv, zdo, zdov, zpf, zpfc, zas, zasc, zmin, zmax, zcmp, zcz, zand_e, zor_e, zite_e, zbite_e, zif_e, znot_e, z_add, z_sub, z_mul, z_and, z_or, z_xor, z_shl, z_shr, zcpy, -List.getElem?_cons_succ, zg_0, zg_1, zg_2, zg_3, zg_4, zg_5, zg_6, zg_7, zg_8, zg_9, R]
  · intro j _ h2
    have g := qM_has (M := M) (s := s) (a := j) hs (by omega)
    rw [zidx_no (p := fun a => s.testBit a) n 0 j (by omega) h2] at g
    simp (disch := omega) [zc_M_lowest_1, zmeth, xm_en, zret, zretz, zretv, zseq, zst, zinc, zkl, zskip, zk, zi, za, zbin, zdiv, zrem, zgi, zgr, zld, zldr, zlen, zn, zc, zcall, zcallv, zrcv, zdo, zdov, zpf, zpfc, zas, zasc, zmin, zmax, zcmp, zcz, zand_e, zor_e, zite_e, zbite_e, zif_e, znot_e, z_add, z_sub, z_mul, z_and, z_or, z_xor, z_shl, z_shr, zcpy, -List.getElem?_cons_succ, zg_0, zg_1, zg_2, zg_3, zg_4, zg_5, zg_6, zg_7, zg_8, zg_9, zc_lt, zc_le, zc_gt, zc_ge, zc_eq, zc_ne, zc_lt0, zc_ge0, zc_gt0, zc_eq0, zc_ne0, zb_ne, zb_eq, zb_01, z_00, z_01, z_11, zb_f, zb_T, zb_F, zbm1, zbm2, zbm5, zbm6, zbm3, zbm4, nI_clamp, zmod_n, pk_div, nI_ne0, pk_mul, nI_add, nI_1, g]
  · intro j _ h2
    simp (disch := omega) [zs_M_lowest_1, zmeth, xm_en, zret, zretz, zretv, zseq, zst, zinc, zkl, zskip, zk, zi, za, zbin, zdiv, zrem, zgi, zgr, zld, zldr, zlen, zn, zc, zcall, zcallv, zrcv, zdo, zdov, zpf, zpfc, zas, zasc, zmin, zmax, zcmp, zcz, zand_e, zor_e, zite_e, zbite_e, zif_e, znot_e, z_add, z_sub, z_mul, z_and, z_or, z_xor, z_shl, z_shr, zcpy, -List.getElem?_cons_succ, zg_0, zg_1, zg_2, zg_3, zg_4, zg_5, zg_6, zg_7, zg_8, zg_9, zc_lt, zc_le, zc_gt, zc_ge, zc_eq, zc_ne, zc_lt0, zc_ge0, zc_gt0, zc_eq0, zc_ne0, zb_ne, zb_eq, zb_01, z_00, z_01, z_11, zb_f, zb_T, zb_F, zbm1, zbm2, zbm5, zbm6, zbm3, zbm4, nI_clamp, zmod_n, pk_div, nI_ne0, pk_mul, nI_add, nI_1]
  · have g := qM_has (M := M) (s := s) (a := zidx (fun a => s.testBit a) 0 n) hs (by omega)
    rw [zidx_lt (p := fun a => s.testBit a) n 0 (by omega)] at g
    simp (disch := omega) [zc_M_lowest_1, zmeth, xm_en, zret, zretz, zretv, zseq, zst, zinc, zkl, zskip, zk, zi, za, zbin, zdiv, zrem, zgi, zgr, zld, zldr, zlen, zn, zc, zcall, zcallv, zrcv, zdo, zdov, zpf, zpfc, zas, zasc, zmin, zmax, zcmp, zcz, zand_e, zor_e, zite_e, zbite_e, zif_e, znot_e, z_add, z_sub, z_mul, z_and, z_or, z_xor, z_shl, z_shr, zcpy, -List.getElem?_cons_succ, zg_0, zg_1, zg_2, zg_3, zg_4, zg_5, zg_6, zg_7, zg_8, zg_9, zc_lt, zc_le, zc_gt, zc_ge, zc_eq, zc_ne, zc_lt0, zc_ge0, zc_gt0, zc_eq0, zc_ne0, zb_ne, zb_eq, zb_01, z_00, z_01, z_11, zb_f, zb_T, zb_F, zbm1, zbm2, zbm5, zbm6, zbm3, zbm4, nI_clamp, zmod_n, pk_div, nI_ne0, pk_mul, nI_add, nI_1, g]
theorem NP.low {M : zM} {t n h x : Nat} {c : tC} (H : NP n c h) (ht : t < 6) (hT : rT M t n c) (hx : x < n) : zf_M_lowest [.int (nI (tL n c x h))] M = some (some (nI (lb n c h x)), M) := by
  have tl := tL_lt (s := h) H.2.1 hx
  have hp := p8 H.1.1.2
  have b := H.lbP hx
  exact qM_lowest (n := n) H.1.1.2 (by omega) (show lb n c h x < n by omega)
theorem NP.named {M : zM} {t n h x : Nat} {c : tC} (H : NP n c h) (ht : t < 6) (hT : rT M t n c) (hx : x < n) : zf_M_named [.ref 32, .int (nI t), .int (nI h), .int (nI x)] M = some (some (nI (nm n c h x)), M) := by
  have h8 := H.1.1.2
  have hp := p8 h8
  have hh := H.2.2.1
  have b := H.lbP hx
  have tl := qM_timesL (s := h) ht hT h8 H.2.1 hx (by omega)
  have lo := H.low (M := M) ht hT hx
  have R := zwh_up (c := zc_M_named_1) (s := zs_M_named_1) (fun j => [some (Value.ref (32)), some (Value.int (nI t)), some (Value.int (nI h)), some (Value.int (nI x)), some (Value.int (nI (lb n c h x))), some (Value.int (nI (rk n c h j))), some (Value.int (nI j))]) (fun _ => M) (n := lb n c h x) (lb n c h x) 0 (by omega) ?_ ?_ ?_
  · have e0 : rk n c h 0 = 0 := rfl
    rw [e0] at R
    simp (disch := omega) [zf_M_named, zmeth, xm_en, zret, zretz, zretv, zseq, zst, zinc, zkl, zskip, zk, zi, za, zbin, zdiv, zrem, zgi, zgr, zld, zldr, zlen, zn, zc, zcall, zcallv, zrcv, zdo, zdov, zpf, zpfc, zas, zasc, zmin, zmax, zcmp, zcz, zand_e, zor_e, zite_e, zbite_e, zif_e, znot_e, z_add, z_sub, z_mul, z_and, z_or, z_xor, z_shl, z_shr, zcpy, -List.getElem?_cons_succ, zg_0, zg_1, zg_2, zg_3, zg_4, zg_5, zg_6, zg_7, zg_8, zg_9, zt_0, zt_12, zt_20, zt_26, zt_32, zf_0_0, zf_0_1, zf_0_2, zf_0_3, zf_0_4, zf_12_0, zf_12_1, zf_12_2, zf_12_4, zf_12_5, zf_20_1, zf_20_2, zf_20_3, zf_20_4, zf_20_6, zf_26_0, zf_26_1, zf_26_2, zf_26_3, zf_32_0, zf_32_1, zf_32_3, zf_32_4, zf_32_5, zf_32_6, tl, lo, R, nm]
  · intro j _ h2
    simp (disch := omega) [zc_M_named_1, zmeth, xm_en, zret, zretz, zretv, zseq, zst, zinc, zkl, zskip, zk, zi, za, zbin, zdiv, zrem, zgi, zgr, zld, zldr, zlen, zn, zc, zcall, zcallv, zrcv, zdo, zdov, zpf, zpfc, zas, zasc, zmin, zmax, zcmp, zcz, zand_e, zor_e, zite_e, zbite_e, zif_e, znot_e, z_add, z_sub, z_mul, z_and, z_or, z_xor, z_shl, z_shr, zcpy, -List.getElem?_cons_succ, zg_0, zg_1, zg_2, zg_3, zg_4, zg_5, zg_6, zg_7, zg_8, zg_9, zc_lt, zc_le, zc_gt, zc_ge, zc_eq, zc_ne, zc_lt0, zc_ge0, zc_gt0, zc_eq0, zc_ne0, zb_ne, zb_eq, zb_01, z_00, z_01, z_11, zb_f, zb_T, zb_F, zbm1, zbm2, zbm5, zbm6, zbm3, zbm4, nI_clamp, zmod_n, pk_div, nI_ne0, pk_mul, nI_add, nI_1, h2]
  · intro j _ h2
    have tl2 := qM_timesL (s := h) (x := j) ht hT h8 H.2.1 (by omega) (by omega)
    have lo2 := H.low (M := M) (x := j) ht hT (by omega)
    have b2 := H.lbP (x := j) (by omega)
    by_cases ej : lb n c h j = j
    · have es : rk n c h (j + 1) = rk n c h j + 1 := by rw [rk_s, if_pos ej]
      rw [ej] at lo2
      simp (disch := omega) [zs_M_named_1, zmeth, xm_en, zret, zretz, zretv, zseq, zst, zinc, zkl, zskip, zk, zi, za, zbin, zdiv, zrem, zgi, zgr, zld, zldr, zlen, zn, zc, zcall, zcallv, zrcv, zdo, zdov, zpf, zpfc, zas, zasc, zmin, zmax, zcmp, zcz, zand_e, zor_e, zite_e, zbite_e, zif_e, znot_e, z_add, z_sub, z_mul, z_and, z_or, z_xor, z_shl, z_shr, zcpy, -List.getElem?_cons_succ, zg_0, zg_1, zg_2, zg_3, zg_4, zg_5, zg_6, zg_7, zg_8, zg_9, zc_lt, zc_le, zc_gt, zc_ge, zc_eq, zc_ne, zc_lt0, zc_ge0, zc_gt0, zc_eq0, zc_ne0, zb_ne, zb_eq, zb_01, z_00, z_01, z_11, zb_f, zb_T, zb_F, zbm1, zbm2, zbm5, zbm6, zbm3, zbm4, nI_clamp, zmod_n, pk_div, nI_ne0, pk_mul, nI_add, nI_1, zt_0, zt_12, zt_20, zt_26, zt_32, zf_0_0, zf_0_1, zf_0_2, zf_0_3, zf_0_4, zf_12_0, zf_12_1, zf_12_2, zf_12_4, zf_12_5, zf_20_1, zf_20_2, zf_20_3, zf_20_4, zf_20_6, zf_26_0, zf_26_1, zf_26_2, zf_26_3, zf_32_0, zf_32_1, zf_32_3, zf_32_4, zf_32_5, zf_32_6, tl2, lo2, es]
    · have es : rk n c h (j + 1) = rk n c h j := by rw [rk_s, if_neg ej, Nat.add_zero]
      simp (disch := omega) [zs_M_named_1, zmeth, xm_en, zret, zretz, zretv, zseq, zst, zinc, zkl, zskip, zk, zi, za, zbin, zdiv, zrem, zgi, zgr, zld, zldr, zlen, zn, zc, zcall, zcallv, zrcv, zdo, zdov, zpf, zpfc, zas, zasc, zmin, zmax, zcmp, zcz, zand_e, zor_e, zite_e, zbite_e, zif_e, znot_e, z_add, z_sub, z_mul, z_and, z_or, z_xor, z_shl, z_shr, zcpy, -List.getElem?_cons_succ, zg_0, zg_1, zg_2, zg_3, zg_4, zg_5, zg_6, zg_7, zg_8, zg_9, zc_lt, zc_le, zc_gt, zc_ge, zc_eq, zc_ne, zc_lt0, zc_ge0, zc_gt0, zc_eq0, zc_ne0, zb_ne, zb_eq, zb_01, z_00, z_01, z_11, zb_f, zb_T, zb_F, zbm1, zbm2, zbm5, zbm6, zbm3, zbm4, nI_clamp, zmod_n, pk_div, nI_ne0, pk_mul, nI_add, nI_1, zt_0, zt_12, zt_20, zt_26, zt_32, zf_0_0, zf_0_1, zf_0_2, zf_0_3, zf_0_4, zf_12_0, zf_12_1, zf_12_2, zf_12_4, zf_12_5, zf_20_1, zf_20_2, zf_20_3, zf_20_4, zf_20_6, zf_26_0, zf_26_1, zf_26_2, zf_26_3, zf_32_0, zf_32_1, zf_32_3, zf_32_4, zf_32_5, zf_32_6, tl2, lo2, es, ej]
  · simp (disch := omega) [zc_M_named_1, zmeth, xm_en, zret, zretz, zretv, zseq, zst, zinc, zkl, zskip, zk, zi, za, zbin, zdiv, zrem, zgi, zgr, zld, zldr, zlen, zn, zc, zcall, zcallv, zrcv, zdo, zdov, zpf, zpfc, zas, zasc, zmin, zmax, zcmp, zcz, zand_e, zor_e, zite_e, zbite_e, zif_e, znot_e, z_add, z_sub, z_mul, z_and, z_or, z_xor, z_shl, z_shr, zcpy, -List.getElem?_cons_succ, zg_0, zg_1, zg_2, zg_3, zg_4, zg_5, zg_6, zg_7, zg_8, zg_9, zc_lt, zc_le, zc_gt, zc_ge, zc_eq, zc_ne, zc_lt0, zc_ge0, zc_gt0, zc_eq0, zc_ne0, zb_ne, zb_eq, zb_01, z_00, z_01, z_11, zb_f, zb_T, zb_F, zbm1, zbm2, zbm5, zbm6, zbm3, zbm4, nI_clamp, zmod_n, pk_div, nI_ne0, pk_mul, nI_add, nI_1]
theorem NP.cnt {M : zM} {s t n h : Nat} {c : tC} (H : NP n c h) (ht : t < 6) (hT : rT M t n c) : zwh zc_M_left_1 zs_M_left_1 [some (Value.ref (32)), some (Value.int (nI s)), some (Value.int (nI t)), some (Value.int (nI h)), some (Value.int (nI 0)), some (Value.int (nI 0)), none] M = some (none, [some (Value.ref (32)), some (Value.int (nI s)), some (Value.int (nI t)), some (Value.int (nI h)), some (Value.int (nI (rk n c h n))), some (Value.int (nI n)), none], M) := by
  have h8 := H.1.1.2
  have R := zwh_up (c := zc_M_left_1) (s := zs_M_left_1) (fun j => [some (Value.ref (32)), some (Value.int (nI s)), some (Value.int (nI t)), some (Value.int (nI h)), some (Value.int (nI (rk n c h j))), some (Value.int (nI j)), none]) (fun _ => M) (n := n) n 0 (by omega) ?_ ?_ ?_
  · exact R
  · intro j _ h2
    simp (disch := omega) [zc_M_left_1, zmeth, xm_en, zret, zretz, zretv, zseq, zst, zinc, zkl, zskip, zk, zi, za, zbin, zdiv, zrem, zgi, zgr, zld, zldr, zlen, zn, zc, zcall, zcallv, zrcv, zdo, zdov, zpf, zpfc, zas, zasc, zmin, zmax, zcmp, zcz, zand_e, zor_e, zite_e, zbite_e, zif_e, znot_e, z_add, z_sub, z_mul, z_and, z_or, z_xor, z_shl, z_shr, zcpy, -List.getElem?_cons_succ, zg_0, zg_1, zg_2, zg_3, zg_4, zg_5, zg_6, zg_7, zg_8, zg_9, zc_lt, zc_le, zc_gt, zc_ge, zc_eq, zc_ne, zc_lt0, zc_ge0, zc_gt0, zc_eq0, zc_ne0, zb_ne, zb_eq, zb_01, z_00, z_01, z_11, zb_f, zb_T, zb_F, zbm1, zbm2, zbm5, zbm6, zbm3, zbm4, nI_clamp, zmod_n, pk_div, nI_ne0, pk_mul, nI_add, nI_1, zt_0, zt_12, zt_20, zt_26, zt_32, zf_0_0, zf_0_1, zf_0_2, zf_0_3, zf_0_4, zf_12_0, zf_12_1, zf_12_2, zf_12_4, zf_12_5, zf_20_1, zf_20_2, zf_20_3, zf_20_4, zf_20_6, zf_26_0, zf_26_1, zf_26_2, zf_26_3, zf_32_0, zf_32_1, zf_32_3, zf_32_4, zf_32_5, zf_32_6, zi_33, hT.1, h2]
  · intro j _ h2
    have na := H.named (M := M) ht hT h2
    have b := H.lbP h2
    have r1 := rk_le n c h j
    have r2 := rk_le n c h (lb n c h j)
    by_cases ej : lb n c h j = j
    · have es : rk n c h (j + 1) = rk n c h j + 1 := by rw [rk_s, if_pos ej]
      have en : nm n c h j = rk n c h j := by unfold nm; rw [ej]
      rw [en] at na
      simp (disch := omega) [zs_M_left_1, zmeth, xm_en, zret, zretz, zretv, zseq, zst, zinc, zkl, zskip, zk, zi, za, zbin, zdiv, zrem, zgi, zgr, zld, zldr, zlen, zn, zc, zcall, zcallv, zrcv, zdo, zdov, zpf, zpfc, zas, zasc, zmin, zmax, zcmp, zcz, zand_e, zor_e, zite_e, zbite_e, zif_e, znot_e, z_add, z_sub, z_mul, z_and, z_or, z_xor, z_shl, z_shr, zcpy, -List.getElem?_cons_succ, zg_0, zg_1, zg_2, zg_3, zg_4, zg_5, zg_6, zg_7, zg_8, zg_9, zc_lt, zc_le, zc_gt, zc_ge, zc_eq, zc_ne, zc_lt0, zc_ge0, zc_gt0, zc_eq0, zc_ne0, zb_ne, zb_eq, zb_01, z_00, z_01, z_11, zb_f, zb_T, zb_F, zbm1, zbm2, zbm5, zbm6, zbm3, zbm4, nI_clamp, zmod_n, pk_div, nI_ne0, pk_mul, nI_add, nI_1, zt_0, zt_12, zt_20, zt_26, zt_32, zf_0_0, zf_0_1, zf_0_2, zf_0_3, zf_0_4, zf_12_0, zf_12_1, zf_12_2, zf_12_4, zf_12_5, zf_20_1, zf_20_2, zf_20_3, zf_20_4, zf_20_6, zf_26_0, zf_26_1, zf_26_2, zf_26_3, zf_32_0, zf_32_1, zf_32_3, zf_32_4, zf_32_5, zf_32_6, na, es]
    · have es : rk n c h (j + 1) = rk n c h j := by rw [rk_s, if_neg ej, Nat.add_zero]
      have en : nm n c h j < rk n c h j := rk_lt (by omega) b.2.2.2
      have en2 : ¬ nm n c h j = rk n c h j := by omega
      simp (disch := omega) [zs_M_left_1, zmeth, xm_en, zret, zretz, zretv, zseq, zst, zinc, zkl, zskip, zk, zi, za, zbin, zdiv, zrem, zgi, zgr, zld, zldr, zlen, zn, zc, zcall, zcallv, zrcv, zdo, zdov, zpf, zpfc, zas, zasc, zmin, zmax, zcmp, zcz, zand_e, zor_e, zite_e, zbite_e, zif_e, znot_e, z_add, z_sub, z_mul, z_and, z_or, z_xor, z_shl, z_shr, zcpy, -List.getElem?_cons_succ, zg_0, zg_1, zg_2, zg_3, zg_4, zg_5, zg_6, zg_7, zg_8, zg_9, zc_lt, zc_le, zc_gt, zc_ge, zc_eq, zc_ne, zc_lt0, zc_ge0, zc_gt0, zc_eq0, zc_ne0, zb_ne, zb_eq, zb_01, z_00, z_01, z_11, zb_f, zb_T, zb_F, zbm1, zbm2, zbm5, zbm6, zbm3, zbm4, nI_clamp, zmod_n, pk_div, nI_ne0, pk_mul, nI_add, nI_1, zt_0, zt_12, zt_20, zt_26, zt_32, zf_0_0, zf_0_1, zf_0_2, zf_0_3, zf_0_4, zf_12_0, zf_12_1, zf_12_2, zf_12_4, zf_12_5, zf_20_1, zf_20_2, zf_20_3, zf_20_4, zf_20_6, zf_26_0, zf_26_1, zf_26_2, zf_26_3, zf_32_0, zf_32_1, zf_32_3, zf_32_4, zf_32_5, zf_32_6, na, es, en2]
  · simp (disch := omega) [zc_M_left_1, zmeth, xm_en, zret, zretz, zretv, zseq, zst, zinc, zkl, zskip, zk, zi, za, zbin, zdiv, zrem, zgi, zgr, zld, zldr, zlen, zn, zc, zcall, zcallv, zrcv, zdo, zdov, zpf, zpfc, zas, zasc, zmin, zmax, zcmp, zcz, zand_e, zor_e, zite_e, zbite_e, zif_e, znot_e, z_add, z_sub, z_mul, z_and, z_or, z_xor, z_shl, z_shr, zcpy, -List.getElem?_cons_succ, zg_0, zg_1, zg_2, zg_3, zg_4, zg_5, zg_6, zg_7, zg_8, zg_9, zc_lt, zc_le, zc_gt, zc_ge, zc_eq, zc_ne, zc_lt0, zc_ge0, zc_gt0, zc_eq0, zc_ne0, zb_ne, zb_eq, zb_01, z_00, z_01, z_11, zb_f, zb_T, zb_F, zbm1, zbm2, zbm5, zbm6, zbm3, zbm4, nI_clamp, zmod_n, pk_div, nI_ne0, pk_mul, nI_add, nI_1, zt_0, zt_12, zt_20, zt_26, zt_32, zf_0_0, zf_0_1, zf_0_2, zf_0_3, zf_0_4, zf_12_0, zf_12_1, zf_12_2, zf_12_4, zf_12_5, zf_20_1, zf_20_2, zf_20_3, zf_20_4, zf_20_6, zf_26_0, zf_26_1, zf_26_2, zf_26_3, zf_32_0, zf_32_1, zf_32_3, zf_32_4, zf_32_5, zf_32_6, zi_33, hT.1]
theorem zft_get {M : zM} {t n a b i j : Nat} {c : tC} (h8 : n ≤ 8) (hj : j < n) (hi : i < 8) (h : i < a ∨ (i = a ∧ j < b)) : zft M t n c a b 34 (64 * t + 8 * i + j) = zcl (-4) (c i j) := by
  unfold zft
  have e1 : (64 * t + 8 * i + j - 64 * t) / 8 = i := by omega
  have e2 : (64 * t + 8 * i + j - 64 * t) % 8 = j := by omega
  rw [e1, e2, if_pos (by omega)]
theorem NP.put {M : zM} {s t n h x : Nat} {c : tC} (H : NP n c h) (ht : t < 4) (hT : rT M t n c) (hx : x < n) : zwh zc_M_left_3 zs_M_left_3 [some (Value.ref (32)), some (Value.int (nI s)), some (Value.int (nI t)), some (Value.int (nI h)), some (Value.int (nI (rk n c h n))), some (Value.int (nI x)), some (Value.int (nI 0))] (zft M 4 (rk n c h n) (tQ n c h) (rk n c h x) 0) = some (none, [some (Value.ref (32)), some (Value.int (nI s)), some (Value.int (nI t)), some (Value.int (nI h)), some (Value.int (nI (rk n c h n))), some (Value.int (nI x)), some (Value.int (nI n))], zft M 4 (rk n c h n) (tQ n c h) (rk n c h (x + 1)) 0) := by
  have h8 := H.1.1.2
  have h6 : t < 6 := by omega
  have r8 := H.tOP.1.2
  have hr : ∀ a b, rT (zft M 4 (rk n c h n) (tQ n c h) a b) t n c := fun a b => rT_ft ht h8 hT
  have bx := H.lbP hx
  have nx := H.nm_lt hx
  have step : ∀ (a b b2 j : Nat), j < n → zup (zft M 4 (rk n c h n) (tQ n c h) a b) 34 (64 * 4 + 8 * nm n c h x + nm n c h j) (nI (tQ n c h (nm n c h x) (nm n c h j))) = zft M 4 (rk n c h n) (tQ n c h) a b2 → zs_M_left_3 [some (Value.ref (32)), some (Value.int (nI s)), some (Value.int (nI t)), some (Value.int (nI h)), some (Value.int (nI (rk n c h n))), some (Value.int (nI x)), some (Value.int (nI j))] (zft M 4 (rk n c h n) (tQ n c h) a b) = some (none, [some (Value.ref (32)), some (Value.int (nI s)), some (Value.int (nI t)), some (Value.int (nI h)), some (Value.int (nI (rk n c h n))), some (Value.int (nI x)), some (Value.int (nI (j + 1)))], zft M 4 (rk n c h n) (tQ n c h) a b2) := by
    intro a b b2 j h2 e
    have nj := H.nm_lt h2
    have n1 := H.named h6 (hr a b) hx
    have n2 := H.named h6 (hr a b) h2
    have n3 := H.named h6 (hr a b) (H.2.1 x j hx h2)
    have m := qM_mul h6 (hr a b) h8 H.2.1 hx h2
    rw [H.q hx h2] at n3
    have p := qM_puts (M := zft M 4 (rk n c h n) (tQ n c h) a b) (t := 4) (a := nm n c h x) (b := nm n c h j) (v := nI (tQ n c h (nm n c h x) (nm n c h j))) (by omega)
    rw [e] at p
    simp (disch := omega) [zs_M_left_3, zmeth, xm_en, zret, zretz, zretv, zseq, zst, zinc, zkl, zskip, zk, zi, za, zbin, zdiv, zrem, zgi, zgr, zld, zldr, zlen, zn, zc, zcall, zcallv, zrcv, zdo, zdov, zpf, zpfc, zas, zasc, zmin, zmax, zcmp, zcz, zand_e, zor_e, zite_e, zbite_e, zif_e, znot_e, z_add, z_sub, z_mul, z_and, z_or, z_xor, z_shl, z_shr, zcpy, -List.getElem?_cons_succ, zg_0, zg_1, zg_2, zg_3, zg_4, zg_5, zg_6, zg_7, zg_8, zg_9, zc_lt, zc_le, zc_gt, zc_ge, zc_eq, zc_ne, zc_lt0, zc_ge0, zc_gt0, zc_eq0, zc_ne0, zb_ne, zb_eq, zb_01, z_00, z_01, z_11, zb_f, zb_T, zb_F, zbm1, zbm2, zbm5, zbm6, zbm3, zbm4, nI_clamp, zmod_n, pk_div, nI_ne0, pk_mul, nI_add, nI_1, zt_0, zt_12, zt_20, zt_26, zt_32, zf_0_0, zf_0_1, zf_0_2, zf_0_3, zf_0_4, zf_12_0, zf_12_1, zf_12_2, zf_12_4, zf_12_5, zf_20_1, zf_20_2, zf_20_3, zf_20_4, zf_20_6, zf_26_0, zf_26_1, zf_26_2, zf_26_3, zf_32_0, zf_32_1, zf_32_3, zf_32_4, zf_32_5, zf_32_6, n1, n2, m, n3, p]
  by_cases ex : lb n c h x = x
  · have e0 : zft M 4 (rk n c h n) (tQ n c h) (rk n c h (x + 1)) 0 = zft M 4 (rk n c h n) (tQ n c h) (rk n c h x) (rk n c h n) := by rw [rk_s, if_pos ex, zft_r]
    have enx : nm n c h x = rk n c h x := by unfold nm; rw [ex]
    rw [e0]
    refine zwh_up (c := zc_M_left_3) (s := zs_M_left_3) (fun j => [some (Value.ref (32)), some (Value.int (nI s)), some (Value.int (nI t)), some (Value.int (nI h)), some (Value.int (nI (rk n c h n))), some (Value.int (nI x)), some (Value.int (nI j))]) (fun j => zft M 4 (rk n c h n) (tQ n c h) (rk n c h x) (rk n c h j)) (n := n) n 0 (by omega) ?_ ?_ ?_
    · intro j _ h2
      simp (disch := omega) [zc_M_left_3, zmeth, xm_en, zret, zretz, zretv, zseq, zst, zinc, zkl, zskip, zk, zi, za, zbin, zdiv, zrem, zgi, zgr, zld, zldr, zlen, zn, zc, zcall, zcallv, zrcv, zdo, zdov, zpf, zpfc, zas, zasc, zmin, zmax, zcmp, zcz, zand_e, zor_e, zite_e, zbite_e, zif_e, znot_e, z_add, z_sub, z_mul, z_and, z_or, z_xor, z_shl, z_shr, zcpy, -List.getElem?_cons_succ, zg_0, zg_1, zg_2, zg_3, zg_4, zg_5, zg_6, zg_7, zg_8, zg_9, zc_lt, zc_le, zc_gt, zc_ge, zc_eq, zc_ne, zc_lt0, zc_ge0, zc_gt0, zc_eq0, zc_ne0, zb_ne, zb_eq, zb_01, z_00, z_01, z_11, zb_f, zb_T, zb_F, zbm1, zbm2, zbm5, zbm6, zbm3, zbm4, nI_clamp, zmod_n, pk_div, nI_ne0, pk_mul, nI_add, nI_1, zt_0, zt_12, zt_20, zt_26, zt_32, zf_0_0, zf_0_1, zf_0_2, zf_0_3, zf_0_4, zf_12_0, zf_12_1, zf_12_2, zf_12_4, zf_12_5, zf_20_1, zf_20_2, zf_20_3, zf_20_4, zf_20_6, zf_26_0, zf_26_1, zf_26_2, zf_26_3, zf_32_0, zf_32_1, zf_32_3, zf_32_4, zf_32_5, zf_32_6, zi_33, (hr _ _).1, h2]
    · intro j _ h2
      refine step _ _ _ j h2 ?_
      have nj := H.nm_lt h2
      have bj := H.lbP h2
      have ql := H.tFP _ _ nx nj
      rw [enx] at ql nx ⊢
      by_cases ej : lb n c h j = j
      · have es : rk n c h (j + 1) = rk n c h j + 1 := by rw [rk_s, if_pos ej]
        have enj : nm n c h j = rk n c h j := by unfold nm; rw [ej]
        rw [enj] at ql nj ⊢
        rw [es, ← zft_s r8 (show rk n c h x < 8 by omega) nj, zcl_lt (show tQ n c h (rk n c h x) (rk n c h j) < 8 by omega)]
      · have es : rk n c h (j + 1) = rk n c h j := by rw [rk_s, if_neg ej, Nat.add_zero]
        have enj : nm n c h j < rk n c h j := rk_lt (by omega) bj.2.2.2
        rw [es]
        refine zup_id ?_
        rw [zft_get r8 nj (by omega) (Or.inr ⟨rfl, enj⟩), zcl_lt (by omega)]
    · simp (disch := omega) [zc_M_left_3, zmeth, xm_en, zret, zretz, zretv, zseq, zst, zinc, zkl, zskip, zk, zi, za, zbin, zdiv, zrem, zgi, zgr, zld, zldr, zlen, zn, zc, zcall, zcallv, zrcv, zdo, zdov, zpf, zpfc, zas, zasc, zmin, zmax, zcmp, zcz, zand_e, zor_e, zite_e, zbite_e, zif_e, znot_e, z_add, z_sub, z_mul, z_and, z_or, z_xor, z_shl, z_shr, zcpy, -List.getElem?_cons_succ, zg_0, zg_1, zg_2, zg_3, zg_4, zg_5, zg_6, zg_7, zg_8, zg_9, zc_lt, zc_le, zc_gt, zc_ge, zc_eq, zc_ne, zc_lt0, zc_ge0, zc_gt0, zc_eq0, zc_ne0, zb_ne, zb_eq, zb_01, z_00, z_01, z_11, zb_f, zb_T, zb_F, zbm1, zbm2, zbm5, zbm6, zbm3, zbm4, nI_clamp, zmod_n, pk_div, nI_ne0, pk_mul, nI_add, nI_1, zt_0, zt_12, zt_20, zt_26, zt_32, zf_0_0, zf_0_1, zf_0_2, zf_0_3, zf_0_4, zf_12_0, zf_12_1, zf_12_2, zf_12_4, zf_12_5, zf_20_1, zf_20_2, zf_20_3, zf_20_4, zf_20_6, zf_26_0, zf_26_1, zf_26_2, zf_26_3, zf_32_0, zf_32_1, zf_32_3, zf_32_4, zf_32_5, zf_32_6, zi_33, (hr _ _).1]
  · have e0 : rk n c h (x + 1) = rk n c h x := by rw [rk_s, if_neg ex, Nat.add_zero]
    have enx : nm n c h x < rk n c h x := rk_lt (by omega) bx.2.2.2
    rw [e0]
    refine zwh_up (c := zc_M_left_3) (s := zs_M_left_3) (fun j => [some (Value.ref (32)), some (Value.int (nI s)), some (Value.int (nI t)), some (Value.int (nI h)), some (Value.int (nI (rk n c h n))), some (Value.int (nI x)), some (Value.int (nI j))]) (fun j => zft M 4 (rk n c h n) (tQ n c h) (rk n c h x) 0) (n := n) n 0 (by omega) ?_ ?_ ?_
    · intro j _ h2
      simp (disch := omega) [zc_M_left_3, zmeth, xm_en, zret, zretz, zretv, zseq, zst, zinc, zkl, zskip, zk, zi, za, zbin, zdiv, zrem, zgi, zgr, zld, zldr, zlen, zn, zc, zcall, zcallv, zrcv, zdo, zdov, zpf, zpfc, zas, zasc, zmin, zmax, zcmp, zcz, zand_e, zor_e, zite_e, zbite_e, zif_e, znot_e, z_add, z_sub, z_mul, z_and, z_or, z_xor, z_shl, z_shr, zcpy, -List.getElem?_cons_succ, zg_0, zg_1, zg_2, zg_3, zg_4, zg_5, zg_6, zg_7, zg_8, zg_9, zc_lt, zc_le, zc_gt, zc_ge, zc_eq, zc_ne, zc_lt0, zc_ge0, zc_gt0, zc_eq0, zc_ne0, zb_ne, zb_eq, zb_01, z_00, z_01, z_11, zb_f, zb_T, zb_F, zbm1, zbm2, zbm5, zbm6, zbm3, zbm4, nI_clamp, zmod_n, pk_div, nI_ne0, pk_mul, nI_add, nI_1, zt_0, zt_12, zt_20, zt_26, zt_32, zf_0_0, zf_0_1, zf_0_2, zf_0_3, zf_0_4, zf_12_0, zf_12_1, zf_12_2, zf_12_4, zf_12_5, zf_20_1, zf_20_2, zf_20_3, zf_20_4, zf_20_6, zf_26_0, zf_26_1, zf_26_2, zf_26_3, zf_32_0, zf_32_1, zf_32_3, zf_32_4, zf_32_5, zf_32_6, zi_33, (hr _ _).1, h2]
    · intro j _ h2
      refine step _ _ _ j h2 (zup_id ?_)
      have nj := H.nm_lt h2
      have ql := H.tFP _ _ nx nj
      rw [zft_get r8 nj (by omega) (Or.inl enx), zcl_lt (by omega)]
    · simp (disch := omega) [zc_M_left_3, zmeth, xm_en, zret, zretz, zretv, zseq, zst, zinc, zkl, zskip, zk, zi, za, zbin, zdiv, zrem, zgi, zgr, zld, zldr, zlen, zn, zc, zcall, zcallv, zrcv, zdo, zdov, zpf, zpfc, zas, zasc, zmin, zmax, zcmp, zcz, zand_e, zor_e, zite_e, zbite_e, zif_e, znot_e, z_add, z_sub, z_mul, z_and, z_or, z_xor, z_shl, z_shr, zcpy, -List.getElem?_cons_succ, zg_0, zg_1, zg_2, zg_3, zg_4, zg_5, zg_6, zg_7, zg_8, zg_9, zc_lt, zc_le, zc_gt, zc_ge, zc_eq, zc_ne, zc_lt0, zc_ge0, zc_gt0, zc_eq0, zc_ne0, zb_ne, zb_eq, zb_01, z_00, z_01, z_11, zb_f, zb_T, zb_F, zbm1, zbm2, zbm5, zbm6, zbm3, zbm4, nI_clamp, zmod_n, pk_div, nI_ne0, pk_mul, nI_add, nI_1, zt_0, zt_12, zt_20, zt_26, zt_32, zf_0_0, zf_0_1, zf_0_2, zf_0_3, zf_0_4, zf_12_0, zf_12_1, zf_12_2, zf_12_4, zf_12_5, zf_20_1, zf_20_2, zf_20_3, zf_20_4, zf_20_6, zf_26_0, zf_26_1, zf_26_2, zf_26_3, zf_32_0, zf_32_1, zf_32_3, zf_32_4, zf_32_5, zf_32_6, zi_33, (hr _ _).1]
theorem qM_left {T : tS} {M : zM} (x y z : Int32) (hR : RS T M) (hT : TO T) : ∃ M', zf_M_left [.ref 32, .int x, .int y, .int z] M = some (some (aL T x y z), M') ∧ RS (sL T x y z) M' ∧ TO (sL T x y z) ∧ zlo M M' := by
  have bad : ∀ x y z, okL T x y z = false → RS (sL T x y z) M ∧ TO (sL T x y z) ∧ zlo M M := fun x y z h => ⟨by simpa [sL, h] using hR, by simpa [sL, h] using hT, zlo.refl M⟩
  rcases z3 x (n := 4) (by decide) with h | ⟨s, hs, rfl⟩
  · refine ⟨M, ?_, bad _ _ _ (by simp [okL, h])⟩
    simp [zf_M_left, zmeth, xm_en, zret, zretz, zretv, zseq, zst, zinc, zkl, zskip, zk, zi, za, zbin, zdiv, zrem, zgi, zgr, zld, zldr, zlen, zn, zc, zcall, zcallv, zrcv, zdo, zdov, zpf, zpfc, zas, zasc, zmin, zmax, zcmp, zcz, zand_e, zor_e, zite_e, zbite_e, zif_e, znot_e, z_add, z_sub, z_mul, z_and, z_or, z_xor, z_shl, z_shr, zcpy, -List.getElem?_cons_succ, zg_0, zg_1, zg_2, zg_3, zg_4, zg_5, zg_6, zg_7, zg_8, zg_9, qM_isTable, zb_ne, h, aL]
  · have e := zlt_y hs (by decide)
    rcases z3 y (n := 4) (by decide) with h | ⟨t, ht, rfl⟩
    · refine ⟨M, ?_, bad _ _ _ (by simp [okL, okP, h])⟩
      simp [zf_M_left, zmeth, xm_en, zret, zretz, zretv, zseq, zst, zinc, zkl, zskip, zk, zi, za, zbin, zdiv, zrem, zgi, zgr, zld, zldr, zlen, zn, zc, zcall, zcallv, zrcv, zdo, zdov, zpf, zpfc, zas, zasc, zmin, zmax, zcmp, zcz, zand_e, zor_e, zite_e, zbite_e, zif_e, znot_e, z_add, z_sub, z_mul, z_and, z_or, z_xor, z_shl, z_shr, zcpy, -List.getElem?_cons_succ, zg_0, zg_1, zg_2, zg_3, zg_4, zg_5, zg_6, zg_7, zg_8, zg_9, qM_isTable, zb_ne, e, h, aL]
    · have e2 := zlt_y ht (by decide)
      have ct : (nI t).toNatClampNeg = t := nI_clamp (by omega)
      have cs : (nI s).toNatClampNeg = s := nI_clamp (by omega)
      have h8 := (hT t ht).1.2
      have h6 : t < 6 := by omega
      have hp := p31 h8
      have i1 := qM_isSet (x := z) hR hT ht
      cases hs2 : zlt z (2 ^ (T t).1) with
      | false =>
        rw [hs2] at i1
        refine ⟨M, ?_, bad _ _ _ (by simp [okL, okP, ct, hs2])⟩
        simp (disch := omega) [zf_M_left, zmeth, xm_en, zret, zretz, zretv, zseq, zst, zinc, zkl, zskip, zk, zi, za, zbin, zdiv, zrem, zgi, zgr, zld, zldr, zlen, zn, zc, zcall, zcallv, zrcv, zdo, zdov, zpf, zpfc, zas, zasc, zmin, zmax, zcmp, zcz, zand_e, zor_e, zite_e, zbite_e, zif_e, znot_e, z_add, z_sub, z_mul, z_and, z_or, z_xor, z_shl, z_shr, zcpy, -List.getElem?_cons_succ, zg_0, zg_1, zg_2, zg_3, zg_4, zg_5, zg_6, zg_7, zg_8, zg_9, zt_0, zt_12, zt_20, zt_26, zt_32, zf_0_0, zf_0_1, zf_0_2, zf_0_3, zf_0_4, zf_12_0, zf_12_1, zf_12_2, zf_12_4, zf_12_5, zf_20_1, zf_20_2, zf_20_3, zf_20_4, zf_20_6, zf_26_0, zf_26_1, zf_26_2, zf_26_3, zf_32_0, zf_32_1, zf_32_3, zf_32_4, zf_32_5, zf_32_6, qM_isTable, zb_ne, e, e2, aL, okP, aFault, ct, hs2, i1]
      | true =>
        rw [hs2] at i1
        obtain ⟨v, hv, rfl⟩ := zlt_t hp hs2
        have cv : (nI v).toNatClampNeg = v := nI_clamp (by omega)
        cases hb : tB (T t).1 (T t).2 with
        | false =>
          refine ⟨M, ?_, bad _ _ _ (by simp [okL, okP, ct, hb])⟩
          simp (disch := omega) [zf_M_left, zmeth, xm_en, zret, zretz, zretv, zseq, zst, zinc, zkl, zskip, zk, zi, za, zbin, zdiv, zrem, zgi, zgr, zld, zldr, zlen, zn, zc, zcall, zcallv, zrcv, zdo, zdov, zpf, zpfc, zas, zasc, zmin, zmax, zcmp, zcz, zand_e, zor_e, zite_e, zbite_e, zif_e, znot_e, z_add, z_sub, z_mul, z_and, z_or, z_xor, z_shl, z_shr, zcpy, -List.getElem?_cons_succ, zg_0, zg_1, zg_2, zg_3, zg_4, zg_5, zg_6, zg_7, zg_8, zg_9, zt_0, zt_12, zt_20, zt_26, zt_32, zf_0_0, zf_0_1, zf_0_2, zf_0_3, zf_0_4, zf_12_0, zf_12_1, zf_12_2, zf_12_4, zf_12_5, zf_20_1, zf_20_2, zf_20_3, zf_20_4, zf_20_6, zf_26_0, zf_26_1, zf_26_2, zf_26_3, zf_32_0, zf_32_1, zf_32_3, zf_32_4, zf_32_5, zf_32_6, qM_isTable, zb_ne, e, e2, aL, okP, aFault, ct, cv, hs2, i1, qM_isFull h6 (hR t ht) h8, hb]
        | true =>
          have hf := (tB_iff (hT t ht)).mp hb
          obtain ⟨c1, c2⟩ := qM_closed h6 (hR t ht) (hT t ht) hf hv
          have c3 := isP_iff (hT t ht) hf c2
          have c4 := tCl_lt (hT t ht) hf hv
          have nn := qM_isNormal h6 (hR t ht) h8 hf (show v < 2 ^ 31 by omega)
          have c5 : xe_cd .ne (nI (tCl (T t).1 (T t).2 v)) (nI v) = !isP (T t).1 (T t).2 v := by rw [zc_ne (by omega) (by omega), c3]
          cases hi : isP (T t).1 (T t).2 v with
          | false =>
            rw [hi] at c5
            refine ⟨M, ?_, bad _ _ _ (by simp [okL, okP, ct, cv, hi])⟩
            simp (disch := omega) [zf_M_left, zmeth, xm_en, zret, zretz, zretv, zseq, zst, zinc, zkl, zskip, zk, zi, za, zbin, zdiv, zrem, zgi, zgr, zld, zldr, zlen, zn, zc, zcall, zcallv, zrcv, zdo, zdov, zpf, zpfc, zas, zasc, zmin, zmax, zcmp, zcz, zand_e, zor_e, zite_e, zbite_e, zif_e, znot_e, z_add, z_sub, z_mul, z_and, z_or, z_xor, z_shl, z_shr, zcpy, -List.getElem?_cons_succ, zg_0, zg_1, zg_2, zg_3, zg_4, zg_5, zg_6, zg_7, zg_8, zg_9, zt_0, zt_12, zt_20, zt_26, zt_32, zf_0_0, zf_0_1, zf_0_2, zf_0_3, zf_0_4, zf_12_0, zf_12_1, zf_12_2, zf_12_4, zf_12_5, zf_20_1, zf_20_2, zf_20_3, zf_20_4, zf_20_6, zf_26_0, zf_26_1, zf_26_2, zf_26_3, zf_32_0, zf_32_1, zf_32_3, zf_32_4, zf_32_5, zf_32_6, qM_isTable, zb_ne, e, e2, aL, okP, aFault, ct, cv, hs2, i1, qM_isFull h6 (hR t ht) h8, hb, c1, c5, hi]
          | true =>
            rw [hi] at c5
            have hok : okP T (nI t) (nI v) = true := by simp [okP, ct, cv, e2, hs2, hb, hi]
            cases hn : tNm (T t).1 (T t).2 v with
            | false =>
              rw [hn] at nn
              have hokl : okL T (nI s) (nI t) (nI v) = false := by simp [okL, ct, cv, hn]
              refine ⟨M, ?_, bad _ _ _ hokl⟩
              simp (disch := omega) [zf_M_left, zmeth, xm_en, zret, zretz, zretv, zseq, zst, zinc, zkl, zskip, zk, zi, za, zbin, zdiv, zrem, zgi, zgr, zld, zldr, zlen, zn, zc, zcall, zcallv, zrcv, zdo, zdov, zpf, zpfc, zas, zasc, zmin, zmax, zcmp, zcz, zand_e, zor_e, zite_e, zbite_e, zif_e, znot_e, z_add, z_sub, z_mul, z_and, z_or, z_xor, z_shl, z_shr, zcpy, -List.getElem?_cons_succ, zg_0, zg_1, zg_2, zg_3, zg_4, zg_5, zg_6, zg_7, zg_8, zg_9, zt_0, zt_12, zt_20, zt_26, zt_32, zf_0_0, zf_0_1, zf_0_2, zf_0_3, zf_0_4, zf_12_0, zf_12_1, zf_12_2, zf_12_4, zf_12_5, zf_20_1, zf_20_2, zf_20_3, zf_20_4, zf_20_6, zf_26_0, zf_26_1, zf_26_2, zf_26_3, zf_32_0, zf_32_1, zf_32_3, zf_32_4, zf_32_5, zf_32_6, qM_isTable, zb_ne, e, e2, aL, hok, hokl, i1, qM_isFull h6 (hR t ht) h8, hb, c1, c5, nn]
            | true =>
              rw [hn] at nn
              have hokl : okL T (nI s) (nI t) (nI v) = true := by simp [okL, ct, cv, hn, e, hok]
              have H : NP (T t).1 (T t).2 v := ⟨hT t ht, hf, hv, hi, hn⟩
              have r8 := H.tOP.1.2
              have hr : ∀ a b, rT (zft M 4 (rk (T t).1 (T t).2 v (T t).1) (tQ (T t).1 (T t).2 v) a b) t (T t).1 (T t).2 := fun a b => rT_ft ht h8 (hR t ht)
              have R := zwh_up (c := zc_M_left_2) (s := zs_M_left_2) (fun j => [some (Value.ref (32)), some (Value.int (nI s)), some (Value.int (nI t)), some (Value.int (nI v)), some (Value.int (nI (rk (T t).1 (T t).2 v (T t).1))), some (Value.int (nI j)), none]) (fun j => zft M 4 (rk (T t).1 (T t).2 v (T t).1) (tQ (T t).1 (T t).2 v) (rk (T t).1 (T t).2 v j) 0) (n := (T t).1) (T t).1 0 (by omega) ?_ ?_ ?_
              · have r0 : rk (T t).1 (T t).2 v 0 = 0 := rfl
                rw [r0, zft_0] at R
                refine ⟨zcp (zup (zft M 4 (rk (T t).1 (T t).2 v (T t).1) (tQ (T t).1 (T t).2 v) (rk (T t).1 (T t).2 v (T t).1) 0) 33 4 (nI (rk (T t).1 (T t).2 v (T t).1))) s 4 64, ?_, ?_, ?_, ?_⟩
                · have cn := H.cnt (M := M) (s := s) h6 (hR t ht)
                  simp (disch := omega) [zf_M_left, zmeth, xm_en, zret, zretz, zretv, zseq, zst, zinc, zkl, zskip, zk, zi, za, zbin, zdiv, zrem, zgi, zgr, zld, zldr, zlen, zn, zc, zcall, zcallv, zrcv, zdo, zdov, zpf, zpfc, zas, zasc, zmin, zmax, zcmp, zcz, zand_e, zor_e, zite_e, zbite_e, zif_e, znot_e, z_add, z_sub, z_mul, z_and, z_or, z_xor, z_shl, z_shr, zcpy, -List.getElem?_cons_succ, zg_0, zg_1, zg_2, zg_3, zg_4, zg_5, zg_6, zg_7, zg_8, zg_9, zt_0, zt_12, zt_20, zt_26, zt_32, zf_0_0, zf_0_1, zf_0_2, zf_0_3, zf_0_4, zf_12_0, zf_12_1, zf_12_2, zf_12_4, zf_12_5, zf_20_1, zf_20_2, zf_20_3, zf_20_4, zf_20_6, zf_26_0, zf_26_1, zf_26_2, zf_26_3, zf_32_0, zf_32_1, zf_32_3, zf_32_4, zf_32_5, zf_32_6, qM_isTable, zb_ne, e, e2, aL, hok, hokl, ct, cv, i1, qM_isFull h6 (hR t ht) h8, hb, c1, c5, nn, cn, R, zi_33, nI_clamp, qM_copies]
                · simp only [sL, hokl, cond_true, ct, cs, cv]
                  exact RS_cp4 hT hs r8 hR zsr4 (rT4 r8)
                · simp only [sL, hokl, cond_true, ct, cs, cv]
                  exact TO_set hT H.tOP
                · exact zlo.trans (zsr4 (M := M)).lo zlo_cp
              · intro j g1 g2
                simp (disch := omega) [zc_M_left_2, zmeth, xm_en, zret, zretz, zretv, zseq, zst, zinc, zkl, zskip, zk, zi, za, zbin, zdiv, zrem, zgi, zgr, zld, zldr, zlen, zn, zc, zcall, zcallv, zrcv, zdo, zdov, zpf, zpfc, zas, zasc, zmin, zmax, zcmp, zcz, zand_e, zor_e, zite_e, zbite_e, zif_e, znot_e, z_add, z_sub, z_mul, z_and, z_or, z_xor, z_shl, z_shr, zcpy, -List.getElem?_cons_succ, zg_0, zg_1, zg_2, zg_3, zg_4, zg_5, zg_6, zg_7, zg_8, zg_9, zc_lt, zc_le, zc_gt, zc_ge, zc_eq, zc_ne, zc_lt0, zc_ge0, zc_gt0, zc_eq0, zc_ne0, zb_ne, zb_eq, zb_01, z_00, z_01, z_11, zb_f, zb_T, zb_F, zbm1, zbm2, zbm5, zbm6, zbm3, zbm4, nI_clamp, zmod_n, pk_div, nI_ne0, pk_mul, nI_add, nI_1, zt_0, zt_12, zt_20, zt_26, zt_32, zf_0_0, zf_0_1, zf_0_2, zf_0_3, zf_0_4, zf_12_0, zf_12_1, zf_12_2, zf_12_4, zf_12_5, zf_20_1, zf_20_2, zf_20_3, zf_20_4, zf_20_6, zf_26_0, zf_26_1, zf_26_2, zf_26_3, zf_32_0, zf_32_1, zf_32_3, zf_32_4, zf_32_5, zf_32_6, zi_33, (hr _ _).1, g2]
              · intro j g1 g2
                have R2 := H.put (s := s) ht (hR t ht) g2
                simp (disch := omega) [zs_M_left_2, zmeth, xm_en, zret, zretz, zretv, zseq, zst, zinc, zkl, zskip, zk, zi, za, zbin, zdiv, zrem, zgi, zgr, zld, zldr, zlen, zn, zc, zcall, zcallv, zrcv, zdo, zdov, zpf, zpfc, zas, zasc, zmin, zmax, zcmp, zcz, zand_e, zor_e, zite_e, zbite_e, zif_e, znot_e, z_add, z_sub, z_mul, z_and, z_or, z_xor, z_shl, z_shr, zcpy, -List.getElem?_cons_succ, zg_0, zg_1, zg_2, zg_3, zg_4, zg_5, zg_6, zg_7, zg_8, zg_9, zc_lt, zc_le, zc_gt, zc_ge, zc_eq, zc_ne, zc_lt0, zc_ge0, zc_gt0, zc_eq0, zc_ne0, zb_ne, zb_eq, zb_01, z_00, z_01, z_11, zb_f, zb_T, zb_F, zbm1, zbm2, zbm5, zbm6, zbm3, zbm4, nI_clamp, zmod_n, pk_div, nI_ne0, pk_mul, nI_add, nI_1, R2]
              · simp (disch := omega) [zc_M_left_2, zmeth, xm_en, zret, zretz, zretv, zseq, zst, zinc, zkl, zskip, zk, zi, za, zbin, zdiv, zrem, zgi, zgr, zld, zldr, zlen, zn, zc, zcall, zcallv, zrcv, zdo, zdov, zpf, zpfc, zas, zasc, zmin, zmax, zcmp, zcz, zand_e, zor_e, zite_e, zbite_e, zif_e, znot_e, z_add, z_sub, z_mul, z_and, z_or, z_xor, z_shl, z_shr, zcpy, -List.getElem?_cons_succ, zg_0, zg_1, zg_2, zg_3, zg_4, zg_5, zg_6, zg_7, zg_8, zg_9, zc_lt, zc_le, zc_gt, zc_ge, zc_eq, zc_ne, zc_lt0, zc_ge0, zc_gt0, zc_eq0, zc_ne0, zb_ne, zb_eq, zb_01, z_00, z_01, z_11, zb_f, zb_T, zb_F, zbm1, zbm2, zbm5, zbm6, zbm3, zbm4, nI_clamp, zmod_n, pk_div, nI_ne0, pk_mul, nI_add, nI_1, zt_0, zt_12, zt_20, zt_26, zt_32, zf_0_0, zf_0_1, zf_0_2, zf_0_3, zf_0_4, zf_12_0, zf_12_1, zf_12_2, zf_12_4, zf_12_5, zf_20_1, zf_20_2, zf_20_3, zf_20_4, zf_20_6, zf_26_0, zf_26_1, zf_26_2, zf_26_3, zf_32_0, zf_32_1, zf_32_3, zf_32_4, zf_32_5, zf_32_6, zi_33, (hr _ _).1]
