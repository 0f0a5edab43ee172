/-! sets of elements as bits: what is made of them from the left and the right -/
def tL (n : Nat) (c : tC) (x s : Nat) : Nat := zim (fun b => c x b) (fun b => s.testBit b) n
def tRt (n : Nat) (c : tC) (s x : Nat) : Nat := zim (fun a => c a x) (fun b => s.testBit b) n
theorem tL_lt {n x s : Nat} {c : tC} (hf : tF n c) (hx : x < n) : tL n c x s < 2 ^ n := zim_lt (fun i hi _ => hf x i hx hi)
theorem tRt_lt {n x s : Nat} {c : tC} (hf : tF n c) (hx : x < n) : tRt n c s x < 2 ^ n := zim_lt (fun i hi _ => hf i x hi hx)
theorem p8 {n : Nat} (h8 : n ≤ 8) : 2 ^ n ≤ 256 := Nat.pow_le_pow_right (by decide) h8
theorem qP_has {M : zM} {s a : Nat} (hs : s < 2 ^ 31) (ha : a < 32) : zf_Parts_has [.int (nI s), .int (nI a)] M = some (some (zb (s.testBit a)), M) := by
  simp (disch := omega) [zf_Parts_has, zmeth, xm_en, zret, zretz, zretv, zseq, zst, zinc, zkl, zskip, zk, zi, za, zbin, zdiv, zrem, zgi, zgr, zld, zldr, zlen, zn, zc, zcall, zcallv, zrcv, zdo, zdov, zpf, zpfc, zas, zasc, zmin, zmax, zcmp, zcz, zand_e, zor_e, zite_e, zbite_e, zif_e, znot_e, z_add, z_sub, z_mul, z_and, z_or, z_xor, z_shl, z_shr, zcpy, -List.getElem?_cons_succ, zg_0, zg_1, zg_2, zg_3, zg_4, zg_5, zg_6, zg_7, zg_8, zg_9, zc_lt, zc_le, zc_gt, zc_ge, zc_eq, zc_ne, zc_lt0, zc_ge0, zc_gt0, zc_eq0, zc_ne0, zb_ne, zb_eq, zb_01, z_00, z_01, z_11, zb_f, zb_T, zb_F, zbm1, zbm2, zbm5, zbm6, zbm3, zbm4, nI_clamp, zmod_n, pk_div, nI_ne0, pk_mul, nI_add, nI_1, nI_or, nI_shl1, nI_bit, zb_eq1]
theorem qM_has {M : zM} {s a : Nat} (hs : s < 2 ^ 31) (ha : a < 32) : zf_M_has [.int (nI s), .int (nI a)] M = some (some (zb (s.testBit a)), M) := by
  simp (disch := omega) [zf_M_has, zmeth, xm_en, zret, zretz, zretv, zseq, zst, zinc, zkl, zskip, zk, zi, za, zbin, zdiv, zrem, zgi, zgr, zld, zldr, zlen, zn, zc, zcall, zcallv, zrcv, zdo, zdov, zpf, zpfc, zas, zasc, zmin, zmax, zcmp, zcz, zand_e, zor_e, zite_e, zbite_e, zif_e, znot_e, z_add, z_sub, z_mul, z_and, z_or, z_xor, z_shl, z_shr, zcpy, -List.getElem?_cons_succ, zg_0, zg_1, zg_2, zg_3, zg_4, zg_5, zg_6, zg_7, zg_8, zg_9, zc_lt, zc_le, zc_gt, zc_ge, zc_eq, zc_ne, zc_lt0, zc_ge0, zc_gt0, zc_eq0, zc_ne0, zb_ne, zb_eq, zb_01, z_00, z_01, z_11, zb_f, zb_T, zb_F, zbm1, zbm2, zbm5, zbm6, zbm3, zbm4, nI_clamp, zmod_n, pk_div, nI_ne0, pk_mul, nI_add, nI_1, nI_or, nI_shl1, nI_bit, zb_eq1]
theorem zim_s {f : Nat → Nat} {p : Nat → Bool} {n : Nat} : zim f p (n + 1) = zim f p n ||| (bif p n then 2 ^ f n else 0) := rfl
theorem zim_le {f : Nat → Nat} {p : Nat → Bool} {m : Nat} {n j : Nat} (hj : j ≤ n) (h : ∀ i, i < n → f i < m) : zim f p j < 2 ^ m := zim_lt (fun i hi _ => h i (by omega))
theorem qP_fromLeft {M : zM} {k n x s : Nat} {c : tC} (hk : ztb k) (h : kT M k n c) (h8 : n ≤ 8) (hf : tF n c) (hx : x < n) (hs : s < 2 ^ 31) : zf_Parts_fromLeft [.ref k, .int (nI x), .int (nI s)] M = some (some (nI (tL n c x s)), M) := by
  have hp := p8 h8
  have R := zwh_up (c := zc_Parts_fromLeft_1) (s := zs_Parts_fromLeft_1) (fun j => [some (Value.ref (k)), some (Value.int (nI x)), some (Value.int (nI s)), some (Value.int (nI (zim (fun b => c x b) (fun b => s.testBit b) j))), some (Value.int (nI j))]) (fun _ => M) (n := n) n 0 (by omega) ?_ ?_ ?_
  · have e0 : zim (fun b => c x b) (fun b => s.testBit b) 0 = 0 := rfl
    rw [e0] at R
    simp (disch := omega) [zf_Parts_fromLeft, zmeth, xm_en, zret, zretz, zretv, zseq, zst, zinc, zkl, zskip, zk, zi, za, zbin, zdiv, zrem, zgi, zgr, zld, zldr, zlen, zn, zc, zcall, zcallv, zrcv, zdo, zdov, zpf, zpfc, zas, zasc, zmin, zmax, zcmp, zcz, zand_e, zor_e, zite_e, zbite_e, zif_e, znot_e, z_add, z_sub, z_mul, z_and, z_or, z_xor, z_shl, z_shr, zcpy, -List.getElem?_cons_succ, zg_0, zg_1, zg_2, zg_3, zg_4, zg_5, zg_6, zg_7, zg_8, zg_9, R, tL]
  · intro j _ h2
    simp (disch := omega) [zc_Parts_fromLeft_1, zmeth, xm_en, zret, zretz, zretv, zseq, zst, zinc, zkl, zskip, zk, zi, za, zbin, zdiv, zrem, zgi, zgr, zld, zldr, zlen, zn, zc, zcall, zcallv, zrcv, zdo, zdov, zpf, zpfc, zas, zasc, zmin, zmax, zcmp, zcz, zand_e, zor_e, zite_e, zbite_e, zif_e, znot_e, z_add, z_sub, z_mul, z_and, z_or, z_xor, z_shl, z_shr, zcpy, -List.getElem?_cons_succ, zg_0, zg_1, zg_2, zg_3, zg_4, zg_5, zg_6, zg_7, zg_8, zg_9, zc_lt, zc_le, zc_gt, zc_ge, zc_eq, zc_ne, zc_lt0, zc_ge0, zc_gt0, zc_eq0, zc_ne0, zb_ne, zb_eq, zb_01, z_00, z_01, z_11, zb_f, zb_T, zb_F, zbm1, zbm2, zbm5, zbm6, zbm3, zbm4, nI_clamp, zmod_n, pk_div, nI_ne0, pk_mul, nI_add, nI_1, ztb_tag hk, h.1, h2]
  · intro j _ h2
    have hm := qT_mul hk h h8 hf hx h2
    have hl := hf x j hx h2
    have hh := qP_has (M := M) hs (show j < 32 by omega)
    cases hb : s.testBit j with
    | false =>
      rw [hb] at hh
      simp (disch := omega) [zs_Parts_fromLeft_1, zmeth, xm_en, zret, zretz, zretv, zseq, zst, zinc, zkl, zskip, zk, zi, za, zbin, zdiv, zrem, zgi, zgr, zld, zldr, zlen, zn, zc, zcall, zcallv, zrcv, zdo, zdov, zpf, zpfc, zas, zasc, zmin, zmax, zcmp, zcz, zand_e, zor_e, zite_e, zbite_e, zif_e, znot_e, z_add, z_sub, z_mul, z_and, z_or, z_xor, z_shl, z_shr, zcpy, -List.getElem?_cons_succ, zg_0, zg_1, zg_2, zg_3, zg_4, zg_5, zg_6, zg_7, zg_8, zg_9, zc_lt, zc_le, zc_gt, zc_ge, zc_eq, zc_ne, zc_lt0, zc_ge0, zc_gt0, zc_eq0, zc_ne0, zb_ne, zb_eq, zb_01, z_00, z_01, z_11, zb_f, zb_T, zb_F, zbm1, zbm2, zbm5, zbm6, zbm3, zbm4, nI_clamp, zmod_n, pk_div, nI_ne0, pk_mul, nI_add, nI_1, hh, zim_s, hb]
    | true =>
      rw [hb] at hh
      simp (disch := omega) [zs_Parts_fromLeft_1, zmeth, xm_en, zret, zretz, zretv, zseq, zst, zinc, zkl, zskip, zk, zi, za, zbin, zdiv, zrem, zgi, zgr, zld, zldr, zlen, zn, zc, zcall, zcallv, zrcv, zdo, zdov, zpf, zpfc, zas, zasc, zmin, zmax, zcmp, zcz, zand_e, zor_e, zite_e, zbite_e, zif_e, znot_e, z_add, z_sub, z_mul, z_and, z_or, z_xor, z_shl, z_shr, zcpy, -List.getElem?_cons_succ, zg_0, zg_1, zg_2, zg_3, zg_4, zg_5, zg_6, zg_7, zg_8, zg_9, zc_lt, zc_le, zc_gt, zc_ge, zc_eq, zc_ne, zc_lt0, zc_ge0, zc_gt0, zc_eq0, zc_ne0, zb_ne, zb_eq, zb_01, z_00, z_01, z_11, zb_f, zb_T, zb_F, zbm1, zbm2, zbm5, zbm6, zbm3, zbm4, nI_clamp, zmod_n, pk_div, nI_ne0, pk_mul, nI_add, nI_1, nI_or, nI_shl1, nI_bit, zb_eq1, ztb_tag hk, hh, hm, zim_s, hb]
  · simp (disch := omega) [zc_Parts_fromLeft_1, zmeth, xm_en, zret, zretz, zretv, zseq, zst, zinc, zkl, zskip, zk, zi, za, zbin, zdiv, zrem, zgi, zgr, zld, zldr, zlen, zn, zc, zcall, zcallv, zrcv, zdo, zdov, zpf, zpfc, zas, zasc, zmin, zmax, zcmp, zcz, zand_e, zor_e, zite_e, zbite_e, zif_e, znot_e, z_add, z_sub, z_mul, z_and, z_or, z_xor, z_shl, z_shr, zcpy, -List.getElem?_cons_succ, zg_0, zg_1, zg_2, zg_3, zg_4, zg_5, zg_6, zg_7, zg_8, zg_9, zc_lt, zc_le, zc_gt, zc_ge, zc_eq, zc_ne, zc_lt0, zc_ge0, zc_gt0, zc_eq0, zc_ne0, zb_ne, zb_eq, zb_01, z_00, z_01, z_11, zb_f, zb_T, zb_F, zbm1, zbm2, zbm5, zbm6, zbm3, zbm4, nI_clamp, zmod_n, pk_div, nI_ne0, pk_mul, nI_add, nI_1, ztb_tag hk, h.1]
theorem qP_fromRight {M : zM} {k n x s : Nat} {c : tC} (hk : ztb k) (h : kT M k n c) (h8 : n ≤ 8) (hf : tF n c) (hx : x < n) (hs : s < 2 ^ 31) : zf_Parts_fromRight [.ref k, .int (nI s), .int (nI x)] M = some (some (nI (tRt n c s x)), M) := by
  have hp := p8 h8
  have R := zwh_up (c := zc_Parts_fromRight_1) (s := zs_Parts_fromRight_1) (fun j => [some (Value.ref (k)), some (Value.int (nI s)), some (Value.int (nI x)), some (Value.int (nI (zim (fun a => c a x) (fun b => s.testBit b) j))), some (Value.int (nI j))]) (fun _ => M) (n := n) n 0 (by omega) ?_ ?_ ?_
  · have e0 : zim (fun a => c a x) (fun b => s.testBit b) 0 = 0 := rfl
    rw [e0] at R
    simp (disch := omega) [zf_Parts_fromRight, zmeth, xm_en, zret, zretz, zretv, zseq, zst, zinc, zkl, zskip, zk, zi, za, zbin, zdiv, zrem, zgi, zgr, zld, zldr, zlen, zn, zc, zcall, zcallv, zrcv, zdo, zdov, zpf, zpfc, zas, zasc, zmin, zmax, zcmp, zcz, zand_e, zor_e, zite_e, zbite_e, zif_e, znot_e, z_add, z_sub, z_mul, z_and, z_or, z_xor, z_shl, z_shr, zcpy, -List.getElem?_cons_succ, zg_0, zg_1, zg_2, zg_3, zg_4, zg_5, zg_6, zg_7, zg_8, zg_9, R, tRt]
  · intro j _ h2
    simp (disch := omega) [zc_Parts_fromRight_1, zmeth, xm_en, zret, zretz, zretv, zseq, zst, zinc, zkl, zskip, zk, zi, za, zbin, zdiv, zrem, zgi, zgr, zld, zldr, zlen, zn, zc, zcall, zcallv, zrcv, zdo, zdov, zpf, zpfc, zas, zasc, zmin, zmax, zcmp, zcz, zand_e, zor_e, zite_e, zbite_e, zif_e, znot_e, z_add, z_sub, z_mul, z_and, z_or, z_xor, z_shl, z_shr, zcpy, -List.getElem?_cons_succ, zg_0, zg_1, zg_2, zg_3, zg_4, zg_5, zg_6, zg_7, zg_8, zg_9, zc_lt, zc_le, zc_gt, zc_ge, zc_eq, zc_ne, zc_lt0, zc_ge0, zc_gt0, zc_eq0, zc_ne0, zb_ne, zb_eq, zb_01, z_00, z_01, z_11, zb_f, zb_T, zb_F, zbm1, zbm2, zbm5, zbm6, zbm3, zbm4, nI_clamp, zmod_n, pk_div, nI_ne0, pk_mul, nI_add, nI_1, ztb_tag hk, h.1, h2]
  · intro j _ h2
    have hm := qT_mul hk h h8 hf h2 hx
    have hl := hf j x h2 hx
    have hh := qP_has (M := M) hs (show j < 32 by omega)
    cases hb : s.testBit j with
    | false =>
      rw [hb] at hh
      simp (disch := omega) [zs_Parts_fromRight_1, zmeth, xm_en, zret, zretz, zretv, zseq, zst, zinc, zkl, zskip, zk, zi, za, zbin, zdiv, zrem, zgi, zgr, zld, zldr, zlen, zn, zc, zcall, zcallv, zrcv, zdo, zdov, zpf, zpfc, zas, zasc, zmin, zmax, zcmp, zcz, zand_e, zor_e, zite_e, zbite_e, zif_e, znot_e, z_add, z_sub, z_mul, z_and, z_or, z_xor, z_shl, z_shr, zcpy, -List.getElem?_cons_succ, zg_0, zg_1, zg_2, zg_3, zg_4, zg_5, zg_6, zg_7, zg_8, zg_9, zc_lt, zc_le, zc_gt, zc_ge, zc_eq, zc_ne, zc_lt0, zc_ge0, zc_gt0, zc_eq0, zc_ne0, zb_ne, zb_eq, zb_01, z_00, z_01, z_11, zb_f, zb_T, zb_F, zbm1, zbm2, zbm5, zbm6, zbm3, zbm4, nI_clamp, zmod_n, pk_div, nI_ne0, pk_mul, nI_add, nI_1, hh, zim_s, hb]
    | true =>
      rw [hb] at hh
      simp (disch := omega) [zs_Parts_fromRight_1, zmeth, xm_en, zret, zretz, zretv, zseq, zst, zinc, zkl, zskip, zk, zi, za, zbin, zdiv, zrem, zgi, zgr, zld, zldr, zlen, zn, zc, zcall, zcallv, zrcv, zdo, zdov, zpf, zpfc, zas, zasc, zmin, zmax, zcmp, zcz, zand_e, zor_e, zite_e, zbite_e, zif_e, znot_e, z_add, z_sub, z_mul, z_and, z_or, z_xor, z_shl, z_shr, zcpy, -List.getElem?_cons_succ, zg_0, zg_1, zg_2, zg_3, zg_4, zg_5, zg_6, zg_7, zg_8, zg_9, zc_lt, zc_le, zc_gt, zc_ge, zc_eq, zc_ne, zc_lt0, zc_ge0, zc_gt0, zc_eq0, zc_ne0, zb_ne, zb_eq, zb_01, z_00, z_01, z_11, zb_f, zb_T, zb_F, zbm1, zbm2, zbm5, zbm6, zbm3, zbm4, nI_clamp, zmod_n, pk_div, nI_ne0, pk_mul, nI_add, nI_1, nI_or, nI_shl1, nI_bit, zb_eq1, ztb_tag hk, hh, hm, zim_s, hb]
  · simp (disch := omega) [zc_Parts_fromRight_1, zmeth, xm_en, zret, zretz, zretv, zseq, zst, zinc, zkl, zskip, zk, zi, za, zbin, zdiv, zrem, zgi, zgr, zld, zldr, zlen, zn, zc, zcall, zcallv, zrcv, zdo, zdov, zpf, zpfc, zas, zasc, zmin, zmax, zcmp, zcz, zand_e, zor_e, zite_e, zbite_e, zif_e, znot_e, z_add, z_sub, z_mul, z_and, z_or, z_xor, z_shl, z_shr, zcpy, -List.getElem?_cons_succ, zg_0, zg_1, zg_2, zg_3, zg_4, zg_5, zg_6, zg_7, zg_8, zg_9, zc_lt, zc_le, zc_gt, zc_ge, zc_eq, zc_ne, zc_lt0, zc_ge0, zc_gt0, zc_eq0, zc_ne0, zb_ne, zb_eq, zb_01, z_00, z_01, z_11, zb_f, zb_T, zb_F, zbm1, zbm2, zbm5, zbm6, zbm3, zbm4, nI_clamp, zmod_n, pk_div, nI_ne0, pk_mul, nI_add, nI_1, ztb_tag hk, h.1]
theorem qM_timesL {M : zM} {t n x s : Nat} {c : tC} (ht : t < 6) (h : rT M t n c) (h8 : n ≤ 8) (hf : tF n c) (hx : x < n) (hs : s < 2 ^ 31) : zf_M_times [.ref 32, .int (nI t), .int (nI x), .int (nI s), .int (nI 1)] M = some (some (nI (tL n c x s)), M) := by
  have hp := p8 h8
  have R := zwh_up (c := zc_M_times_1) (s := zs_M_times_1) (fun j => [some (Value.ref (32)), some (Value.int (nI t)), some (Value.int (nI x)), some (Value.int (nI s)), some (Value.int (nI 1)), some (Value.int (nI (zim (fun b => c x b) (fun b => s.testBit b) j))), some (Value.int (nI j))]) (fun _ => M) (n := n) n 0 (by omega) ?_ ?_ ?_
  · have e0 : zim (fun b => c x b) (fun b => s.testBit b) 0 = 0 := rfl
    rw [e0] at R
    simp (disch := omega) [zf_M_times, zmeth, xm_en, zret, zretz, zretv, zseq, zst, zinc, zkl, zskip, zk, zi, za, zbin, zdiv, zrem, zgi, zgr, zld, zldr, zlen, zn, zc, zcall, zcallv, zrcv, zdo, zdov, zpf, zpfc, zas, zasc, zmin, zmax, zcmp, zcz, zand_e, zor_e, zite_e, zbite_e, zif_e, znot_e, z_add, z_sub, z_mul, z_and, z_or, z_xor, z_shl, z_shr, zcpy, -List.getElem?_cons_succ, zg_0, zg_1, zg_2, zg_3, zg_4, zg_5, zg_6, zg_7, zg_8, zg_9, R, tL]
  · intro j _ h2
    simp (disch := omega) [zc_M_times_1, zmeth, xm_en, zret, zretz, zretv, zseq, zst, zinc, zkl, zskip, zk, zi, za, zbin, zdiv, zrem, zgi, zgr, zld, zldr, zlen, zn, zc, zcall, zcallv, zrcv, zdo, zdov, zpf, zpfc, zas, zasc, zmin, zmax, zcmp, zcz, zand_e, zor_e, zite_e, zbite_e, zif_e, znot_e, z_add, z_sub, z_mul, z_and, z_or, z_xor, z_shl, z_shr, zcpy, -List.getElem?_cons_succ, zg_0, zg_1, zg_2, zg_3, zg_4, zg_5, zg_6, zg_7, zg_8, zg_9, zc_lt, zc_le, zc_gt, zc_ge, zc_eq, zc_ne, zc_lt0, zc_ge0, zc_gt0, zc_eq0, zc_ne0, zb_ne, zb_eq, zb_01, z_00, z_01, z_11, zb_f, zb_T, zb_F, zbm1, zbm2, zbm5, zbm6, zbm3, zbm4, nI_clamp, zmod_n, pk_div, nI_ne0, pk_mul, nI_add, nI_1, zt_0, zt_12, zt_20, zt_26, zt_32, zf_0_0, zf_0_1, zf_0_2, zf_0_3, zf_0_4, zf_12_0, zf_12_1, zf_12_2, zf_12_4, zf_12_5, zf_20_1, zf_20_2, zf_20_3, zf_20_4, zf_20_6, zf_26_0, zf_26_1, zf_26_2, zf_26_3, zf_32_0, zf_32_1, zf_32_3, zf_32_4, zf_32_5, zf_32_6, zi_33, h.1, h2]
  · intro j _ h2
    have hm := qM_mul ht h h8 hf hx h2
    have hl := hf x j hx h2
    have hh := qM_has (M := M) hs (show j < 32 by omega)
    cases hb : s.testBit j with
    | false =>
      rw [hb] at hh
      simp (disch := omega) [zs_M_times_1, zmeth, xm_en, zret, zretz, zretv, zseq, zst, zinc, zkl, zskip, zk, zi, za, zbin, zdiv, zrem, zgi, zgr, zld, zldr, zlen, zn, zc, zcall, zcallv, zrcv, zdo, zdov, zpf, zpfc, zas, zasc, zmin, zmax, zcmp, zcz, zand_e, zor_e, zite_e, zbite_e, zif_e, znot_e, z_add, z_sub, z_mul, z_and, z_or, z_xor, z_shl, z_shr, zcpy, -List.getElem?_cons_succ, zg_0, zg_1, zg_2, zg_3, zg_4, zg_5, zg_6, zg_7, zg_8, zg_9, zc_lt, zc_le, zc_gt, zc_ge, zc_eq, zc_ne, zc_lt0, zc_ge0, zc_gt0, zc_eq0, zc_ne0, zb_ne, zb_eq, zb_01, z_00, z_01, z_11, zb_f, zb_T, zb_F, zbm1, zbm2, zbm5, zbm6, zbm3, zbm4, nI_clamp, zmod_n, pk_div, nI_ne0, pk_mul, nI_add, nI_1, nI_or, nI_shl1, nI_bit, zb_eq1, hh, zim_s, hb]
    | true =>
      rw [hb] at hh
      simp (disch := omega) [zs_M_times_1, zmeth, xm_en, zret, zretz, zretv, zseq, zst, zinc, zkl, zskip, zk, zi, za, zbin, zdiv, zrem, zgi, zgr, zld, zldr, zlen, zn, zc, zcall, zcallv, zrcv, zdo, zdov, zpf, zpfc, zas, zasc, zmin, zmax, zcmp, zcz, zand_e, zor_e, zite_e, zbite_e, zif_e, znot_e, z_add, z_sub, z_mul, z_and, z_or, z_xor, z_shl, z_shr, zcpy, -List.getElem?_cons_succ, zg_0, zg_1, zg_2, zg_3, zg_4, zg_5, zg_6, zg_7, zg_8, zg_9, zc_lt, zc_le, zc_gt, zc_ge, zc_eq, zc_ne, zc_lt0, zc_ge0, zc_gt0, zc_eq0, zc_ne0, zb_ne, zb_eq, zb_01, z_00, z_01, z_11, zb_f, zb_T, zb_F, zbm1, zbm2, zbm5, zbm6, zbm3, zbm4, nI_clamp, zmod_n, pk_div, nI_ne0, pk_mul, nI_add, nI_1, nI_or, nI_shl1, nI_bit, zb_eq1, zt_0, zt_12, zt_20, zt_26, zt_32, zf_0_0, zf_0_1, zf_0_2, zf_0_3, zf_0_4, zf_12_0, zf_12_1, zf_12_2, zf_12_4, zf_12_5, zf_20_1, zf_20_2, zf_20_3, zf_20_4, zf_20_6, zf_26_0, zf_26_1, zf_26_2, zf_26_3, zf_32_0, zf_32_1, zf_32_3, zf_32_4, zf_32_5, zf_32_6, hh, hm, zim_s, hb]
  · simp (disch := omega) [zc_M_times_1, zmeth, xm_en, zret, zretz, zretv, zseq, zst, zinc, zkl, zskip, zk, zi, za, zbin, zdiv, zrem, zgi, zgr, zld, zldr, zlen, zn, zc, zcall, zcallv, zrcv, zdo, zdov, zpf, zpfc, zas, zasc, zmin, zmax, zcmp, zcz, zand_e, zor_e, zite_e, zbite_e, zif_e, znot_e, z_add, z_sub, z_mul, z_and, z_or, z_xor, z_shl, z_shr, zcpy, -List.getElem?_cons_succ, zg_0, zg_1, zg_2, zg_3, zg_4, zg_5, zg_6, zg_7, zg_8, zg_9, zc_lt, zc_le, zc_gt, zc_ge, zc_eq, zc_ne, zc_lt0, zc_ge0, zc_gt0, zc_eq0, zc_ne0, zb_ne, zb_eq, zb_01, z_00, z_01, z_11, zb_f, zb_T, zb_F, zbm1, zbm2, zbm5, zbm6, zbm3, zbm4, nI_clamp, zmod_n, pk_div, nI_ne0, pk_mul, nI_add, nI_1, zt_0, zt_12, zt_20, zt_26, zt_32, zf_0_0, zf_0_1, zf_0_2, zf_0_3, zf_0_4, zf_12_0, zf_12_1, zf_12_2, zf_12_4, zf_12_5, zf_20_1, zf_20_2, zf_20_3, zf_20_4, zf_20_6, zf_26_0, zf_26_1, zf_26_2, zf_26_3, zf_32_0, zf_32_1, zf_32_3, zf_32_4, zf_32_5, zf_32_6, zi_33, h.1]
theorem qM_timesR {M : zM} {t n x s : Nat} {c : tC} (ht : t < 6) (h : rT M t n c) (h8 : n ≤ 8) (hf : tF n c) (hx : x < n) (hs : s < 2 ^ 31) : zf_M_times [.ref 32, .int (nI t), .int (nI x), .int (nI s), .int (nI 0)] M = some (some (nI (tRt n c s x)), M) := by
  have hp := p8 h8
  have R := zwh_up (c := zc_M_times_1) (s := zs_M_times_1) (fun j => [some (Value.ref (32)), some (Value.int (nI t)), some (Value.int (nI x)), some (Value.int (nI s)), some (Value.int (nI 0)), some (Value.int (nI (zim (fun a => c a x) (fun b => s.testBit b) j))), some (Value.int (nI j))]) (fun _ => M) (n := n) n 0 (by omega) ?_ ?_ ?_
  · have e0 : zim (fun a => c a x) (fun b => s.testBit b) 0 = 0 := rfl
    rw [e0] at R
    simp (disch := omega) [zf_M_times, zmeth, xm_en, zret, zretz, zretv, zseq, zst, zinc, zkl, zskip, zk, zi, za, zbin, zdiv, zrem, zgi, zgr, zld, zldr, zlen, zn, zc, zcall, zcallv, zrcv, zdo, zdov, zpf, zpfc, zas, zasc, zmin, zmax, zcmp, zcz, zand_e, zor_e, zite_e, zbite_e, zif_e, znot_e, z_add, z_sub, z_mul, z_and, z_or, z_xor, z_shl, z_shr, zcpy, -List.getElem?_cons_succ, zg_0, zg_1, zg_2, zg_3, zg_4, zg_5, zg_6, zg_7, zg_8, zg_9, R, tRt]
  · intro j _ h2
    simp (disch := omega) [zc_M_times_1, zmeth, xm_en, zret, zretz, zretv, zseq, zst, zinc, zkl, zskip, zk, zi, za, zbin, zdiv, zrem, zgi, zgr, zld, zldr, zlen, zn, zc, zcall, zcallv, zrcv, zdo, zdov, zpf, zpfc, zas, zasc, zmin, zmax, zcmp, zcz, zand_e, zor_e, zite_e, zbite_e, zif_e, znot_e, z_add, z_sub, z_mul, z_and, z_or, z_xor, z_shl, z_shr, zcpy, -List.getElem?_cons_succ, zg_0, zg_1, zg_2, zg_3, zg_4, zg_5, zg_6, zg_7, zg_8, zg_9, zc_lt, zc_le, zc_gt, zc_ge, zc_eq, zc_ne, zc_lt0, zc_ge0, zc_gt0, zc_eq0, zc_ne0, zb_ne, zb_eq, zb_01, z_00, z_01, z_11, zb_f, zb_T, zb_F, zbm1, zbm2, zbm5, zbm6, zbm3, zbm4, nI_clamp, zmod_n, pk_div, nI_ne0, pk_mul, nI_add, nI_1, zt_0, zt_12, zt_20, zt_26, zt_32, zf_0_0, zf_0_1, zf_0_2, zf_0_3, zf_0_4, zf_12_0, zf_12_1, zf_12_2, zf_12_4, zf_12_5, zf_20_1, zf_20_2, zf_20_3, zf_20_4, zf_20_6, zf_26_0, zf_26_1, zf_26_2, zf_26_3, zf_32_0, zf_32_1, zf_32_3, zf_32_4, zf_32_5, zf_32_6, zi_33, h.1, h2]
  · intro j _ h2
    have hm := qM_mul ht h h8 hf h2 hx
    have hl := hf j x h2 hx
    have hh := qM_has (M := M) hs (show j < 32 by omega)
    cases hb : s.testBit j with
    | false =>
      rw [hb] at hh
      simp (disch := omega) [zs_M_times_1, zmeth, xm_en, zret, zretz, zretv, zseq, zst, zinc, zkl, zskip, zk, zi, za, zbin, zdiv, zrem, zgi, zgr, zld, zldr, zlen, zn, zc, zcall, zcallv, zrcv, zdo, zdov, zpf, zpfc, zas, zasc, zmin, zmax, zcmp, zcz, zand_e, zor_e, zite_e, zbite_e, zif_e, znot_e, z_add, z_sub, z_mul, z_and, z_or, z_xor, z_shl, z_shr, zcpy, -List.getElem?_cons_succ, zg_0, zg_1, zg_2, zg_3, zg_4, zg_5, zg_6, zg_7, zg_8, zg_9, zc_lt, zc_le, zc_gt, zc_ge, zc_eq, zc_ne, zc_lt0, zc_ge0, zc_gt0, zc_eq0, zc_ne0, zb_ne, zb_eq, zb_01, z_00, z_01, z_11, zb_f, zb_T, zb_F, zbm1, zbm2, zbm5, zbm6, zbm3, zbm4, nI_clamp, zmod_n, pk_div, nI_ne0, pk_mul, nI_add, nI_1, nI_or, nI_shl1, nI_bit, zb_eq1, hh, zim_s, hb]
    | true =>
      rw [hb] at hh
      simp (disch := omega) [zs_M_times_1, zmeth, xm_en, zret, zretz, zretv, zseq, zst, zinc, zkl, zskip, zk, zi, za, zbin, zdiv, zrem, zgi, zgr, zld, zldr, zlen, zn, zc, zcall, zcallv, zrcv, zdo, zdov, zpf, zpfc, zas, zasc, zmin, zmax, zcmp, zcz, zand_e, zor_e, zite_e, zbite_e, zif_e, znot_e, z_add, z_sub, z_mul, z_and, z_or, z_xor, z_shl, z_shr, zcpy, -List.getElem?_cons_succ, zg_0, zg_1, zg_2, zg_3, zg_4, zg_5, zg_6, zg_7, zg_8, zg_9, zc_lt, zc_le, zc_gt, zc_ge, zc_eq, zc_ne, zc_lt0, zc_ge0, zc_gt0, zc_eq0, zc_ne0, zb_ne, zb_eq, zb_01, z_00, z_01, z_11, zb_f, zb_T, zb_F, zbm1, zbm2, zbm5, zbm6, zbm3, zbm4, nI_clamp, zmod_n, pk_div, nI_ne0, pk_mul, nI_add, nI_1, nI_or, nI_shl1, nI_bit, zb_eq1, zt_0, zt_12, zt_20, zt_26, zt_32, zf_0_0, zf_0_1, zf_0_2, zf_0_3, zf_0_4, zf_12_0, zf_12_1, zf_12_2, zf_12_4, zf_12_5, zf_20_1, zf_20_2, zf_20_3, zf_20_4, zf_20_6, zf_26_0, zf_26_1, zf_26_2, zf_26_3, zf_32_0, zf_32_1, zf_32_3, zf_32_4, zf_32_5, zf_32_6, hh, hm, zim_s, hb]
  · simp (disch := omega) [zc_M_times_1, zmeth, xm_en, zret, zretz, zretv, zseq, zst, zinc, zkl, zskip, zk, zi, za, zbin, zdiv, zrem, zgi, zgr, zld, zldr, zlen, zn, zc, zcall, zcallv, zrcv, zdo, zdov, zpf, zpfc, zas, zasc, zmin, zmax, zcmp, zcz, zand_e, zor_e, zite_e, zbite_e, zif_e, znot_e, z_add, z_sub, z_mul, z_and, z_or, z_xor, z_shl, z_shr, zcpy, -List.getElem?_cons_succ, zg_0, zg_1, zg_2, zg_3, zg_4, zg_5, zg_6, zg_7, zg_8, zg_9, zc_lt, zc_le, zc_gt, zc_ge, zc_eq, zc_ne, zc_lt0, zc_ge0, zc_gt0, zc_eq0, zc_ne0, zb_ne, zb_eq, zb_01, z_00, z_01, z_11, zb_f, zb_T, zb_F, zbm1, zbm2, zbm5, zbm6, zbm3, zbm4, nI_clamp, zmod_n, pk_div, nI_ne0, pk_mul, nI_add, nI_1, zt_0, zt_12, zt_20, zt_26, zt_32, zf_0_0, zf_0_1, zf_0_2, zf_0_3, zf_0_4, zf_12_0, zf_12_1, zf_12_2, zf_12_4, zf_12_5, zf_20_1, zf_20_2, zf_20_3, zf_20_4, zf_20_6, zf_26_0, zf_26_1, zf_26_2, zf_26_3, zf_32_0, zf_32_1, zf_32_3, zf_32_4, zf_32_5, zf_32_6, zi_33, h.1]
theorem zwh_finde {c : zB} {s : zS} (L : Nat → zL) (N : zM) (p : Nat → Bool) (v : Nat → Option Int32) {n : Nat} (he : c (L n) N = some (false, N)) : ∀ (d i : Nat), i + d = n → (∀ j, i ≤ j → j < n → c (L j) N = some (true, N)) → (∀ j, i ≤ j → j < n → p j = false → s (L j) N = some (none, L (j + 1), N)) → (∀ j, i ≤ j → j < n → p j = true → ∃ ls', s (L j) N = some (some (v j), ls', N)) → ∃ ls', zwh c s (L i) N = if zidx p i d < n then some (some (v (zidx p i d)), ls', N) else some (none, L n, N)
  | 0, i, h, _, _, _ => by
    have : i = n := by omega
    subst this
    refine ⟨[], ?_⟩
    rw [if_neg (by unfold zidx; omega)]
    exact zwh_f he
  | d + 1, i, h, hc, hs, hr => by
    unfold zidx
    cases hp : p i with
    | true =>
      obtain ⟨ls', g⟩ := hr i (Nat.le_refl _) (by omega) hp
      refine ⟨ls', ?_⟩
      dsimp only [cond]
      rw [if_pos (by omega)]
      exact zwh_r (hc i (Nat.le_refl _) (by omega)) g
    | false =>
      obtain ⟨ls', ih⟩ := zwh_finde L N p v he d (i + 1) (by omega) (fun j h1 h2 => hc j (by omega) h2) (fun j h1 h2 => hs j (by omega) h2) (fun j h1 h2 => hr j (by omega) h2)
      refine ⟨ls', ?_⟩
      dsimp only [cond]
      split at ih
      · rename_i h9
        rw [if_pos h9]
        exact zwh_t (hc i (Nat.le_refl _) (by omega)) (hs i (Nat.le_refl _) (by omega) hp) ih
      · rename_i h9
        rw [if_neg h9]
        exact zwh_t (hc i (Nat.le_refl _) (by omega)) (hs i (Nat.le_refl _) (by omega) hp) ih
/-! normal -/
def nm2 (n : Nat) (c : tC) (h x y : Nat) : Bool := decide (tL n c x (tL n c y h) = tL n c (c x y) h) && decide (tRt n c (tRt n c h x) y = tRt n c h (c x y))
def nm1 (n : Nat) (c : tC) (h x : Nat) : Bool := decide (tL n c x h = tRt n c h x) && zall (nm2 n c h x) n
def tNm (n : Nat) (c : tC) (h : Nat) : Bool := zall (nm1 n c h) n
theorem zall_idx {p : Nat → Bool} {n : Nat} : zall p n = !decide (zidx (fun i => !p i) 0 n < n) := by
  rw [Bool.eq_iff_iff, zall_t]
  simp only [Bool.not_eq_true', decide_eq_false_iff_not]
  constructor
  · intro h g
    have := zidx_lt (p := fun i => !p i) n 0 (by omega)
    rw [h _ g] at this
    cases this
  · intro h i hi
    have := zidx_no (p := fun i => !p i) n 0 i (by omega) (by omega)
    simpa using this
theorem qP_nm2 {M : zM} {k n x s : Nat} {c : tC} (hk : ztb k) (h : kT M k n c) (h8 : n ≤ 8) (hf : tF n c) (hx : x < n) (hs : s < 2 ^ 31) : ∃ ls', zwh zc_Parts_isNormal_2 zs_Parts_isNormal_2 [some (Value.ref (k)), some (Value.int (nI s)), some (Value.int (nI x)), some (Value.int (nI 0)), none] M = if zidx (fun y => !nm2 n c s x y) 0 n < n then some (some (some (nI 0)), ls', M) else some (none, [some (Value.ref (k)), some (Value.int (nI s)), some (Value.int (nI x)), some (Value.int (nI n)), none], M) := by
  have hp := p8 h8
  refine ⟨_, zwh_find (c := zc_Parts_isNormal_2) (s := zs_Parts_isNormal_2) (fun j => [some (Value.ref (k)), some (Value.int (nI s)), some (Value.int (nI x)), some (Value.int (nI j)), none]) M (fun y => !nm2 n c s x y) (fun _ => some (nI 0)) (fun j => [some (Value.ref (k)), some (Value.int (nI s)), some (Value.int (nI x)), some (Value.int (nI j)), some (Value.int (nI (c x j)))]) (n := n) ?_ n 0 (by omega) ?_ ?_ ?_⟩
  · simp (disch := omega) [zc_Parts_isNormal_2, zmeth, xm_en, zret, zretz, zretv, zseq, zst, zinc, zkl, zskip, zk, zi, za, zbin, zdiv, zrem, zgi, zgr, zld, zldr, zlen, zn, zc, zcall, zcallv, zrcv, zdo, zdov, zpf, zpfc, zas, zasc, zmin, zmax, zcmp, zcz, zand_e, zor_e, zite_e, zbite_e, zif_e, znot_e, z_add, z_sub, z_mul, z_and, z_or, z_xor, z_shl, z_shr, zcpy, -List.getElem?_cons_succ, zg_0, zg_1, zg_2, zg_3, zg_4, zg_5, zg_6, zg_7, zg_8, zg_9, zc_lt, zc_le, zc_gt, zc_ge, zc_eq, zc_ne, zc_lt0, zc_ge0, zc_gt0, zc_eq0, zc_ne0, zb_ne, zb_eq, zb_01, z_00, z_01, z_11, zb_f, zb_T, zb_F, zbm1, zbm2, zbm5, zbm6, zbm3, zbm4, nI_clamp, zmod_n, pk_div, nI_ne0, pk_mul, nI_add, nI_1, ztb_tag hk, h.1]
  · intro j _ h2
    simp (disch := omega) [zc_Parts_isNormal_2, zmeth, xm_en, zret, zretz, zretv, zseq, zst, zinc, zkl, zskip, zk, zi, za, zbin, zdiv, zrem, zgi, zgr, zld, zldr, zlen, zn, zc, zcall, zcallv, zrcv, zdo, zdov, zpf, zpfc, zas, zasc, zmin, zmax, zcmp, zcz, zand_e, zor_e, zite_e, zbite_e, zif_e, znot_e, z_add, z_sub, z_mul, z_and, z_or, z_xor, z_shl, z_shr, zcpy, -List.getElem?_cons_succ, zg_0, zg_1, zg_2, zg_3, zg_4, zg_5, zg_6, zg_7, zg_8, zg_9, zc_lt, zc_le, zc_gt, zc_ge, zc_eq, zc_ne, zc_lt0, zc_ge0, zc_gt0, zc_eq0, zc_ne0, zb_ne, zb_eq, zb_01, z_00, z_01, z_11, zb_f, zb_T, zb_F, zbm1, zbm2, zbm5, zbm6, zbm3, zbm4, nI_clamp, zmod_n, pk_div, nI_ne0, pk_mul, nI_add, nI_1, ztb_tag hk, h.1, h2]
  all_goals
    intro j _ h2 hq
    have hxy := hf x j hx h2
    have l1 := tL_lt (s := s) hf h2
    have l2 := tL_lt (s := tL n c j s) hf hx
    have l3 := tL_lt (s := s) hf hxy
    have r1 := tRt_lt (s := s) hf hx
    have r2 := tRt_lt (s := tRt n c s x) hf h2
    have r3 := tRt_lt (s := s) hf hxy
    have m0 := qT_mul hk h h8 hf hx h2
    have a1 := qP_fromLeft hk h h8 hf h2 hs
    have a2 := qP_fromLeft (s := tL n c j s) hk h h8 hf hx (by omega)
    have a3 := qP_fromLeft hk h h8 hf hxy hs
    have b1 := qP_fromRight hk h h8 hf hx hs
    have b2 := qP_fromRight (s := tRt n c s x) hk h h8 hf h2 (by omega)
    have b3 := qP_fromRight hk h h8 hf hxy hs
  · simp only [nm2, Bool.not_eq_false', Bool.and_eq_true, decide_eq_true_eq] at hq
    simp (disch := omega) [zs_Parts_isNormal_2, zmeth, xm_en, zret, zretz, zretv, zseq, zst, zinc, zkl, zskip, zk, zi, za, zbin, zdiv, zrem, zgi, zgr, zld, zldr, zlen, zn, zc, zcall, zcallv, zrcv, zdo, zdov, zpf, zpfc, zas, zasc, zmin, zmax, zcmp, zcz, zand_e, zor_e, zite_e, zbite_e, zif_e, znot_e, z_add, z_sub, z_mul, z_and, z_or, z_xor, z_shl, z_shr, zcpy, -List.getElem?_cons_succ, zg_0, zg_1, zg_2, zg_3, zg_4, zg_5, zg_6, zg_7, zg_8, zg_9, zc_lt, zc_le, zc_gt, zc_ge, zc_eq, zc_ne, zc_lt0, zc_ge0, zc_gt0, zc_eq0, zc_ne0, zb_ne, zb_eq, zb_01, z_00, z_01, z_11, zb_f, zb_T, zb_F, zbm1, zbm2, zbm5, zbm6, zbm3, zbm4, nI_clamp, zmod_n, pk_div, nI_ne0, pk_mul, nI_add, nI_1, ztb_tag hk, m0, a1, a2, a3, b1, b2, b3, hq.1, hq.2]
  · simp only [nm2, Bool.not_eq_true', Bool.and_eq_false_iff, decide_eq_false_iff_not] at hq
    by_cases g1 : tL n c x (tL n c j s) = tL n c (c x j) s
    · have g2 : ¬ tRt n c (tRt n c s x) j = tRt n c s (c x j) := by
        rcases hq with hq | hq
        · exact absurd g1 hq
        · exact hq
      simp (disch := omega) [zs_Parts_isNormal_2, zmeth, xm_en, zret, zretz, zretv, zseq, zst, zinc, zkl, zskip, zk, zi, za, zbin, zdiv, zrem, zgi, zgr, zld, zldr, zlen, zn, zc, zcall, zcallv, zrcv, zdo, zdov, zpf, zpfc, zas, zasc, zmin, zmax, zcmp, zcz, zand_e, zor_e, zite_e, zbite_e, zif_e, znot_e, z_add, z_sub, z_mul, z_and, z_or, z_xor, z_shl, z_shr, zcpy, -List.getElem?_cons_succ, zg_0, zg_1, zg_2, zg_3, zg_4, zg_5, zg_6, zg_7, zg_8, zg_9, zc_lt, zc_le, zc_gt, zc_ge, zc_eq, zc_ne, zc_lt0, zc_ge0, zc_gt0, zc_eq0, zc_ne0, zb_ne, zb_eq, zb_01, z_00, z_01, z_11, zb_f, zb_T, zb_F, zbm1, zbm2, zbm5, zbm6, zbm3, zbm4, nI_clamp, zmod_n, pk_div, nI_ne0, pk_mul, nI_add, nI_1, ztb_tag hk, m0, a1, a2, a3, b1, b2, b3, g1, g2]
    · simp (disch := omega) [zs_Parts_isNormal_2, zmeth, xm_en, zret, zretz, zretv, zseq, zst, zinc, zkl, zskip, zk, zi, za, zbin, zdiv, zrem, zgi, zgr, zld, zldr, zlen, zn, zc, zcall, zcallv, zrcv, zdo, zdov, zpf, zpfc, zas, zasc, zmin, zmax, zcmp, zcz, zand_e, zor_e, zite_e, zbite_e, zif_e, znot_e, z_add, z_sub, z_mul, z_and, z_or, z_xor, z_shl, z_shr, zcpy, -List.getElem?_cons_succ, zg_0, zg_1, zg_2, zg_3, zg_4, zg_5, zg_6, zg_7, zg_8, zg_9, zc_lt, zc_le, zc_gt, zc_ge, zc_eq, zc_ne, zc_lt0, zc_ge0, zc_gt0, zc_eq0, zc_ne0, zb_ne, zb_eq, zb_01, z_00, z_01, z_11, zb_f, zb_T, zb_F, zbm1, zbm2, zbm5, zbm6, zbm3, zbm4, nI_clamp, zmod_n, pk_div, nI_ne0, pk_mul, nI_add, nI_1, ztb_tag hk, m0, a1, a2, a3, b1, b2, b3, g1]
theorem qP_isNormal {M : zM} {k n s : Nat} {c : tC} (hk : ztb k) (h : kT M k n c) (h8 : n ≤ 8) (hf : tF n c) (hs : s < 2 ^ 31) : zf_Parts_isNormal [.ref k, .int (nI s)] M = some (some (zb (tNm n c s)), M) := by
  have hp := p8 h8
  have L' : ∀ x, x < n → ∃ ls', zwh zc_Parts_isNormal_2 zs_Parts_isNormal_2 [some (Value.ref (k)), some (Value.int (nI s)), some (Value.int (nI x)), some (Value.int (nI 0)), none] M = if zidx (fun y => !nm2 n c s x y) 0 n < n then some (some (some (nI 0)), ls', M) else some (none, [some (Value.ref (k)), some (Value.int (nI s)), some (Value.int (nI x)), some (Value.int (nI n)), none], M) := fun x hx => qP_nm2 hk h h8 hf hx hs
  have step : ∀ j, j < n → ∃ ls', zs_Parts_isNormal_1 [some (Value.ref (k)), some (Value.int (nI s)), some (Value.int (nI j)), none, none] M = bif nm1 n c s j then some (none, [some (Value.ref (k)), some (Value.int (nI s)), some (Value.int (nI (j + 1))), none, none], M) else some (some (some (nI 0)), ls', M) := by
    intro j h2
    have a1 := qP_fromLeft hk h h8 hf h2 hs
    have b1 := qP_fromRight hk h h8 hf h2 hs
    have l1 := tL_lt (s := s) hf h2
    have r1 := tRt_lt (s := s) hf h2
    obtain ⟨ls', g⟩ := L' j h2
    by_cases g1 : tL n c j s = tRt n c s j
    · by_cases g2 : zidx (fun y => !nm2 n c s j y) 0 n < n
      · rw [if_pos g2] at g
        have e : nm1 n c s j = false := by
          unfold nm1
          rw [zall_idx, decide_eq_true g2]
          simp
        refine ⟨ls', ?_⟩
        rw [e]
        simp (disch := omega) [zs_Parts_isNormal_1, zmeth, xm_en, zret, zretz, zretv, zseq, zst, zinc, zkl, zskip, zk, zi, za, zbin, zdiv, zrem, zgi, zgr, zld, zldr, zlen, zn, zc, zcall, zcallv, zrcv, zdo, zdov, zpf, zpfc, zas, zasc, zmin, zmax, zcmp, zcz, zand_e, zor_e, zite_e, zbite_e, zif_e, znot_e, z_add, z_sub, z_mul, z_and, z_or, z_xor, z_shl, z_shr, zcpy, -List.getElem?_cons_succ, zg_0, zg_1, zg_2, zg_3, zg_4, zg_5, zg_6, zg_7, zg_8, zg_9, zc_lt, zc_le, zc_gt, zc_ge, zc_eq, zc_ne, zc_lt0, zc_ge0, zc_gt0, zc_eq0, zc_ne0, zb_ne, zb_eq, zb_01, z_00, z_01, z_11, zb_f, zb_T, zb_F, zbm1, zbm2, zbm5, zbm6, zbm3, zbm4, nI_clamp, zmod_n, pk_div, nI_ne0, pk_mul, nI_add, nI_1, a1, b1, g1, g]
      · rw [if_neg g2] at g
        have e : nm1 n c s j = true := by
          unfold nm1
          rw [zall_idx, decide_eq_false g2, decide_eq_true g1]
          rfl
        refine ⟨[], ?_⟩
        rw [e]
        simp (disch := omega) [zs_Parts_isNormal_1, zmeth, xm_en, zret, zretz, zretv, zseq, zst, zinc, zkl, zskip, zk, zi, za, zbin, zdiv, zrem, zgi, zgr, zld, zldr, zlen, zn, zc, zcall, zcallv, zrcv, zdo, zdov, zpf, zpfc, zas, zasc, zmin, zmax, zcmp, zcz, zand_e, zor_e, zite_e, zbite_e, zif_e, znot_e, z_add, z_sub, z_mul, z_and, z_or, z_xor, z_shl, z_shr, zcpy, -List.getElem?_cons_succ, zg_0, zg_1, zg_2, zg_3, zg_4, zg_5, zg_6, zg_7, zg_8, zg_9, zc_lt, zc_le, zc_gt, zc_ge, zc_eq, zc_ne, zc_lt0, zc_ge0, zc_gt0, zc_eq0, zc_ne0, zb_ne, zb_eq, zb_01, z_00, z_01, z_11, zb_f, zb_T, zb_F, zbm1, zbm2, zbm5, zbm6, zbm3, zbm4, nI_clamp, zmod_n, pk_div, nI_ne0, pk_mul, nI_add, nI_1, a1, b1, g1, g]
    · have e : nm1 n c s j = false := by
        unfold nm1
        rw [decide_eq_false g1]
        rfl
      refine ⟨[some (Value.ref (k)), some (Value.int (nI s)), some (Value.int (nI j)), none, none], ?_⟩
      rw [e]
      simp (disch := omega) [zs_Parts_isNormal_1, zmeth, xm_en, zret, zretz, zretv, zseq, zst, zinc, zkl, zskip, zk, zi, za, zbin, zdiv, zrem, zgi, zgr, zld, zldr, zlen, zn, zc, zcall, zcallv, zrcv, zdo, zdov, zpf, zpfc, zas, zasc, zmin, zmax, zcmp, zcz, zand_e, zor_e, zite_e, zbite_e, zif_e, znot_e, z_add, z_sub, z_mul, z_and, z_or, z_xor, z_shl, z_shr, zcpy, -List.getElem?_cons_succ, zg_0, zg_1, zg_2, zg_3, zg_4, zg_5, zg_6, zg_7, zg_8, zg_9, zc_lt, zc_le, zc_gt, zc_ge, zc_eq, zc_ne, zc_lt0, zc_ge0, zc_gt0, zc_eq0, zc_ne0, zb_ne, zb_eq, zb_01, z_00, z_01, z_11, zb_f, zb_T, zb_F, zbm1, zbm2, zbm5, zbm6, zbm3, zbm4, nI_clamp, zmod_n, pk_div, nI_ne0, pk_mul, nI_add, nI_1, a1, b1, g1]
  have R := zwh_finde (c := zc_Parts_isNormal_1) (s := zs_Parts_isNormal_1) (fun j => [some (Value.ref (k)), some (Value.int (nI s)), some (Value.int (nI j)), none, none]) M (fun x => !nm1 n c s x) (fun _ => some (nI 0)) (n := n) ?_ n 0 (by omega) ?_ ?_ ?_
  · obtain ⟨ls9, R⟩ := R
    unfold tNm
    rw [zall_idx]
    by_cases hz : zidx (fun x => !nm1 n c s x) 0 n < n
    · rw [if_pos hz] at R
      simp (disch := omega) [zf_Parts_isNormal, zmeth, xm_en, zret, zretz, zretv, zseq, zst, zinc, zkl, zskip, zk, zi, za, zbin, zdiv, zrem, zgi, zgr, zld, zldr, zlen, zn, zc, zcall, zcallv, zrcv, zdo, zdov, zpf, zpfc, zas, zasc, zmin, zmax, zcmp, zcz, zand_e, zor_e, zite_e, zbite_e, zif_e, znot_e, z_add, z_sub, z_mul, z_and, z_or, z_xor, z_shl, z_shr, zcpy, -List.getElem?_cons_succ, zg_0, zg_1, zg_2, zg_3, zg_4, zg_5, zg_6, zg_7, zg_8, zg_9, R, hz, zb, z_01]
    · rw [if_neg hz] at R
      simp (disch := omega) [zf_Parts_isNormal, zmeth, xm_en, zret, zretz, zretv, zseq, zst, zinc, zkl, zskip, zk, zi, za, zbin, zdiv, zrem, zgi, zgr, zld, zldr, zlen, zn, zc, zcall, zcallv, zrcv, zdo, zdov, zpf, zpfc, zas, zasc, zmin, zmax, zcmp, zcz, zand_e, zor_e, zite_e, zbite_e, zif_e, znot_e, z_add, z_sub, z_mul, z_and, z_or, z_xor, z_shl, z_shr, zcpy, -List.getElem?_cons_succ, zg_0, zg_1, zg_2, zg_3, zg_4, zg_5, zg_6, zg_7, zg_8, zg_9, R, hz, zb, z_01]
  · simp (disch := omega) [zc_Parts_isNormal_1, zmeth, xm_en, zret, zretz, zretv, zseq, zst, zinc, zkl, zskip, zk, zi, za, zbin, zdiv, zrem, zgi, zgr, zld, zldr, zlen, zn, zc, zcall, zcallv, zrcv, zdo, zdov, zpf, zpfc, zas, zasc, zmin, zmax, zcmp, zcz, zand_e, zor_e, zite_e, zbite_e, zif_e, znot_e, z_add, z_sub, z_mul, z_and, z_or, z_xor, z_shl, z_shr, zcpy, -List.getElem?_cons_succ, zg_0, zg_1, zg_2, zg_3, zg_4, zg_5, zg_6, zg_7, zg_8, zg_9, zc_lt, zc_le, zc_gt, zc_ge, zc_eq, zc_ne, zc_lt0, zc_ge0, zc_gt0, zc_eq0, zc_ne0, zb_ne, zb_eq, zb_01, z_00, z_01, z_11, zb_f, zb_T, zb_F, zbm1, zbm2, zbm5, zbm6, zbm3, zbm4, nI_clamp, zmod_n, pk_div, nI_ne0, pk_mul, nI_add, nI_1, ztb_tag hk, h.1]
  · intro j _ h2
    simp (disch := omega) [zc_Parts_isNormal_1, zmeth, xm_en, zret, zretz, zretv, zseq, zst, zinc, zkl, zskip, zk, zi, za, zbin, zdiv, zrem, zgi, zgr, zld, zldr, zlen, zn, zc, zcall, zcallv, zrcv, zdo, zdov, zpf, zpfc, zas, zasc, zmin, zmax, zcmp, zcz, zand_e, zor_e, zite_e, zbite_e, zif_e, znot_e, z_add, z_sub, z_mul, z_and, z_or, z_xor, z_shl, z_shr, zcpy, -List.getElem?_cons_succ, zg_0, zg_1, zg_2, zg_3, zg_4, zg_5, zg_6, zg_7, zg_8, zg_9, zc_lt, zc_le, zc_gt, zc_ge, zc_eq, zc_ne, zc_lt0, zc_ge0, zc_gt0, zc_eq0, zc_ne0, zb_ne, zb_eq, zb_01, z_00, z_01, z_11, zb_f, zb_T, zb_F, zbm1, zbm2, zbm5, zbm6, zbm3, zbm4, nI_clamp, zmod_n, pk_div, nI_ne0, pk_mul, nI_add, nI_1, ztb_tag hk, h.1, h2]
  · intro j _ h2 hq
    obtain ⟨ls', g⟩ := step j h2
    rw [show nm1 n c s j = true by simpa using hq] at g
    exact g
  · intro j _ h2 hq
    obtain ⟨ls', g⟩ := step j h2
    rw [show nm1 n c s j = false by simpa using hq] at g
    exact ⟨ls', g⟩
theorem qM_nm2 {M : zM} {t n x s : Nat} {c : tC} {b0 : Bool} (ht : t < 6) (h : rT M t n c) (h8 : n ≤ 8) (hf : tF n c) (hx : x < n) (hs : s < 2 ^ 31) : zwh zc_M_isNormal_2 zs_M_isNormal_2 [some (Value.ref (32)), some (Value.int (nI t)), some (Value.int (nI s)), some (Value.int (zb b0)), some (Value.int (nI x)), some (Value.int (nI 0)), none] M = some (none, [some (Value.ref (32)), some (Value.int (nI t)), some (Value.int (nI s)), some (Value.int (zb (b0 && zall (nm2 n c s x) n))), some (Value.int (nI x)), some (Value.int (nI n)), none], M) := by
  have hp := p8 h8
  have R := zwh_up (c := zc_M_isNormal_2) (s := zs_M_isNormal_2) (fun j => [some (Value.ref (32)), some (Value.int (nI t)), some (Value.int (nI s)), some (Value.int (zb (b0 && zall (nm2 n c s x) j))), some (Value.int (nI x)), some (Value.int (nI j)), none]) (fun _ => M) (n := n) n 0 (by omega) ?_ ?_ ?_
  · have e0 : (b0 && zall (nm2 n c s x) 0) = b0 := by simp [zall]
    rw [e0] at R
    exact R
  · intro j _ h2
    simp (disch := omega) [zc_M_isNormal_2, zmeth, xm_en, zret, zretz, zretv, zseq, zst, zinc, zkl, zskip, zk, zi, za, zbin, zdiv, zrem, zgi, zgr, zld, zldr, zlen, zn, zc, zcall, zcallv, zrcv, zdo, zdov, zpf, zpfc, zas, zasc, zmin, zmax, zcmp, zcz, zand_e, zor_e, zite_e, zbite_e, zif_e, znot_e, z_add, z_sub, z_mul, z_and, z_or, z_xor, z_shl, z_shr, zcpy, -List.getElem?_cons_succ, zg_0, zg_1, zg_2, zg_3, zg_4, zg_5, zg_6, zg_7, zg_8, zg_9, zc_lt, zc_le, zc_gt, zc_ge, zc_eq, zc_ne, zc_lt0, zc_ge0, zc_gt0, zc_eq0, zc_ne0, zb_ne, zb_eq, zb_01, z_00, z_01, z_11, zb_f, zb_T, zb_F, zbm1, zbm2, zbm5, zbm6, zbm3, zbm4, nI_clamp, zmod_n, pk_div, nI_ne0, pk_mul, nI_add, nI_1, zt_0, zt_12, zt_20, zt_26, zt_32, zf_0_0, zf_0_1, zf_0_2, zf_0_3, zf_0_4, zf_12_0, zf_12_1, zf_12_2, zf_12_4, zf_12_5, zf_20_1, zf_20_2, zf_20_3, zf_20_4, zf_20_6, zf_26_0, zf_26_1, zf_26_2, zf_26_3, zf_32_0, zf_32_1, zf_32_3, zf_32_4, zf_32_5, zf_32_6, zi_33, h.1, h2]
  · intro j _ h2
    have hxy := hf x j hx h2
    have l1 := tL_lt (s := s) hf h2
    have l2 := tL_lt (s := tL n c j s) hf hx
    have l3 := tL_lt (s := s) hf hxy
    have r1 := tRt_lt (s := s) hf hx
    have r2 := tRt_lt (s := tRt n c s x) hf h2
    have r3 := tRt_lt (s := s) hf hxy
    have m0 := qM_mul ht h h8 hf hx h2
    have a1 := qM_timesL ht h h8 hf h2 hs
    have a2 := qM_timesL (s := tL n c j s) ht h h8 hf hx (by omega)
    have a3 := qM_timesL ht h h8 hf hxy hs
    have b1 := qM_timesR ht h h8 hf hx hs
    have b2 := qM_timesR (s := tRt n c s x) ht h h8 hf h2 (by omega)
    have b3 := qM_timesR ht h h8 hf hxy hs
    have e : zall (nm2 n c s x) (j + 1) = (zall (nm2 n c s x) j && nm2 n c s x j) := rfl
    simp (disch := omega) [zs_M_isNormal_2, zmeth, xm_en, zret, zretz, zretv, zseq, zst, zinc, zkl, zskip, zk, zi, za, zbin, zdiv, zrem, zgi, zgr, zld, zldr, zlen, zn, zc, zcall, zcallv, zrcv, zdo, zdov, zpf, zpfc, zas, zasc, zmin, zmax, zcmp, zcz, zand_e, zor_e, zite_e, zbite_e, zif_e, znot_e, z_add, z_sub, z_mul, z_and, z_or, z_xor, z_shl, z_shr, zcpy, -List.getElem?_cons_succ, zg_0, zg_1, zg_2, zg_3, zg_4, zg_5, zg_6, zg_7, zg_8, zg_9, zc_lt, zc_le, zc_gt, zc_ge, zc_eq, zc_ne, zc_lt0, zc_ge0, zc_gt0, zc_eq0, zc_ne0, zb_ne, zb_eq, zb_01, z_00, z_01, z_11, zb_f, zb_T, zb_F, zbm1, zbm2, zbm5, zbm6, zbm3, zbm4, nI_clamp, zmod_n, pk_div, nI_ne0, pk_mul, nI_add, nI_1, zt_0, zt_12, zt_20, zt_26, zt_32, zf_0_0, zf_0_1, zf_0_2, zf_0_3, zf_0_4, zf_12_0, zf_12_1, zf_12_2, zf_12_4, zf_12_5, zf_20_1, zf_20_2, zf_20_3, zf_20_4, zf_20_6, zf_26_0, zf_26_1, zf_26_2, zf_26_3, zf_32_0, zf_32_1, zf_32_3, zf_32_4, zf_32_5, zf_32_6, m0, a1, a2, a3, b1, b2, b3, e, nm2, Bool.and_assoc]
  · simp (disch := omega) [zc_M_isNormal_2, zmeth, xm_en, zret, zretz, zretv, zseq, zst, zinc, zkl, zskip, zk, zi, za, zbin, zdiv, zrem, zgi, zgr, zld, zldr, zlen, zn, zc, zcall, zcallv, zrcv, zdo, zdov, zpf, zpfc, zas, zasc, zmin, zmax, zcmp, zcz, zand_e, zor_e, zite_e, zbite_e, zif_e, znot_e, z_add, z_sub, z_mul, z_and, z_or, z_xor, z_shl, z_shr, zcpy, -List.getElem?_cons_succ, zg_0, zg_1, zg_2, zg_3, zg_4, zg_5, zg_6, zg_7, zg_8, zg_9, zc_lt, zc_le, zc_gt, zc_ge, zc_eq, zc_ne, zc_lt0, zc_ge0, zc_gt0, zc_eq0, zc_ne0, zb_ne, zb_eq, zb_01, z_00, z_01, z_11, zb_f, zb_T, zb_F, zbm1, zbm2, zbm5, zbm6, zbm3, zbm4, nI_clamp, zmod_n, pk_div, nI_ne0, pk_mul, nI_add, nI_1, zt_0, zt_12, zt_20, zt_26, zt_32, zf_0_0, zf_0_1, zf_0_2, zf_0_3, zf_0_4, zf_12_0, zf_12_1, zf_12_2, zf_12_4, zf_12_5, zf_20_1, zf_20_2, zf_20_3, zf_20_4, zf_20_6, zf_26_0, zf_26_1, zf_26_2, zf_26_3, zf_32_0, zf_32_1, zf_32_3, zf_32_4, zf_32_5, zf_32_6, zi_33, h.1]
theorem qM_isNormal {M : zM} {t n s : Nat} {c : tC} (ht : t < 6) (h : rT M t n c) (h8 : n ≤ 8) (hf : tF n c) (hs : s < 2 ^ 31) : zf_M_isNormal [.ref 32, .int (nI t), .int (nI s)] M = some (some (zb (tNm n c s)), M) := by
  have hp := p8 h8
  have R := zwh_up (c := zc_M_isNormal_1) (s := zs_M_isNormal_1) (fun j => [some (Value.ref (32)), some (Value.int (nI t)), some (Value.int (nI s)), some (Value.int (zb (zall (nm1 n c s) j))), some (Value.int (nI j)), none, none]) (fun _ => M) (n := n) n 0 (by omega) ?_ ?_ ?_
  · have e0 : zb (zall (nm1 n c s) 0) = nI 1 := rfl
    rw [e0] at R
    simp (disch := omega) [zf_M_isNormal, zmeth, xm_en, zret, zretz, zretv, zseq, zst, zinc, zkl, zskip, zk, zi, za, zbin, zdiv, zrem, zgi, zgr, zld, zldr, zlen, zn, zc, zcall, zcallv, zrcv, zdo, zdov, zpf, zpfc, zas, zasc, zmin, zmax, zcmp, zcz, zand_e, zor_e, zite_e, zbite_e, zif_e, znot_e, z_add, z_sub, z_mul, z_and, z_or, z_xor, z_shl, z_shr, zcpy, -List.getElem?_cons_succ, zg_0, zg_1, zg_2, zg_3, zg_4, zg_5, zg_6, zg_7, zg_8, zg_9, R, zb_01, tNm]
  · intro j _ h2
    simp (disch := omega) [zc_M_isNormal_1, zmeth, xm_en, zret, zretz, zretv, zseq, zst, zinc, zkl, zskip, zk, zi, za, zbin, zdiv, zrem, zgi, zgr, zld, zldr, zlen, zn, zc, zcall, zcallv, zrcv, zdo, zdov, zpf, zpfc, zas, zasc, zmin, zmax, zcmp, zcz, zand_e, zor_e, zite_e, zbite_e, zif_e, znot_e, z_add, z_sub, z_mul, z_and, z_or, z_xor, z_shl, z_shr, zcpy, -List.getElem?_cons_succ, zg_0, zg_1, zg_2, zg_3, zg_4, zg_5, zg_6, zg_7, zg_8, zg_9, zc_lt, zc_le, zc_gt, zc_ge, zc_eq, zc_ne, zc_lt0, zc_ge0, zc_gt0, zc_eq0, zc_ne0, zb_ne, zb_eq, zb_01, z_00, z_01, z_11, zb_f, zb_T, zb_F, zbm1, zbm2, zbm5, zbm6, zbm3, zbm4, nI_clamp, zmod_n, pk_div, nI_ne0, pk_mul, nI_add, nI_1, zt_0, zt_12, zt_20, zt_26, zt_32, zf_0_0, zf_0_1, zf_0_2, zf_0_3, zf_0_4, zf_12_0, zf_12_1, zf_12_2, zf_12_4, zf_12_5, zf_20_1, zf_20_2, zf_20_3, zf_20_4, zf_20_6, zf_26_0, zf_26_1, zf_26_2, zf_26_3, zf_32_0, zf_32_1, zf_32_3, zf_32_4, zf_32_5, zf_32_6, zi_33, h.1, h2]
  · intro j _ h2
    have l1 := tL_lt (s := s) hf h2
    have r1 := tRt_lt (s := s) hf h2
    have a1 := qM_timesL ht h h8 hf h2 hs
    have b1 := qM_timesR ht h h8 hf h2 hs
    have g := qM_nm2 (b0 := zall (nm1 n c s) j && decide (tL n c j s = tRt n c s j)) ht h h8 hf h2 hs
    have e : zall (nm1 n c s) (j + 1) = (zall (nm1 n c s) j && nm1 n c s j) := rfl
    simp (disch := omega) [zs_M_isNormal_1, zmeth, xm_en, zret, zretz, zretv, zseq, zst, zinc, zkl, zskip, zk, zi, za, zbin, zdiv, zrem, zgi, zgr, zld, zldr, zlen, zn, zc, zcall, zcallv, zrcv, zdo, zdov, zpf, zpfc, zas, zasc, zmin, zmax, zcmp, zcz, zand_e, zor_e, zite_e, zbite_e, zif_e, znot_e, z_add, z_sub, z_mul, z_and, z_or, z_xor, z_shl, z_shr, zcpy, -List.getElem?_cons_succ, zg_0, zg_1, zg_2, zg_3, zg_4, zg_5, zg_6, zg_7, zg_8, zg_9, zc_lt, zc_le, zc_gt, zc_ge, zc_eq, zc_ne, zc_lt0, zc_ge0, zc_gt0, zc_eq0, zc_ne0, zb_ne, zb_eq, zb_01, z_00, z_01, z_11, zb_f, zb_T, zb_F, zbm1, zbm2, zbm5, zbm6, zbm3, zbm4, nI_clamp, zmod_n, pk_div, nI_ne0, pk_mul, nI_add, nI_1, zt_0, zt_12, zt_20, zt_26, zt_32, zf_0_0, zf_0_1, zf_0_2, zf_0_3, zf_0_4, zf_12_0, zf_12_1, zf_12_2, zf_12_4, zf_12_5, zf_20_1, zf_20_2, zf_20_3, zf_20_4, zf_20_6, zf_26_0, zf_26_1, zf_26_2, zf_26_3, zf_32_0, zf_32_1, zf_32_3, zf_32_4, zf_32_5, zf_32_6, a1, b1, g, e, nm1, Bool.and_assoc]
  · simp (disch := omega) [zc_M_isNormal_1, zmeth, xm_en, zret, zretz, zretv, zseq, zst, zinc, zkl, zskip, zk, zi, za, zbin, zdiv, zrem, zgi, zgr, zld, zldr, zlen, zn, zc, zcall, zcallv, zrcv, zdo, zdov, zpf, zpfc, zas, zasc, zmin, zmax, zcmp, zcz, zand_e, zor_e, zite_e, zbite_e, zif_e, znot_e, z_add, z_sub, z_mul, z_and, z_or, z_xor, z_shl, z_shr, zcpy, -List.getElem?_cons_succ, zg_0, zg_1, zg_2, zg_3, zg_4, zg_5, zg_6, zg_7, zg_8, zg_9, zc_lt, zc_le, zc_gt, zc_ge, zc_eq, zc_ne, zc_lt0, zc_ge0, zc_gt0, zc_eq0, zc_ne0, zb_ne, zb_eq, zb_01, z_00, z_01, z_11, zb_f, zb_T, zb_F, zbm1, zbm2, zbm5, zbm6, zbm3, zbm4, nI_clamp, zmod_n, pk_div, nI_ne0, pk_mul, nI_add, nI_1, zt_0, zt_12, zt_20, zt_26, zt_32, zf_0_0, zf_0_1, zf_0_2, zf_0_3, zf_0_4, zf_12_0, zf_12_1, zf_12_2, zf_12_4, zf_12_5, zf_20_1, zf_20_2, zf_20_3, zf_20_4, zf_20_6, zf_26_0, zf_26_1, zf_26_2, zf_26_3, zf_32_0, zf_32_1, zf_32_3, zf_32_4, zf_32_5, zf_32_6, zi_33, h.1]
