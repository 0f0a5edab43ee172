/-! squares of the class -/
theorem hit_map {I : Int} {many : Nat} {l : List Nat} {f : Nat → Nat} : hit I many (l.map f) = (hit I many l).map f := by
  unfold hit
  rw [List.length_map]
  by_cases h : (many : Int) ≤ I ∧ I < many + l.length
  · rw [if_pos h, if_pos h]
    have hl : I.toNat - many < l.length := by omega
    simp only [List.getD_eq_getElem?_getD, List.getElem?_map, List.getElem?_eq_getElem hl, Option.map_some, Option.getD_some]
  · rw [if_neg h, if_neg h]
    rfl
theorem hit_shift {i many : Nat} {l : List Nat} (h : many ≤ i) : hit (i : Int) many l = hit ((i - many : Nat) : Int) 0 l := by
  unfold hit
  by_cases g : i < many + l.length
  · rw [if_pos (by omega), if_pos (by omega)]
    congr 2
    try omega
  · rw [if_neg (by omega), if_neg (by omega)]
theorem hit_neg {many : Nat} {l : List Nat} : hit (-1) many l = none := by
  unfold hit
  rw [if_neg (by omega)]
theorem q4_map (c : tC) (o a e b d : Nat) : q4 c o a e b d = (q4 c 0 a e b d).map (fun v => o + v) := by
  unfold q4
  cases sqB c a e b d with
  | false => rfl
  | true => simp [Nat.add_assoc]
theorem q3_map (n : Nat) (c : tC) (o a e b : Nat) : q3 n c o a e b = (q3 n c 0 a e b).map (fun v => o + v) := by
  unfold q3
  rw [← segs_map]
  exact segs_congr _ _ (fun j _ _ => q4_map c o a e b j)
theorem q2_map (n : Nat) (c : tC) (o a e : Nat) : q2 n c o a e = (q2 n c 0 a e).map (fun v => o + v) := by
  unfold q2
  rw [← segs_map]
  exact segs_congr _ _ (fun j _ _ => q3_map n c o a e j)
theorem qS_is {M : zM} {k n a e b d : Nat} {c : tC} (hk : ztb k) (h : kT M k n c) (h8 : n ≤ 8) (hf : tF n c) (ha : a < n) (he : e < n) (hb : b < n) (hd : d < n) : zf_Squares_isSquare [.ref k, .int (nI a), .int (nI e), .int (nI b), .int (nI d)] M = some (some (zb (sqB c a e b d)), M) := by
  have f1 := hf a b ha hb
  have f2 := hf e d he hd
  have f3 := hf a d ha hd
  have f4 := hf e b he hb
  have m1 := qT_mul hk h h8 hf ha hb
  have m2 := qT_mul hk h h8 hf he hd
  have m3 := qT_mul hk h h8 hf ha hd
  have m4 := qT_mul hk h h8 hf he hb
  simp (disch := omega) [zf_Squares_isSquare, zmeth, xm_en, zret, zretz, zretv, zseq, zst, zinc, zkl, zskip, zk, zi, za, zbin, zdiv, zrem, zgi, zgr, zld, zldr, zlen, zn, zc, zcall, zcallv, zrcv, zdo, zdov, zpf, zpfc, zas, zasc, zmin, zmax, zcmp, zcz, zand_e, zor_e, zite_e, zbite_e, zif_e, znot_e, z_add, z_sub, z_mul, z_and, z_or, z_xor, z_shl, z_shr, zcpy, -List.getElem?_cons_succ, zg_0, zg_1, zg_2, zg_3, zg_4, zg_5, zg_6, zg_7, zg_8, zg_9, zc_lt, zc_le, zc_gt, zc_ge, zc_eq, zc_ne, zc_lt0, zc_ge0, zc_gt0, zc_eq0, zc_ne0, zb_ne, zb_eq, zb_01, z_00, z_01, z_11, zb_f, zb_T, zb_F, zbm1, zbm2, zbm5, zbm6, zbm3, zbm4, nI_clamp, zmod_n, pk_div, nI_ne0, pk_mul, nI_add, nI_1, ztb_tag hk, m1, m2, m3, m4, sqB]
theorem qS_cr2 {M : zM} {k n a e b : Nat} {c : tC} (hk : ztb k) (h : kT M k n c) (h8 : n ≤ 8) (hf : tF n c) (ha : a < n) (he : e < n) (hb : b < n) (many : Nat) (hm : many + (q3 n c 0 a e b).length ≤ 5000) : zsg (zwh zc_Squares_countInRows_2 zs_Squares_countInRows_2) [some (Value.ref (k)), some (Value.int (nI a)), some (Value.int (nI e)), some (Value.int (nI many)), some (Value.int (nI b)), some (Value.int (nI (b + 1)))] M (-1) many (q3 n c 0 a e b) (fun m => [some (Value.ref (k)), some (Value.int (nI a)), some (Value.int (nI e)), some (Value.int (nI m)), some (Value.int (nI b)), some (Value.int (nI n))]) := by
  refine zwh_seg (K := 5000) (fun _ => True) (fun _ _ _ _ => trivial) (fun j m => [some (Value.ref (k)), some (Value.int (nI a)), some (Value.int (nI e)), some (Value.int (nI m)), some (Value.int (nI b)), some (Value.int (nI j))]) (q4 c 0 a e b) (n := n) ?_ (n - (b + 1)) (b + 1) (by omega) ?_ ?_ many trivial hm
  · intro m _ _
    simp (disch := omega) [zc_Squares_countInRows_2, zmeth, xm_en, zret, zretz, zretv, zseq, zst, zinc, zkl, zskip, zk, zi, za, zbin, zdiv, zrem, zgi, zgr, zld, zldr, zlen, zn, zc, zcall, zcallv, zrcv, zdo, zdov, zpf, zpfc, zas, zasc, zmin, zmax, zcmp, zcz, zand_e, zor_e, zite_e, zbite_e, zif_e, znot_e, z_add, z_sub, z_mul, z_and, z_or, z_xor, z_shl, z_shr, zcpy, -List.getElem?_cons_succ, zg_0, zg_1, zg_2, zg_3, zg_4, zg_5, zg_6, zg_7, zg_8, zg_9, zc_lt, zc_le, zc_gt, zc_ge, zc_eq, zc_ne, zc_lt0, zc_ge0, zc_gt0, zc_eq0, zc_ne0, zb_ne, zb_eq, zb_01, z_00, z_01, z_11, zb_f, zb_T, zb_F, zbm1, zbm2, zbm5, zbm6, zbm3, zbm4, nI_clamp, zmod_n, pk_div, nI_ne0, pk_mul, nI_add, nI_1, ztb_tag hk, h.1]
  · intro j m _ h2 _ _
    simp (disch := omega) [zc_Squares_countInRows_2, zmeth, xm_en, zret, zretz, zretv, zseq, zst, zinc, zkl, zskip, zk, zi, za, zbin, zdiv, zrem, zgi, zgr, zld, zldr, zlen, zn, zc, zcall, zcallv, zrcv, zdo, zdov, zpf, zpfc, zas, zasc, zmin, zmax, zcmp, zcz, zand_e, zor_e, zite_e, zbite_e, zif_e, znot_e, z_add, z_sub, z_mul, z_and, z_or, z_xor, z_shl, z_shr, zcpy, -List.getElem?_cons_succ, zg_0, zg_1, zg_2, zg_3, zg_4, zg_5, zg_6, zg_7, zg_8, zg_9, zc_lt, zc_le, zc_gt, zc_ge, zc_eq, zc_ne, zc_lt0, zc_ge0, zc_gt0, zc_eq0, zc_ne0, zb_ne, zb_eq, zb_01, z_00, z_01, z_11, zb_f, zb_T, zb_F, zbm1, zbm2, zbm5, zbm6, zbm3, zbm4, nI_clamp, zmod_n, pk_div, nI_ne0, pk_mul, nI_add, nI_1, ztb_tag hk, h.1, h2]
  · intro j m _ h2 _ hK
    refine ⟨fun v hv => (by rw [hit_neg] at hv; cases hv), fun _ => ?_⟩
    have hs := qS_is hk h h8 hf ha he hb h2
    unfold q4
    cases hq : sqB c a e b j with
    | false =>
      rw [hq] at hs
      simp (disch := omega) [zs_Squares_countInRows_2, zmeth, xm_en, zret, zretz, zretv, zseq, zst, zinc, zkl, zskip, zk, zi, za, zbin, zdiv, zrem, zgi, zgr, zld, zldr, zlen, zn, zc, zcall, zcallv, zrcv, zdo, zdov, zpf, zpfc, zas, zasc, zmin, zmax, zcmp, zcz, zand_e, zor_e, zite_e, zbite_e, zif_e, znot_e, z_add, z_sub, z_mul, z_and, z_or, z_xor, z_shl, z_shr, zcpy, -List.getElem?_cons_succ, zg_0, zg_1, zg_2, zg_3, zg_4, zg_5, zg_6, zg_7, zg_8, zg_9, hs, zb_ne, nI_1]
    | true =>
      rw [hq] at hs
      simp (disch := omega) [zs_Squares_countInRows_2, zmeth, xm_en, zret, zretz, zretv, zseq, zst, zinc, zkl, zskip, zk, zi, za, zbin, zdiv, zrem, zgi, zgr, zld, zldr, zlen, zn, zc, zcall, zcallv, zrcv, zdo, zdov, zpf, zpfc, zas, zasc, zmin, zmax, zcmp, zcz, zand_e, zor_e, zite_e, zbite_e, zif_e, znot_e, z_add, z_sub, z_mul, z_and, z_or, z_xor, z_shl, z_shr, zcpy, -List.getElem?_cons_succ, zg_0, zg_1, zg_2, zg_3, zg_4, zg_5, zg_6, zg_7, zg_8, zg_9, hs, zb_ne, nI_1]
theorem qS_countInRows {M : zM} {k n a e : Nat} {c : tC} (hk : ztb k) (h : kT M k n c) (h1n : 1 ≤ n) (h8 : n ≤ 8) (hf : tF n c) (ha : a < n) (he : e < n) : zf_Squares_countInRows [.ref k, .int (nI a), .int (nI e)] M = some (some (nI (q2 n c 0 a e).length), M) := by
  have R : zsg (zwh zc_Squares_countInRows_1 zs_Squares_countInRows_1) [some (Value.ref (k)), some (Value.int (nI a)), some (Value.int (nI e)), some (Value.int (nI 0)), some (Value.int (nI 1)), none] M (-1) 0 (q2 n c 0 a e) (fun m => [some (Value.ref (k)), some (Value.int (nI a)), some (Value.int (nI e)), some (Value.int (nI m)), some (Value.int (nI n)), none]) := by
    refine zwh_seg (K := 5000) (fun _ => True) (fun _ _ _ _ => trivial) (fun j m => [some (Value.ref (k)), some (Value.int (nI a)), some (Value.int (nI e)), some (Value.int (nI m)), some (Value.int (nI j)), none]) (q3 n c 0 a e) (n := n) ?_ (n - 1) 1 (by omega) ?_ ?_ 0 trivial (by have := q2_len h8 c 0 a e; unfold q2 at this; omega)
    · intro m _ _
      simp (disch := omega) [zc_Squares_countInRows_1, zmeth, xm_en, zret, zretz, zretv, zseq, zst, zinc, zkl, zskip, zk, zi, za, zbin, zdiv, zrem, zgi, zgr, zld, zldr, zlen, zn, zc, zcall, zcallv, zrcv, zdo, zdov, zpf, zpfc, zas, zasc, zmin, zmax, zcmp, zcz, zand_e, zor_e, zite_e, zbite_e, zif_e, znot_e, z_add, z_sub, z_mul, z_and, z_or, z_xor, z_shl, z_shr, zcpy, -List.getElem?_cons_succ, zg_0, zg_1, zg_2, zg_3, zg_4, zg_5, zg_6, zg_7, zg_8, zg_9, zc_lt, zc_le, zc_gt, zc_ge, zc_eq, zc_ne, zc_lt0, zc_ge0, zc_gt0, zc_eq0, zc_ne0, zb_ne, zb_eq, zb_01, z_00, z_01, z_11, zb_f, zb_T, zb_F, zbm1, zbm2, zbm5, zbm6, zbm3, zbm4, nI_clamp, zmod_n, pk_div, nI_ne0, pk_mul, nI_add, nI_1, ztb_tag hk, h.1]
    · intro j m _ h2 _ _
      simp (disch := omega) [zc_Squares_countInRows_1, zmeth, xm_en, zret, zretz, zretv, zseq, zst, zinc, zkl, zskip, zk, zi, za, zbin, zdiv, zrem, zgi, zgr, zld, zldr, zlen, zn, zc, zcall, zcallv, zrcv, zdo, zdov, zpf, zpfc, zas, zasc, zmin, zmax, zcmp, zcz, zand_e, zor_e, zite_e, zbite_e, zif_e, znot_e, z_add, z_sub, z_mul, z_and, z_or, z_xor, z_shl, z_shr, zcpy, -List.getElem?_cons_succ, zg_0, zg_1, zg_2, zg_3, zg_4, zg_5, zg_6, zg_7, zg_8, zg_9, zc_lt, zc_le, zc_gt, zc_ge, zc_eq, zc_ne, zc_lt0, zc_ge0, zc_gt0, zc_eq0, zc_ne0, zb_ne, zb_eq, zb_01, z_00, z_01, z_11, zb_f, zb_T, zb_F, zbm1, zbm2, zbm5, zbm6, zbm3, zbm4, nI_clamp, zmod_n, pk_div, nI_ne0, pk_mul, nI_add, nI_1, ztb_tag hk, h.1, h2]
    · intro j m _ h2 _ hK
      refine zsg_inc (zsg_kl (v := .int (nI (j + 1))) ?_ (Nat.le_of_ble_eq_true rfl) rfl (qS_cr2 hk h h8 hf ha he h2 m hK) (fun m => rfl)) (fun m => rfl) (fun m => rfl)
      simp (disch := omega) [zmeth, xm_en, zret, zretz, zretv, zseq, zst, zinc, zkl, zskip, zk, zi, za, zbin, zdiv, zrem, zgi, zgr, zld, zldr, zlen, zn, zc, zcall, zcallv, zrcv, zdo, zdov, zpf, zpfc, zas, zasc, zmin, zmax, zcmp, zcz, zand_e, zor_e, zite_e, zbite_e, zif_e, znot_e, z_add, z_sub, z_mul, z_and, z_or, z_xor, z_shl, z_shr, zcpy, -List.getElem?_cons_succ, zg_0, zg_1, zg_2, zg_3, zg_4, zg_5, zg_6, zg_7, zg_8, zg_9, zc_lt, zc_le, zc_gt, zc_ge, zc_eq, zc_ne, zc_lt0, zc_ge0, zc_gt0, zc_eq0, zc_ne0, zb_ne, zb_eq, zb_01, z_00, z_01, z_11, zb_f, zb_T, zb_F, zbm1, zbm2, zbm5, zbm6, zbm3, zbm4, nI_clamp, zmod_n, pk_div, nI_ne0, pk_mul, nI_add, nI_1]
  have g := R.2 hit_neg
  simp (disch := omega) [zf_Squares_countInRows, zmeth, xm_en, zret, zretz, zretv, zseq, zst, zinc, zkl, zskip, zk, zi, za, zbin, zdiv, zrem, zgi, zgr, zld, zldr, zlen, zn, zc, zcall, zcallv, zrcv, zdo, zdov, zpf, zpfc, zas, zasc, zmin, zmax, zcmp, zcz, zand_e, zor_e, zite_e, zbite_e, zif_e, znot_e, z_add, z_sub, z_mul, z_and, z_or, z_xor, z_shl, z_shr, zcpy, -List.getElem?_cons_succ, zg_0, zg_1, zg_2, zg_3, zg_4, zg_5, zg_6, zg_7, zg_8, zg_9, g]
theorem qS_fc2 {M : zM} {k n a e b i : Nat} {c : tC} (hk : ztb k) (h : kT M k n c) (h8 : n ≤ 8) (hf : tF n c) (ha : a < n) (he : e < n) (hb : b < n) (hi : i < 2 ^ 31) (many : Nat) (hm : many + (q3 n c 0 a e b).length ≤ 5000) : zsg (zwh zc_Squares_findColumns_2 zs_Squares_findColumns_2) [some (Value.ref (k)), some (Value.int (nI a)), some (Value.int (nI e)), some (Value.int (nI i)), some (Value.int (nI many)), some (Value.int (nI b)), some (Value.int (nI (b + 1)))] M i many (q3 n c 0 a e b) (fun m => [some (Value.ref (k)), some (Value.int (nI a)), some (Value.int (nI e)), some (Value.int (nI i)), some (Value.int (nI m)), some (Value.int (nI b)), some (Value.int (nI n))]) := by
  refine zwh_seg (K := 5000) (fun _ => True) (fun _ _ _ _ => trivial) (fun j m => [some (Value.ref (k)), some (Value.int (nI a)), some (Value.int (nI e)), some (Value.int (nI i)), some (Value.int (nI m)), some (Value.int (nI b)), some (Value.int (nI j))]) (q4 c 0 a e b) (n := n) ?_ (n - (b + 1)) (b + 1) (by omega) ?_ ?_ many trivial hm
  · intro m _ _
    simp (disch := omega) [zc_Squares_findColumns_2, zmeth, xm_en, zret, zretz, zretv, zseq, zst, zinc, zkl, zskip, zk, zi, za, zbin, zdiv, zrem, zgi, zgr, zld, zldr, zlen, zn, zc, zcall, zcallv, zrcv, zdo, zdov, zpf, zpfc, zas, zasc, zmin, zmax, zcmp, zcz, zand_e, zor_e, zite_e, zbite_e, zif_e, znot_e, z_add, z_sub, z_mul, z_and, z_or, z_xor, z_shl, z_shr, zcpy, -List.getElem?_cons_succ, zg_0, zg_1, zg_2, zg_3, zg_4, zg_5, zg_6, zg_7, zg_8, zg_9, zc_lt, zc_le, zc_gt, zc_ge, zc_eq, zc_ne, zc_lt0, zc_ge0, zc_gt0, zc_eq0, zc_ne0, zb_ne, zb_eq, zb_01, z_00, z_01, z_11, zb_f, zb_T, zb_F, zbm1, zbm2, zbm5, zbm6, zbm3, zbm4, nI_clamp, zmod_n, pk_div, nI_ne0, pk_mul, nI_add, nI_1, ztb_tag hk, h.1]
  · intro j m _ h2 _ _
    simp (disch := omega) [zc_Squares_findColumns_2, zmeth, xm_en, zret, zretz, zretv, zseq, zst, zinc, zkl, zskip, zk, zi, za, zbin, zdiv, zrem, zgi, zgr, zld, zldr, zlen, zn, zc, zcall, zcallv, zrcv, zdo, zdov, zpf, zpfc, zas, zasc, zmin, zmax, zcmp, zcz, zand_e, zor_e, zite_e, zbite_e, zif_e, znot_e, z_add, z_sub, z_mul, z_and, z_or, z_xor, z_shl, z_shr, zcpy, -List.getElem?_cons_succ, zg_0, zg_1, zg_2, zg_3, zg_4, zg_5, zg_6, zg_7, zg_8, zg_9, zc_lt, zc_le, zc_gt, zc_ge, zc_eq, zc_ne, zc_lt0, zc_ge0, zc_gt0, zc_eq0, zc_ne0, zb_ne, zb_eq, zb_01, z_00, z_01, z_11, zb_f, zb_T, zb_F, zbm1, zbm2, zbm5, zbm6, zbm3, zbm4, nI_clamp, zmod_n, pk_div, nI_ne0, pk_mul, nI_add, nI_1, ztb_tag hk, h.1, h2]
  · intro j m _ h2 _ hK
    have hs := qS_is hk h h8 hf ha he hb h2
    unfold q4
    cases hq : sqB c a e b j with
    | false =>
      rw [hq] at hs
      refine ⟨fun v hv => (by rw [cond_false, hit_nil] at hv; cases hv), fun _ => ?_⟩
      simp (disch := omega) [zs_Squares_findColumns_2, zmeth, xm_en, zret, zretz, zretv, zseq, zst, zinc, zkl, zskip, zk, zi, za, zbin, zdiv, zrem, zgi, zgr, zld, zldr, zlen, zn, zc, zcall, zcallv, zrcv, zdo, zdov, zpf, zpfc, zas, zasc, zmin, zmax, zcmp, zcz, zand_e, zor_e, zite_e, zbite_e, zif_e, znot_e, z_add, z_sub, z_mul, z_and, z_or, z_xor, z_shl, z_shr, zcpy, -List.getElem?_cons_succ, zg_0, zg_1, zg_2, zg_3, zg_4, zg_5, zg_6, zg_7, zg_8, zg_9, hs, zb_ne, nI_1]
    | true =>
      rw [hq] at hs
      rw [cond_true]
      by_cases hh : m = i
      · refine ⟨fun v hv => ?_, fun hn => ?_⟩
        · rw [hit_1, if_pos (by omega)] at hv
          cases hv
          refine ⟨[some (Value.ref (k)), some (Value.int (nI a)), some (Value.int (nI e)), some (Value.int (nI i)), some (Value.int (nI m)), some (Value.int (nI b)), some (Value.int (nI j))], ?_⟩
          simp (disch := omega) [zs_Squares_findColumns_2, zmeth, xm_en, zret, zretz, zretv, zseq, zst, zinc, zkl, zskip, zk, zi, za, zbin, zdiv, zrem, zgi, zgr, zld, zldr, zlen, zn, zc, zcall, zcallv, zrcv, zdo, zdov, zpf, zpfc, zas, zasc, zmin, zmax, zcmp, zcz, zand_e, zor_e, zite_e, zbite_e, zif_e, znot_e, z_add, z_sub, z_mul, z_and, z_or, z_xor, z_shl, z_shr, zcpy, -List.getElem?_cons_succ, zg_0, zg_1, zg_2, zg_3, zg_4, zg_5, zg_6, zg_7, zg_8, zg_9, zc_lt, zc_le, zc_gt, zc_ge, zc_eq, zc_ne, zc_lt0, zc_ge0, zc_gt0, zc_eq0, zc_ne0, zb_ne, zb_eq, zb_01, z_00, z_01, z_11, zb_f, zb_T, zb_F, zbm1, zbm2, zbm5, zbm6, zbm3, zbm4, nI_clamp, zmod_n, pk_div, nI_ne0, pk_mul, nI_add, nI_1, hs, hh]
        · rw [hit_1, if_pos (by omega)] at hn
          cases hn
      · refine ⟨fun v hv => ?_, fun hn => ?_⟩
        · rw [hit_1, if_neg (by omega)] at hv
          cases hv
        · simp (disch := omega) [zs_Squares_findColumns_2, zmeth, xm_en, zret, zretz, zretv, zseq, zst, zinc, zkl, zskip, zk, zi, za, zbin, zdiv, zrem, zgi, zgr, zld, zldr, zlen, zn, zc, zcall, zcallv, zrcv, zdo, zdov, zpf, zpfc, zas, zasc, zmin, zmax, zcmp, zcz, zand_e, zor_e, zite_e, zbite_e, zif_e, znot_e, z_add, z_sub, z_mul, z_and, z_or, z_xor, z_shl, z_shr, zcpy, -List.getElem?_cons_succ, zg_0, zg_1, zg_2, zg_3, zg_4, zg_5, zg_6, zg_7, zg_8, zg_9, zc_lt, zc_le, zc_gt, zc_ge, zc_eq, zc_ne, zc_lt0, zc_ge0, zc_gt0, zc_eq0, zc_ne0, zb_ne, zb_eq, zb_01, z_00, z_01, z_11, zb_f, zb_T, zb_F, zbm1, zbm2, zbm5, zbm6, zbm3, zbm4, nI_clamp, zmod_n, pk_div, nI_ne0, pk_mul, nI_add, nI_1, hs, hh]
theorem qS_findColumns {M : zM} {k n a e i v : Nat} {c : tC} (hk : ztb k) (h : kT M k n c) (h1n : 1 ≤ n) (h8 : n ≤ 8) (hf : tF n c) (ha : a < n) (he : e < n) (hi : i < 2 ^ 31) (hv : hit i 0 (q2 n c 0 a e) = some v) : zf_Squares_findColumns [.ref k, .int (nI a), .int (nI e), .int (nI i)] M = some (some (nI v), M) := by
  have R : zsg (zwh zc_Squares_findColumns_1 zs_Squares_findColumns_1) [some (Value.ref (k)), some (Value.int (nI a)), some (Value.int (nI e)), some (Value.int (nI i)), some (Value.int (nI 0)), some (Value.int (nI 1)), none] M i 0 (q2 n c 0 a e) (fun m => [some (Value.ref (k)), some (Value.int (nI a)), some (Value.int (nI e)), some (Value.int (nI i)), some (Value.int (nI m)), some (Value.int (nI n)), none]) := by
    refine zwh_seg (K := 5000) (fun _ => True) (fun _ _ _ _ => trivial) (fun j m => [some (Value.ref (k)), some (Value.int (nI a)), some (Value.int (nI e)), some (Value.int (nI i)), some (Value.int (nI m)), some (Value.int (nI j)), none]) (q3 n c 0 a e) (n := n) ?_ (n - 1) 1 (by omega) ?_ ?_ 0 trivial (by have := q2_len h8 c 0 a e; unfold q2 at this; omega)
    · intro m _ _
      simp (disch := omega) [zc_Squares_findColumns_1, zmeth, xm_en, zret, zretz, zretv, zseq, zst, zinc, zkl, zskip, zk, zi, za, zbin, zdiv, zrem, zgi, zgr, zld, zldr, zlen, zn, zc, zcall, zcallv, zrcv, zdo, zdov, zpf, zpfc, zas, zasc, zmin, zmax, zcmp, zcz, zand_e, zor_e, zite_e, zbite_e, zif_e, znot_e, z_add, z_sub, z_mul, z_and, z_or, z_xor, z_shl, z_shr, zcpy, -List.getElem?_cons_succ, zg_0, zg_1, zg_2, zg_3, zg_4, zg_5, zg_6, zg_7, zg_8, zg_9, zc_lt, zc_le, zc_gt, zc_ge, zc_eq, zc_ne, zc_lt0, zc_ge0, zc_gt0, zc_eq0, zc_ne0, zb_ne, zb_eq, zb_01, z_00, z_01, z_11, zb_f, zb_T, zb_F, zbm1, zbm2, zbm5, zbm6, zbm3, zbm4, nI_clamp, zmod_n, pk_div, nI_ne0, pk_mul, nI_add, nI_1, ztb_tag hk, h.1]
    · intro j m _ h2 _ _
      simp (disch := omega) [zc_Squares_findColumns_1, zmeth, xm_en, zret, zretz, zretv, zseq, zst, zinc, zkl, zskip, zk, zi, za, zbin, zdiv, zrem, zgi, zgr, zld, zldr, zlen, zn, zc, zcall, zcallv, zrcv, zdo, zdov, zpf, zpfc, zas, zasc, zmin, zmax, zcmp, zcz, zand_e, zor_e, zite_e, zbite_e, zif_e, znot_e, z_add, z_sub, z_mul, z_and, z_or, z_xor, z_shl, z_shr, zcpy, -List.getElem?_cons_succ, zg_0, zg_1, zg_2, zg_3, zg_4, zg_5, zg_6, zg_7, zg_8, zg_9, zc_lt, zc_le, zc_gt, zc_ge, zc_eq, zc_ne, zc_lt0, zc_ge0, zc_gt0, zc_eq0, zc_ne0, zb_ne, zb_eq, zb_01, z_00, z_01, z_11, zb_f, zb_T, zb_F, zbm1, zbm2, zbm5, zbm6, zbm3, zbm4, nI_clamp, zmod_n, pk_div, nI_ne0, pk_mul, nI_add, nI_1, ztb_tag hk, h.1, h2]
    · intro j m _ h2 _ hK
      refine zsg_inc (zsg_kl (v := .int (nI (j + 1))) ?_ (Nat.le_of_ble_eq_true rfl) rfl (qS_fc2 hk h h8 hf ha he h2 hi m hK) (fun m => rfl)) (fun m => rfl) (fun m => rfl)
      simp (disch := omega) [zmeth, xm_en, zret, zretz, zretv, zseq, zst, zinc, zkl, zskip, zk, zi, za, zbin, zdiv, zrem, zgi, zgr, zld, zldr, zlen, zn, zc, zcall, zcallv, zrcv, zdo, zdov, zpf, zpfc, zas, zasc, zmin, zmax, zcmp, zcz, zand_e, zor_e, zite_e, zbite_e, zif_e, znot_e, z_add, z_sub, z_mul, z_and, z_or, z_xor, z_shl, z_shr, zcpy, -List.getElem?_cons_succ, zg_0, zg_1, zg_2, zg_3, zg_4, zg_5, zg_6, zg_7, zg_8, zg_9, zc_lt, zc_le, zc_gt, zc_ge, zc_eq, zc_ne, zc_lt0, zc_ge0, zc_gt0, zc_eq0, zc_ne0, zb_ne, zb_eq, zb_01, z_00, z_01, z_11, zb_f, zb_T, zb_F, zbm1, zbm2, zbm5, zbm6, zbm3, zbm4, nI_clamp, zmod_n, pk_div, nI_ne0, pk_mul, nI_add, nI_1]
  obtain ⟨ls', g⟩ := R.1 v hv
  simp (disch := omega) [zf_Squares_findColumns, zmeth, xm_en, zret, zretz, zretv, zseq, zst, zinc, zkl, zskip, zk, zi, za, zbin, zdiv, zrem, zgi, zgr, zld, zldr, zlen, zn, zc, zcall, zcallv, zrcv, zdo, zdov, zpf, zpfc, zas, zasc, zmin, zmax, zcmp, zcz, zand_e, zor_e, zite_e, zbite_e, zif_e, znot_e, z_add, z_sub, z_mul, z_and, z_or, z_xor, z_shl, z_shr, zcpy, -List.getElem?_cons_succ, zg_0, zg_1, zg_2, zg_3, zg_4, zg_5, zg_6, zg_7, zg_8, zg_9, g]
theorem qS_f2 {M : zM} {k n a i : Nat} {c : tC} (hk : ztb k) (h : kT M k n c) (h1n : 1 ≤ n) (h8 : n ≤ 8) (hf : tF n c) (ha : a < n) (hi : i < 2 ^ 31) (many : Nat) (hp : many ≤ i) (hm : many + (q1 n c a).length ≤ 5000) : zsg (zwh zc_Squares_find_2 zs_Squares_find_2) [some (Value.ref (k)), some (Value.int (nI i)), some (Value.int (nI many)), some (Value.int (nI a)), some (Value.int (nI (a + 1))), none] M i many (q1 n c a) (fun m => [some (Value.ref (k)), some (Value.int (nI i)), some (Value.int (nI m)), some (Value.int (nI a)), some (Value.int (nI n)), none]) := by
  have hP : ∀ many (seg : List Nat), many ≤ i → hit (i : Int) many seg = none → many + seg.length ≤ i := fun m seg h1 h2 => by
    unfold hit at h2
    split at h2
    · cases h2
    · omega
  refine zwh_seg (K := 5000) (fun m => m ≤ i) hP (fun j m => [some (Value.ref (k)), some (Value.int (nI i)), some (Value.int (nI m)), some (Value.int (nI a)), some (Value.int (nI j)), none]) (fun e => q2 n c (512 * a + 64 * e) a e) (n := n) ?_ (n - (a + 1)) (a + 1) (by omega) ?_ ?_ many hp hm
  · intro m _ _
    simp (disch := omega) [zc_Squares_find_2, zmeth, xm_en, zret, zretz, zretv, zseq, zst, zinc, zkl, zskip, zk, zi, za, zbin, zdiv, zrem, zgi, zgr, zld, zldr, zlen, zn, zc, zcall, zcallv, zrcv, zdo, zdov, zpf, zpfc, zas, zasc, zmin, zmax, zcmp, zcz, zand_e, zor_e, zite_e, zbite_e, zif_e, znot_e, z_add, z_sub, z_mul, z_and, z_or, z_xor, z_shl, z_shr, zcpy, -List.getElem?_cons_succ, zg_0, zg_1, zg_2, zg_3, zg_4, zg_5, zg_6, zg_7, zg_8, zg_9, zc_lt, zc_le, zc_gt, zc_ge, zc_eq, zc_ne, zc_lt0, zc_ge0, zc_gt0, zc_eq0, zc_ne0, zb_ne, zb_eq, zb_01, z_00, z_01, z_11, zb_f, zb_T, zb_F, zbm1, zbm2, zbm5, zbm6, zbm3, zbm4, nI_clamp, zmod_n, pk_div, nI_ne0, pk_mul, nI_add, nI_1, ztb_tag hk, h.1]
  · intro j m _ h2 _ _
    simp (disch := omega) [zc_Squares_find_2, zmeth, xm_en, zret, zretz, zretv, zseq, zst, zinc, zkl, zskip, zk, zi, za, zbin, zdiv, zrem, zgi, zgr, zld, zldr, zlen, zn, zc, zcall, zcallv, zrcv, zdo, zdov, zpf, zpfc, zas, zasc, zmin, zmax, zcmp, zcz, zand_e, zor_e, zite_e, zbite_e, zif_e, znot_e, z_add, z_sub, z_mul, z_and, z_or, z_xor, z_shl, z_shr, zcpy, -List.getElem?_cons_succ, zg_0, zg_1, zg_2, zg_3, zg_4, zg_5, zg_6, zg_7, zg_8, zg_9, zc_lt, zc_le, zc_gt, zc_ge, zc_eq, zc_ne, zc_lt0, zc_ge0, zc_gt0, zc_eq0, zc_ne0, zb_ne, zb_eq, zb_01, z_00, z_01, z_11, zb_f, zb_T, zb_F, zbm1, zbm2, zbm5, zbm6, zbm3, zbm4, nI_clamp, zmod_n, pk_div, nI_ne0, pk_mul, nI_add, nI_1, ztb_tag hk, h.1, h2]
  · intro j m _ h2 hmi hK
    have cr := qS_countInRows hk h h1n h8 hf ha h2
    have l64 := q2_len h8 c 0 a j
    have em : hit (i : Int) m (q2 n c (512 * a + 64 * j) a j) = (hit ((i - m : Nat) : Int) 0 (q2 n c 0 a j)).map (fun v => 512 * a + 64 * j + v) := by rw [q2_map, hit_map, hit_shift hmi]
    have el : (q2 n c (512 * a + 64 * j) a j).length = (q2 n c 0 a j).length := by rw [q2_map, List.length_map]
    have hsub : nI i - nI m = nI (i - m) := pk_sub hmi
    cases hh : hit ((i - m : Nat) : Int) 0 (q2 n c 0 a j) with
    | some w =>
      have hlt : i - m < (q2 n c 0 a j).length := by
        unfold hit at hh
        split at hh
        · omega
        · cases hh
      have fc := qS_findColumns hk h h1n h8 hf ha h2 (show i - m < 2 ^ 31 by omega) hh
      refine ⟨fun v hv => ?_, fun hn => ?_⟩
      · rw [em, hh] at hv
        cases hv
        refine ⟨[some (Value.ref (k)), some (Value.int (nI i)), some (Value.int (nI m)), some (Value.int (nI a)), some (Value.int (nI j)), some (Value.int (nI (q2 n c 0 a j).length))], ?_⟩
        simp (disch := omega) [zs_Squares_find_2, zmeth, xm_en, zret, zretz, zretv, zseq, zst, zinc, zkl, zskip, zk, zi, za, zbin, zdiv, zrem, zgi, zgr, zld, zldr, zlen, zn, zc, zcall, zcallv, zrcv, zdo, zdov, zpf, zpfc, zas, zasc, zmin, zmax, zcmp, zcz, zand_e, zor_e, zite_e, zbite_e, zif_e, znot_e, z_add, z_sub, z_mul, z_and, z_or, z_xor, z_shl, z_shr, zcpy, -List.getElem?_cons_succ, zg_0, zg_1, zg_2, zg_3, zg_4, zg_5, zg_6, zg_7, zg_8, zg_9, zc_lt, zc_le, zc_gt, zc_ge, zc_eq, zc_ne, zc_lt0, zc_ge0, zc_gt0, zc_eq0, zc_ne0, zb_ne, zb_eq, zb_01, z_00, z_01, z_11, zb_f, zb_T, zb_F, zbm1, zbm2, zbm5, zbm6, zbm3, zbm4, nI_clamp, zmod_n, pk_div, nI_ne0, pk_mul, nI_add, nI_1, cr, hsub, hlt, fc]
      · rw [em, hh] at hn
        cases hn
    | none =>
      have hlt : ¬ i - m < (q2 n c 0 a j).length := by
        unfold hit at hh
        split at hh
        · cases hh
        · omega
      refine ⟨fun v hv => ?_, fun hn => ?_⟩
      · rw [em, hh] at hv
        cases hv
      · rw [el]
        simp (disch := omega) [zs_Squares_find_2, zmeth, xm_en, zret, zretz, zretv, zseq, zst, zinc, zkl, zskip, zk, zi, za, zbin, zdiv, zrem, zgi, zgr, zld, zldr, zlen, zn, zc, zcall, zcallv, zrcv, zdo, zdov, zpf, zpfc, zas, zasc, zmin, zmax, zcmp, zcz, zand_e, zor_e, zite_e, zbite_e, zif_e, znot_e, z_add, z_sub, z_mul, z_and, z_or, z_xor, z_shl, z_shr, zcpy, -List.getElem?_cons_succ, zg_0, zg_1, zg_2, zg_3, zg_4, zg_5, zg_6, zg_7, zg_8, zg_9, zc_lt, zc_le, zc_gt, zc_ge, zc_eq, zc_ne, zc_lt0, zc_ge0, zc_gt0, zc_eq0, zc_ne0, zb_ne, zb_eq, zb_01, z_00, z_01, z_11, zb_f, zb_T, zb_F, zbm1, zbm2, zbm5, zbm6, zbm3, zbm4, nI_clamp, zmod_n, pk_div, nI_ne0, pk_mul, nI_add, nI_1, cr, hsub, hlt]
theorem qS_find {M : zM} {k n i : Nat} {c : tC} (hk : ztb k) (h : kT M k n c) (h1n : 1 ≤ n) (h8 : n ≤ 8) (hf : tF n c) (hi : i < 2 ^ 31) : zf_Squares_find [.ref k, .int (nI i)] M = some (some (aSq n c (nI i)), M) := by
  have hP : ∀ many (seg : List Nat), many ≤ i → hit (i : Int) many seg = none → many + seg.length ≤ i := fun m seg h1 h2 => by
    unfold hit at h2
    split at h2
    · cases h2
    · omega
  have R : zsg (zwh zc_Squares_find_1 zs_Squares_find_1) [some (Value.ref (k)), some (Value.int (nI i)), some (Value.int (nI 0)), some (Value.int (nI 1)), none, none] M i 0 (sqs n c) (fun m => [some (Value.ref (k)), some (Value.int (nI i)), some (Value.int (nI m)), some (Value.int (nI n)), none, none]) := by
    refine zwh_seg (K := 5000) (fun m => m ≤ i) hP (fun j m => [some (Value.ref (k)), some (Value.int (nI i)), some (Value.int (nI m)), some (Value.int (nI j)), none, none]) (q1 n c) (n := n) ?_ (n - 1) 1 (by omega) ?_ ?_ 0 (by omega) (by have := sqs_len h8 c; unfold sqs at this; omega)
    · intro m _ _
      simp (disch := omega) [zc_Squares_find_1, zmeth, xm_en, zret, zretz, zretv, zseq, zst, zinc, zkl, zskip, zk, zi, za, zbin, zdiv, zrem, zgi, zgr, zld, zldr, zlen, zn, zc, zcall, zcallv, zrcv, zdo, zdov, zpf, zpfc, zas, zasc, zmin, zmax, zcmp, zcz, zand_e, zor_e, zite_e, zbite_e, zif_e, znot_e, z_add, z_sub, z_mul, z_and, z_or, z_xor, z_shl, z_shr, zcpy, -List.getElem?_cons_succ, zg_0, zg_1, zg_2, zg_3, zg_4, zg_5, zg_6, zg_7, zg_8, zg_9, zc_lt, zc_le, zc_gt, zc_ge, zc_eq, zc_ne, zc_lt0, zc_ge0, zc_gt0, zc_eq0, zc_ne0, zb_ne, zb_eq, zb_01, z_00, z_01, z_11, zb_f, zb_T, zb_F, zbm1, zbm2, zbm5, zbm6, zbm3, zbm4, nI_clamp, zmod_n, pk_div, nI_ne0, pk_mul, nI_add, nI_1, ztb_tag hk, h.1]
    · intro j m _ h2 _ _
      simp (disch := omega) [zc_Squares_find_1, zmeth, xm_en, zret, zretz, zretv, zseq, zst, zinc, zkl, zskip, zk, zi, za, zbin, zdiv, zrem, zgi, zgr, zld, zldr, zlen, zn, zc, zcall, zcallv, zrcv, zdo, zdov, zpf, zpfc, zas, zasc, zmin, zmax, zcmp, zcz, zand_e, zor_e, zite_e, zbite_e, zif_e, znot_e, z_add, z_sub, z_mul, z_and, z_or, z_xor, z_shl, z_shr, zcpy, -List.getElem?_cons_succ, zg_0, zg_1, zg_2, zg_3, zg_4, zg_5, zg_6, zg_7, zg_8, zg_9, zc_lt, zc_le, zc_gt, zc_ge, zc_eq, zc_ne, zc_lt0, zc_ge0, zc_gt0, zc_eq0, zc_ne0, zb_ne, zb_eq, zb_01, z_00, z_01, z_11, zb_f, zb_T, zb_F, zbm1, zbm2, zbm5, zbm6, zbm3, zbm4, nI_clamp, zmod_n, pk_div, nI_ne0, pk_mul, nI_add, nI_1, ztb_tag hk, h.1, h2]
    · intro j m _ h2 hmi hK
      refine zsg_inc (zsg_kl (v := .int (nI (j + 1))) ?_ (Nat.le_of_ble_eq_true rfl) rfl (qS_f2 hk h h1n h8 hf h2 hi m hmi hK) (fun m => rfl)) (fun m => rfl) (fun m => rfl)
      simp (disch := omega) [zmeth, xm_en, zret, zretz, zretv, zseq, zst, zinc, zkl, zskip, zk, zi, za, zbin, zdiv, zrem, zgi, zgr, zld, zldr, zlen, zn, zc, zcall, zcallv, zrcv, zdo, zdov, zpf, zpfc, zas, zasc, zmin, zmax, zcmp, zcz, zand_e, zor_e, zite_e, zbite_e, zif_e, znot_e, z_add, z_sub, z_mul, z_and, z_or, z_xor, z_shl, z_shr, zcpy, -List.getElem?_cons_succ, zg_0, zg_1, zg_2, zg_3, zg_4, zg_5, zg_6, zg_7, zg_8, zg_9, zc_lt, zc_le, zc_gt, zc_ge, zc_eq, zc_ne, zc_lt0, zc_ge0, zc_gt0, zc_eq0, zc_ne0, zb_ne, zb_eq, zb_01, z_00, z_01, z_11, zb_f, zb_T, zb_F, zbm1, zbm2, zbm5, zbm6, zbm3, zbm4, nI_clamp, zmod_n, pk_div, nI_ne0, pk_mul, nI_add, nI_1]
  unfold aSq
  rw [nI_toInt hi]
  cases hh : hit (i : Int) 0 (sqs n c) with
  | some v =>
    obtain ⟨ls', g⟩ := R.1 v hh
    simp (disch := omega) [zf_Squares_find, zmeth, xm_en, zret, zretz, zretv, zseq, zst, zinc, zkl, zskip, zk, zi, za, zbin, zdiv, zrem, zgi, zgr, zld, zldr, zlen, zn, zc, zcall, zcallv, zrcv, zdo, zdov, zpf, zpfc, zas, zasc, zmin, zmax, zcmp, zcz, zand_e, zor_e, zite_e, zbite_e, zif_e, znot_e, z_add, z_sub, z_mul, z_and, z_or, z_xor, z_shl, z_shr, zcpy, -List.getElem?_cons_succ, zg_0, zg_1, zg_2, zg_3, zg_4, zg_5, zg_6, zg_7, zg_8, zg_9, g]
  | none =>
    have g := R.2 hh
    have hx : ¬ nI i < 0 := nI_pos hi
    simp (disch := omega) [zf_Squares_find, zmeth, xm_en, zret, zretz, zretv, zseq, zst, zinc, zkl, zskip, zk, zi, za, zbin, zdiv, zrem, zgi, zgr, zld, zldr, zlen, zn, zc, zcall, zcallv, zrcv, zdo, zdov, zpf, zpfc, zas, zasc, zmin, zmax, zcmp, zcz, zand_e, zor_e, zite_e, zbite_e, zif_e, znot_e, z_add, z_sub, z_mul, z_and, z_or, z_xor, z_shl, z_shr, zcpy, -List.getElem?_cons_succ, zg_0, zg_1, zg_2, zg_3, zg_4, zg_5, zg_6, zg_7, zg_8, zg_9, g, hx]
