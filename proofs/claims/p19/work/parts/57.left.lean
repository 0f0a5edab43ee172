/-! bitCount, place, lowest, named -/
def bc (v : Nat) : Nat := zsum (fun i => if v.testBit i = true then 1 else 0) 8
def zb1 (x : Int32) : Int32 := x - (z_ushr x (nI 1) &&& nI 1431655765)
def zb2 (x : Int32) : Int32 := (x &&& nI 858993459) + (z_ushr x (nI 2) &&& nI 858993459)
def zb3 (x : Int32) : Int32 := (x + z_ushr x (nI 4)) &&& nI 252645135
def zb4 (x : Int32) : Int32 := x + z_ushr x (nI 8)
def zb5 (x : Int32) : Int32 := x + z_ushr x (nI 16)
theorem bc_ok : ∀ v, v < 256 → zb5 (zb4 (zb3 (zb2 (zb1 (nI v))))) &&& nI 63 = nI (bc v) := by decide +kernel
theorem qI_bc {M : zM} {v : Nat} (hv : v < 256) : zf_Integer_bitCount [.int (nI v)] M = some (some (nI (bc v)), M) := by
  rw [← bc_ok v hv]
  rfl
theorem zsum_cut {f : Nat → Nat} {a : Nat} : ∀ {m : Nat}, a ≤ m → zsum (fun i => if i < a then f i else 0) m = zsum f a := by
  intro m h
  induction h with
  | refl => exact zsum_congr (fun i hi => if_pos hi)
  | step h ih =>
    rename_i m
    show zsum _ m + _ = _
    have h2 : a ≤ m := h
    rw [ih]
    show zsum f a + (if m < a then f m else 0) = _
    rw [if_neg (by omega), Nat.add_zero]
def tLs (n : Nat) (c : tC) (h : Nat) : Nat := zim (lb n c h) (fun _ => true) n
theorem NP.LS_t {n h i : Nat} {c : tC} (H : NP n c h) (hi : i < n) : (tLs n c h).testBit i = decide (lb n c h i = i) := by
  unfold tLs
  rw [zim_t, Bool.eq_iff_iff, zany_t, decide_eq_true_eq]
  simp only [Bool.true_and, decide_eq_true_eq]
  constructor
  · rintro ⟨x, hx, rfl⟩
    exact (H.lbP hx).2.2.2
  · intro e
    exact ⟨i, hi, e⟩
theorem NP.LS_lt {n h : Nat} {c : tC} (H : NP n c h) : tLs n c h < 2 ^ n := zim_lt (fun i hi _ => by have := (H.lbP hi).1; omega)
theorem NP.bc_rk {n h a : Nat} {c : tC} (H : NP n c h) (ha : a ≤ n) : bc (tLs n c h % 2 ^ a) = rk n c h a := by
  have h8 := H.1.1.2
  unfold bc
  refine Eq.trans (zsum_congr (g := fun i => if i < a then (if lb n c h i = i then 1 else 0) else 0) (fun i _ => ?_)) (zsum_cut (by omega))
  rw [Nat.testBit_mod_two_pow]
  by_cases g : i < a
  · rw [decide_eq_true g, H.LS_t (by omega), if_pos g]
    simp
  · rw [decide_eq_false g, if_neg g]
    simp
theorem NP.bc_all {n h : Nat} {c : tC} (H : NP n c h) : bc (tLs n c h) = rk n c h n := by
  rw [← H.bc_rk (Nat.le_refl n), Nat.mod_eq_of_lt H.LS_lt]
theorem NP.place {M : zM} {n h a : Nat} {c : tC} (H : NP n c h) (ha : a < n) : zf_Parts_place [.int (nI (tLs n c h)), .int (nI a)] M = some (some (nI (rk n c h a)), M) := by
  have h8 := H.1.1.2
  have s := nI_shl1 (v := a) (by omega)
  have hp : 1 ≤ 2 ^ a := Nat.two_pow_pos a
  have hl := H.LS_lt
  have hp8 := p8 h8
  have e1 : nI (tLs n c h) &&& nI (2 ^ a - 1) = nI (tLs n c h % 2 ^ a) := by rw [nI_and, Nat.and_two_pow_sub_one_eq_mod]
  have hm : tLs n c h % 2 ^ a < 256 := Nat.lt_of_le_of_lt (Nat.mod_le _ _) (by omega)
  have b := qI_bc (M := M) hm
  rw [H.bc_rk (by omega)] at b
  simp (disch := omega) [zf_Parts_place, zmeth, xm_en, zret, zretz, zretv, zseq, zst, zinc, zkl, zskip, zk, zi, za, zbin, zdiv, zrem, zgi, zgr, zld, zldr, zlen, zn, zc, zcall, zcallv, zrcv, zdo, zdov, zpf, zpfc, zas, zasc, zmin, zmax, zcmp, zcz, zand_e, zor_e, zite_e, zbite_e, zif_e, znot_e, z_add, z_sub, z_mul, z_and, z_or, z_xor, z_shl, z_shr, zcpy, -List.getElem?_cons_succ, zg_0, zg_1, zg_2, zg_3, zg_4, zg_5, zg_6, zg_7, zg_8, zg_9, s, nI_m1, e1, b]
theorem NP.least {M : zM} {k n h x : Nat} {c : tC} (H : NP n c h) (hk : ztb k) (hT : kT M k n c) (hx : x < n) : zf_Parts_leastBeside [.ref k, .int (nI x), .int (nI h)] M = some (some (nI (lb n c h x)), M) := by
  have h8 := H.1.1.2
  have hp8 := p8 h8
  have hh := H.2.2.1
  have fl := qP_fromLeft (s := h) hk hT h8 H.2.1 hx (by omega)
  have tl := tL_lt (s := h) H.2.1 hx
  have hb := H.lbP hx
  have R := zwh_find (c := zc_Parts_leastBeside_1) (s := zs_Parts_leastBeside_1) (fun j => [some (Value.ref (k)), some (Value.int (nI x)), some (Value.int (nI h)), some (Value.int (nI (tL n c x h))), some (Value.int (nI j))]) M (fun a => (tL n c x h).testBit a) (fun j => some (nI j)) (fun j => [some (Value.ref (k)), some (Value.int (nI x)), some (Value.int (nI h)), some (Value.int (nI (tL n c x h))), some (Value.int (nI j))]) (n := n) ?_ n 0 (by omega) ?_ ?_ ?_
  · have e : zidx (fun a => (tL n c x h).testBit a) 0 n = lb n c h x := rfl
    rw [e, if_pos (by omega)] at R
    simp (disch := omega) [zf_Parts_leastBeside, zmeth, xm_en, zret, zretz, zretv, zseq, zst, zinc, zkl, zskip, zk, zi, za, zbin, zdiv, zrem, zgi, zgr, zld, zldr, zlen, zn, zc, zcall, zcallv, zrcv, zdo, zdov, zpf, zpfc, zas, zasc, zmin, zmax, zcmp, zcz, zand_e, zor_e, zite_e, zbite_e, zif_e, znot_e, z_add, z_sub, z_mul, z_and, z_or, z_xor, z_shl, z_shr, zcpy, -List.getElem?_cons_succ, zg_0, zg_1, zg_2, zg_3, zg_4, zg_5, zg_6, zg_7, zg_8, zg_9, fl, R]
  · simp (disch := omega) [zc_Parts_leastBeside_1, zmeth, xm_en, zret, zretz, zretv, zseq, zst, zinc, zkl, zskip, zk, zi, za, zbin, zdiv, zrem, zgi, zgr, zld, zldr, zlen, zn, zc, zcall, zcallv, zrcv, zdo, zdov, zpf, zpfc, zas, zasc, zmin, zmax, zcmp, zcz, zand_e, zor_e, zite_e, zbite_e, zif_e, znot_e, z_add, z_sub, z_mul, z_and, z_or, z_xor, z_shl, z_shr, zcpy, -List.getElem?_cons_succ, zg_0, zg_1, zg_2, zg_3, zg_4, zg_5, zg_6, zg_7, zg_8, zg_9, zc_lt, zc_le, zc_gt, zc_ge, zc_eq, zc_ne, zc_lt0, zc_ge0, zc_gt0, zc_eq0, zc_ne0, zb_ne, zb_eq, zb_01, z_00, z_01, z_11, zb_f, zb_T, zb_F, zbm1, zbm2, zbm5, zbm6, zbm3, zbm4, nI_clamp, zmod_n, pk_div, nI_ne0, pk_mul, nI_add, nI_1, ztb_tag hk, hT.1]
  · intro j _ h2
    simp (disch := omega) [zc_Parts_leastBeside_1, zmeth, xm_en, zret, zretz, zretv, zseq, zst, zinc, zkl, zskip, zk, zi, za, zbin, zdiv, zrem, zgi, zgr, zld, zldr, zlen, zn, zc, zcall, zcallv, zrcv, zdo, zdov, zpf, zpfc, zas, zasc, zmin, zmax, zcmp, zcz, zand_e, zor_e, zite_e, zbite_e, zif_e, znot_e, z_add, z_sub, z_mul, z_and, z_or, z_xor, z_shl, z_shr, zcpy, -List.getElem?_cons_succ, zg_0, zg_1, zg_2, zg_3, zg_4, zg_5, zg_6, zg_7, zg_8, zg_9, zc_lt, zc_le, zc_gt, zc_ge, zc_eq, zc_ne, zc_lt0, zc_ge0, zc_gt0, zc_eq0, zc_ne0, zb_ne, zb_eq, zb_01, z_00, z_01, z_11, zb_f, zb_T, zb_F, zbm1, zbm2, zbm5, zbm6, zbm3, zbm4, nI_clamp, zmod_n, pk_div, nI_ne0, pk_mul, nI_add, nI_1, ztb_tag hk, hT.1, h2]
  · intro j _ h2 hq
    have g := qP_has (M := M) (s := tL n c x h) (a := j) (by omega) (by omega)
    rw [hq] at g
    simp (disch := omega) [zs_Parts_leastBeside_1, zmeth, xm_en, zret, zretz, zretv, zseq, zst, zinc, zkl, zskip, zk, zi, za, zbin, zdiv, zrem, zgi, zgr, zld, zldr, zlen, zn, zc, zcall, zcallv, zrcv, zdo, zdov, zpf, zpfc, zas, zasc, zmin, zmax, zcmp, zcz, zand_e, zor_e, zite_e, zbite_e, zif_e, znot_e, z_add, z_sub, z_mul, z_and, z_or, z_xor, z_shl, z_shr, zcpy, -List.getElem?_cons_succ, zg_0, zg_1, zg_2, zg_3, zg_4, zg_5, zg_6, zg_7, zg_8, zg_9, zc_lt, zc_le, zc_gt, zc_ge, zc_eq, zc_ne, zc_lt0, zc_ge0, zc_gt0, zc_eq0, zc_ne0, zb_ne, zb_eq, zb_01, z_00, z_01, z_11, zb_f, zb_T, zb_F, zbm1, zbm2, zbm5, zbm6, zbm3, zbm4, nI_clamp, zmod_n, pk_div, nI_ne0, pk_mul, nI_add, nI_1, g]
  · intro j _ h2 hq
    have g := qP_has (M := M) (s := tL n c x h) (a := j) (by omega) (by omega)
    rw [hq] at g
    simp (disch := omega) [zs_Parts_leastBeside_1, zmeth, xm_en, zret, zretz, zretv, zseq, zst, zinc, zkl, zskip, zk, zi, za, zbin, zdiv, zrem, zgi, zgr, zld, zldr, zlen, zn, zc, zcall, zcallv, zrcv, zdo, zdov, zpf, zpfc, zas, zasc, zmin, zmax, zcmp, zcz, zand_e, zor_e, zite_e, zbite_e, zif_e, znot_e, z_add, z_sub, z_mul, z_and, z_or, z_xor, z_shl, z_shr, zcpy, -List.getElem?_cons_succ, zg_0, zg_1, zg_2, zg_3, zg_4, zg_5, zg_6, zg_7, zg_8, zg_9, zc_lt, zc_le, zc_gt, zc_ge, zc_eq, zc_ne, zc_lt0, zc_ge0, zc_gt0, zc_eq0, zc_ne0, zb_ne, zb_eq, zb_01, z_00, z_01, z_11, zb_f, zb_T, zb_F, zbm1, zbm2, zbm5, zbm6, zbm3, zbm4, nI_clamp, zmod_n, pk_div, nI_ne0, pk_mul, nI_add, nI_1, g]
/-! the class builds it -/
theorem NP.bl1 {M : zM} {k n h : Nat} {c : tC} (H : NP n c h) (hk : ztb k) (hT : kT M k n c) : zwh zc_Parts_buildLeft_1 zs_Parts_buildLeft_1 [some (Value.ref (k)), some (Value.int (nI h)), some (Value.ref (10)), some (Value.int (nI 0)), some (Value.int (nI 0)), none, none] M = some (none, [some (Value.ref (k)), some (Value.int (nI h)), some (Value.ref (10)), some (Value.int (nI (tLs n c h))), some (Value.int (nI n)), none, none], M) := by
  have h8 := H.1.1.2
  refine zwh_up (c := zc_Parts_buildLeft_1) (s := zs_Parts_buildLeft_1) (fun j => [some (Value.ref (k)), some (Value.int (nI h)), some (Value.ref (10)), some (Value.int (nI (zim (lb n c h) (fun _ => true) j))), some (Value.int (nI j)), none, none]) (fun _ => M) (n := n) n 0 (by omega) ?_ ?_ ?_
  · intro j _ h2
    simp (disch := omega) [zc_Parts_buildLeft_1, zmeth, xm_en, zret, zretz, zretv, zseq, zst, zinc, zkl, zskip, zk, zi, za, zbin, zdiv, zrem, zgi, zgr, zld, zldr, zlen, zn, zc, zcall, zcallv, zrcv, zdo, zdov, zpf, zpfc, zas, zasc, zmin, zmax, zcmp, zcz, zand_e, zor_e, zite_e, zbite_e, zif_e, znot_e, z_add, z_sub, z_mul, z_and, z_or, z_xor, z_shl, z_shr, zcpy, -List.getElem?_cons_succ, zg_0, zg_1, zg_2, zg_3, zg_4, zg_5, zg_6, zg_7, zg_8, zg_9, zc_lt, zc_le, zc_gt, zc_ge, zc_eq, zc_ne, zc_lt0, zc_ge0, zc_gt0, zc_eq0, zc_ne0, zb_ne, zb_eq, zb_01, z_00, z_01, z_11, zb_f, zb_T, zb_F, zbm1, zbm2, zbm5, zbm6, zbm3, zbm4, nI_clamp, zmod_n, pk_div, nI_ne0, pk_mul, nI_add, nI_1, ztb_tag hk, hT.1, h2]
  · intro j _ h2
    have l := H.least (M := M) hk hT h2
    have b := (H.lbP h2).1
    have s := nI_shl1 (v := lb n c h j) (by omega)
    simp (disch := omega) [zs_Parts_buildLeft_1, zmeth, xm_en, zret, zretz, zretv, zseq, zst, zinc, zkl, zskip, zk, zi, za, zbin, zdiv, zrem, zgi, zgr, zld, zldr, zlen, zn, zc, zcall, zcallv, zrcv, zdo, zdov, zpf, zpfc, zas, zasc, zmin, zmax, zcmp, zcz, zand_e, zor_e, zite_e, zbite_e, zif_e, znot_e, z_add, z_sub, z_mul, z_and, z_or, z_xor, z_shl, z_shr, zcpy, -List.getElem?_cons_succ, zg_0, zg_1, zg_2, zg_3, zg_4, zg_5, zg_6, zg_7, zg_8, zg_9, zc_lt, zc_le, zc_gt, zc_ge, zc_eq, zc_ne, zc_lt0, zc_ge0, zc_gt0, zc_eq0, zc_ne0, zb_ne, zb_eq, zb_01, z_00, z_01, z_11, zb_f, zb_T, zb_F, zbm1, zbm2, zbm5, zbm6, zbm3, zbm4, nI_clamp, zmod_n, pk_div, nI_ne0, pk_mul, nI_add, nI_1, l, s, nI_or, zim_s]
  · simp (disch := omega) [zc_Parts_buildLeft_1, zmeth, xm_en, zret, zretz, zretv, zseq, zst, zinc, zkl, zskip, zk, zi, za, zbin, zdiv, zrem, zgi, zgr, zld, zldr, zlen, zn, zc, zcall, zcallv, zrcv, zdo, zdov, zpf, zpfc, zas, zasc, zmin, zmax, zcmp, zcz, zand_e, zor_e, zite_e, zbite_e, zif_e, znot_e, z_add, z_sub, z_mul, z_and, z_or, z_xor, z_shl, z_shr, zcpy, -List.getElem?_cons_succ, zg_0, zg_1, zg_2, zg_3, zg_4, zg_5, zg_6, zg_7, zg_8, zg_9, zc_lt, zc_le, zc_gt, zc_ge, zc_eq, zc_ne, zc_lt0, zc_ge0, zc_gt0, zc_eq0, zc_ne0, zb_ne, zb_eq, zb_01, z_00, z_01, z_11, zb_f, zb_T, zb_F, zbm1, zbm2, zbm5, zbm6, zbm3, zbm4, nI_clamp, zmod_n, pk_div, nI_ne0, pk_mul, nI_add, nI_1, ztb_tag hk, hT.1]
theorem NP.bl3 {M : zM} {k n h x : Nat} {c : tC} (H : NP n c h) (hk : ztb k) (hne : k ≠ 10) (hT : kT M k n c) (h10 : M 10 0 = nI (rk n c h n)) (hx : x < n) : zwh zc_Parts_buildLeft_3 zs_Parts_buildLeft_3 [some (Value.ref (k)), some (Value.int (nI h)), some (Value.ref (10)), some (Value.int (nI (tLs n c h))), some (Value.int (nI x)), some (Value.int (nI 0)), none] (zkf M 10 (rk n c h n) (tQ n c h) (rk n c h x) 0) = some (none, [some (Value.ref (k)), some (Value.int (nI h)), some (Value.ref (10)), some (Value.int (nI (tLs n c h))), some (Value.int (nI x)), some (Value.int (nI n)), none], zkf M 10 (rk n c h n) (tQ n c h) (rk n c h (x + 1)) 0) := by
  have h8 := H.1.1.2
  have hp8 := p8 h8
  have hl := H.LS_lt
  have r8 := H.tOP.1.2
  have hk' : ∀ a b, kT (zkf M 10 (rk n c h n) (tQ n c h) a b) k n c := fun a b => kT_kf hk tb10 hne hT
  by_cases ex : lb n c h x = x
  · have e0 : zkf M 10 (rk n c h n) (tQ n c h) (rk n c h (x + 1)) 0 = zkf M 10 (rk n c h n) (tQ n c h) (rk n c h x) (rk n c h n) := by rw [rk_s, if_pos ex, zkf_r]
    rw [e0]
    refine zwh_up (c := zc_Parts_buildLeft_3) (s := zs_Parts_buildLeft_3) (fun j => [some (Value.ref (k)), some (Value.int (nI h)), some (Value.ref (10)), some (Value.int (nI (tLs n c h))), some (Value.int (nI x)), some (Value.int (nI j)), none]) (fun j => zkf M 10 (rk n c h n) (tQ n c h) (rk n c h x) (rk n c h j)) (n := n) n 0 (by omega) ?_ ?_ ?_
    · intro j _ h2
      simp (disch := omega) [zc_Parts_buildLeft_3, zmeth, xm_en, zret, zretz, zretv, zseq, zst, zinc, zkl, zskip, zk, zi, za, zbin, zdiv, zrem, zgi, zgr, zld, zldr, zlen, zn, zc, zcall, zcallv, zrcv, zdo, zdov, zpf, zpfc, zas, zasc, zmin, zmax, zcmp, zcz, zand_e, zor_e, zite_e, zbite_e, zif_e, znot_e, z_add, z_sub, z_mul, z_and, z_or, z_xor, z_shl, z_shr, zcpy, -List.getElem?_cons_succ, zg_0, zg_1, zg_2, zg_3, zg_4, zg_5, zg_6, zg_7, zg_8, zg_9, zc_lt, zc_le, zc_gt, zc_ge, zc_eq, zc_ne, zc_lt0, zc_ge0, zc_gt0, zc_eq0, zc_ne0, zb_ne, zb_eq, zb_01, z_00, z_01, z_11, zb_f, zb_T, zb_F, zbm1, zbm2, zbm5, zbm6, zbm3, zbm4, nI_clamp, zmod_n, pk_div, nI_ne0, pk_mul, nI_add, nI_1, ztb_tag hk, (hk' _ _).1, h2]
    · intro j _ h2
      have g1 := qP_has (M := zkf M 10 (rk n c h n) (tQ n c h) (rk n c h x) (rk n c h j)) (s := tLs n c h) (a := x) (by omega) (by omega)
      have g2 := qP_has (M := zkf M 10 (rk n c h n) (tQ n c h) (rk n c h x) (rk n c h j)) (s := tLs n c h) (a := j) (by omega) (by omega)
      rw [H.LS_t hx, decide_eq_true ex] at g1
      rw [H.LS_t h2] at g2
      by_cases ej : lb n c h j = j
      · rw [decide_eq_true ej] at g2
        have hxy := H.2.1 x j hx h2
        have m := qT_mul hk (hk' (rk n c h x) (rk n c h j)) h8 H.2.1 hx h2
        have le := H.least hk (hk' (rk n c h x) (rk n c h j)) hxy
        have lbl := H.lbP hxy
        have p1 := H.place (M := zkf M 10 (rk n c h n) (tQ n c h) (rk n c h x) (rk n c h j)) hx
        have p2 := H.place (M := zkf M 10 (rk n c h n) (tQ n c h) (rk n c h x) (rk n c h j)) h2
        have p3 := H.place (M := zkf M 10 (rk n c h n) (tQ n c h) (rk n c h x) (rk n c h j)) (a := lb n c h (c x j)) (by omega)
        have rx := rk_lt (n := n) (c := c) (h := h) hx ex
        have rj := rk_lt (n := n) (c := c) (h := h) h2 ej
        have qe := H.q hx h2
        have nx : nm n c h x = rk n c h x := by unfold nm; rw [ex]
        have nj : nm n c h j = rk n c h j := by unfold nm; rw [ej]
        rw [nx, nj] at qe
        have qe2 : rk n c h (lb n c h (c x j)) = tQ n c h (rk n c h x) (rk n c h j) := qe
        have ql := H.tFP _ _ rx rj
        have e1 := zkf_s (M := M) (k := 10) (c := tQ n c h) r8 (show rk n c h x < 8 by omega) rj
        rw [zcl_lt (show tQ n c h (rk n c h x) (rk n c h j) < 8 by omega)] at e1
        have pt := qT_put (M := zkf M 10 (rk n c h n) (tQ n c h) (rk n c h x) (rk n c h j)) (v := nI (tQ n c h (rk n c h x) (rk n c h j))) tb10 (by rw [zkf_out (by omega)]; exact h10) r8 rx rj
        have es : rk n c h (j + 1) = rk n c h j + 1 := by rw [rk_s, if_pos ej]
        rw [qe2] at p3
        simp (disch := omega) [zs_Parts_buildLeft_3, zmeth, xm_en, zret, zretz, zretv, zseq, zst, zinc, zkl, zskip, zk, zi, za, zbin, zdiv, zrem, zgi, zgr, zld, zldr, zlen, zn, zc, zcall, zcallv, zrcv, zdo, zdov, zpf, zpfc, zas, zasc, zmin, zmax, zcmp, zcz, zand_e, zor_e, zite_e, zbite_e, zif_e, znot_e, z_add, z_sub, z_mul, z_and, z_or, z_xor, z_shl, z_shr, zcpy, -List.getElem?_cons_succ, zg_0, zg_1, zg_2, zg_3, zg_4, zg_5, zg_6, zg_7, zg_8, zg_9, zc_lt, zc_le, zc_gt, zc_ge, zc_eq, zc_ne, zc_lt0, zc_ge0, zc_gt0, zc_eq0, zc_ne0, zb_ne, zb_eq, zb_01, z_00, z_01, z_11, zb_f, zb_T, zb_F, zbm1, zbm2, zbm5, zbm6, zbm3, zbm4, nI_clamp, zmod_n, pk_div, nI_ne0, pk_mul, nI_add, nI_1, ztb_tag hk, ztb_tag tb10, g1, g2, m, le, p1, p2, p3, pt, e1, es]
      · rw [decide_eq_false ej] at g2
        have es : rk n c h (j + 1) = rk n c h j := by rw [rk_s, if_neg ej, Nat.add_zero]
        simp (disch := omega) [zs_Parts_buildLeft_3, zmeth, xm_en, zret, zretz, zretv, zseq, zst, zinc, zkl, zskip, zk, zi, za, zbin, zdiv, zrem, zgi, zgr, zld, zldr, zlen, zn, zc, zcall, zcallv, zrcv, zdo, zdov, zpf, zpfc, zas, zasc, zmin, zmax, zcmp, zcz, zand_e, zor_e, zite_e, zbite_e, zif_e, znot_e, z_add, z_sub, z_mul, z_and, z_or, z_xor, z_shl, z_shr, zcpy, -List.getElem?_cons_succ, zg_0, zg_1, zg_2, zg_3, zg_4, zg_5, zg_6, zg_7, zg_8, zg_9, zc_lt, zc_le, zc_gt, zc_ge, zc_eq, zc_ne, zc_lt0, zc_ge0, zc_gt0, zc_eq0, zc_ne0, zb_ne, zb_eq, zb_01, z_00, z_01, z_11, zb_f, zb_T, zb_F, zbm1, zbm2, zbm5, zbm6, zbm3, zbm4, nI_clamp, zmod_n, pk_div, nI_ne0, pk_mul, nI_add, nI_1, g1, g2, es]
    · simp (disch := omega) [zc_Parts_buildLeft_3, zmeth, xm_en, zret, zretz, zretv, zseq, zst, zinc, zkl, zskip, zk, zi, za, zbin, zdiv, zrem, zgi, zgr, zld, zldr, zlen, zn, zc, zcall, zcallv, zrcv, zdo, zdov, zpf, zpfc, zas, zasc, zmin, zmax, zcmp, zcz, zand_e, zor_e, zite_e, zbite_e, zif_e, znot_e, z_add, z_sub, z_mul, z_and, z_or, z_xor, z_shl, z_shr, zcpy, -List.getElem?_cons_succ, zg_0, zg_1, zg_2, zg_3, zg_4, zg_5, zg_6, zg_7, zg_8, zg_9, zc_lt, zc_le, zc_gt, zc_ge, zc_eq, zc_ne, zc_lt0, zc_ge0, zc_gt0, zc_eq0, zc_ne0, zb_ne, zb_eq, zb_01, z_00, z_01, z_11, zb_f, zb_T, zb_F, zbm1, zbm2, zbm5, zbm6, zbm3, zbm4, nI_clamp, zmod_n, pk_div, nI_ne0, pk_mul, nI_add, nI_1, ztb_tag hk, (hk' _ _).1]
  · have e0 : rk n c h (x + 1) = rk n c h x := by rw [rk_s, if_neg ex, Nat.add_zero]
    rw [e0]
    refine zwh_up (c := zc_Parts_buildLeft_3) (s := zs_Parts_buildLeft_3) (fun j => [some (Value.ref (k)), some (Value.int (nI h)), some (Value.ref (10)), some (Value.int (nI (tLs n c h))), some (Value.int (nI x)), some (Value.int (nI j)), none]) (fun j => zkf M 10 (rk n c h n) (tQ n c h) (rk n c h x) 0) (n := n) n 0 (by omega) ?_ ?_ ?_
    · intro j _ h2
      simp (disch := omega) [zc_Parts_buildLeft_3, zmeth, xm_en, zret, zretz, zretv, zseq, zst, zinc, zkl, zskip, zk, zi, za, zbin, zdiv, zrem, zgi, zgr, zld, zldr, zlen, zn, zc, zcall, zcallv, zrcv, zdo, zdov, zpf, zpfc, zas, zasc, zmin, zmax, zcmp, zcz, zand_e, zor_e, zite_e, zbite_e, zif_e, znot_e, z_add, z_sub, z_mul, z_and, z_or, z_xor, z_shl, z_shr, zcpy, -List.getElem?_cons_succ, zg_0, zg_1, zg_2, zg_3, zg_4, zg_5, zg_6, zg_7, zg_8, zg_9, zc_lt, zc_le, zc_gt, zc_ge, zc_eq, zc_ne, zc_lt0, zc_ge0, zc_gt0, zc_eq0, zc_ne0, zb_ne, zb_eq, zb_01, z_00, z_01, z_11, zb_f, zb_T, zb_F, zbm1, zbm2, zbm5, zbm6, zbm3, zbm4, nI_clamp, zmod_n, pk_div, nI_ne0, pk_mul, nI_add, nI_1, ztb_tag hk, (hk' _ _).1, h2]
    · intro j _ h2
      have g1 := qP_has (M := zkf M 10 (rk n c h n) (tQ n c h) (rk n c h x) 0) (s := tLs n c h) (a := x) (by omega) (by omega)
      rw [H.LS_t hx, decide_eq_false ex] at g1
      simp (disch := omega) [zs_Parts_buildLeft_3, zmeth, xm_en, zret, zretz, zretv, zseq, zst, zinc, zkl, zskip, zk, zi, za, zbin, zdiv, zrem, zgi, zgr, zld, zldr, zlen, zn, zc, zcall, zcallv, zrcv, zdo, zdov, zpf, zpfc, zas, zasc, zmin, zmax, zcmp, zcz, zand_e, zor_e, zite_e, zbite_e, zif_e, znot_e, z_add, z_sub, z_mul, z_and, z_or, z_xor, z_shl, z_shr, zcpy, -List.getElem?_cons_succ, zg_0, zg_1, zg_2, zg_3, zg_4, zg_5, zg_6, zg_7, zg_8, zg_9, zc_lt, zc_le, zc_gt, zc_ge, zc_eq, zc_ne, zc_lt0, zc_ge0, zc_gt0, zc_eq0, zc_ne0, zb_ne, zb_eq, zb_01, z_00, z_01, z_11, zb_f, zb_T, zb_F, zbm1, zbm2, zbm5, zbm6, zbm3, zbm4, nI_clamp, zmod_n, pk_div, nI_ne0, pk_mul, nI_add, nI_1, g1]
    · simp (disch := omega) [zc_Parts_buildLeft_3, zmeth, xm_en, zret, zretz, zretv, zseq, zst, zinc, zkl, zskip, zk, zi, za, zbin, zdiv, zrem, zgi, zgr, zld, zldr, zlen, zn, zc, zcall, zcallv, zrcv, zdo, zdov, zpf, zpfc, zas, zasc, zmin, zmax, zcmp, zcz, zand_e, zor_e, zite_e, zbite_e, zif_e, znot_e, z_add, z_sub, z_mul, z_and, z_or, z_xor, z_shl, z_shr, zcpy, -List.getElem?_cons_succ, zg_0, zg_1, zg_2, zg_3, zg_4, zg_5, zg_6, zg_7, zg_8, zg_9, zc_lt, zc_le, zc_gt, zc_ge, zc_eq, zc_ne, zc_lt0, zc_ge0, zc_gt0, zc_eq0, zc_ne0, zb_ne, zb_eq, zb_01, z_00, z_01, z_11, zb_f, zb_T, zb_F, zbm1, zbm2, zbm5, zbm6, zbm3, zbm4, nI_clamp, zmod_n, pk_div, nI_ne0, pk_mul, nI_add, nI_1, ztb_tag hk, (hk' _ _).1]
theorem NP.build {M : zM} {k n h : Nat} {c : tC} (H : NP n c h) (hk : ztb k) (hne : k ≠ 10) (hT : kT M k n c) : ∃ M', zf_Parts_buildLeft [.ref k, .int (nI h), .ref 10] M = some (none, M') ∧ kT M' 10 (rk n c h n) (tQ n c h) ∧ zsc M M' := by
  have h8 := H.1.1.2
  have hp8 := p8 h8
  have hl := H.LS_lt
  have r18 := H.tOP.1
  have b := qI_bc (M := M) (v := tLs n c h) (by omega)
  rw [H.bc_all] at b
  have hT2 := kT_rs (m := rk n c h n) (i := rk n c h n) hk tb10 hne hT
  have h10 : zrs M 10 (rk n c h n) (rk n c h n) 10 0 = nI (rk n c h n) := by simp [zrs]
  have hk' : ∀ a b, kT (zkf (zrs M 10 (rk n c h n) (rk n c h n)) 10 (rk n c h n) (tQ n c h) a b) k n c := fun a b => kT_kf hk tb10 hne hT2
  have R := zwh_up (c := zc_Parts_buildLeft_2) (s := zs_Parts_buildLeft_2) (fun j => [some (Value.ref (k)), some (Value.int (nI h)), some (Value.ref (10)), some (Value.int (nI (tLs n c h))), some (Value.int (nI j)), none, none]) (fun j => zkf (zrs M 10 (rk n c h n) (rk n c h n)) 10 (rk n c h n) (tQ n c h) (rk n c h j) 0) (n := n) n 0 (by omega) ?_ ?_ ?_
  · have e0 : rk n c h 0 = 0 := rfl
    rw [e0, zkf_0] at R
    refine ⟨zkf (zrs M 10 (rk n c h n) (rk n c h n)) 10 (rk n c h n) (tQ n c h) (rk n c h n) 0, ?_, zkf_kT r18.2 h10, ?_⟩
    · simp (disch := omega) [zf_Parts_buildLeft, zmeth, xm_en, zret, zretz, zretv, zseq, zst, zinc, zkl, zskip, zk, zi, za, zbin, zdiv, zrem, zgi, zgr, zld, zldr, zlen, zn, zc, zcall, zcallv, zrcv, zdo, zdov, zpf, zpfc, zas, zasc, zmin, zmax, zcmp, zcz, zand_e, zor_e, zite_e, zbite_e, zif_e, znot_e, z_add, z_sub, z_mul, z_and, z_or, z_xor, z_shl, z_shr, zcpy, -List.getElem?_cons_succ, zg_0, zg_1, zg_2, zg_3, zg_4, zg_5, zg_6, zg_7, zg_8, zg_9, zc_lt, zc_le, zc_gt, zc_ge, zc_eq, zc_ne, zc_lt0, zc_ge0, zc_gt0, zc_eq0, zc_ne0, zb_ne, zb_eq, zb_01, z_00, z_01, z_11, zb_f, zb_T, zb_F, zbm1, zbm2, zbm5, zbm6, zbm3, zbm4, nI_clamp, zmod_n, pk_div, nI_ne0, pk_mul, nI_add, nI_1, ztb_tag tb10, H.bl1 hk hT, b, qT_restart tb10 r18.1 r18.2, R]
    · intro q j hq
      rw [zkf_out (by omega)]
      unfold zrs
      rw [if_neg (by omega), if_neg (by omega)]
  · intro j _ h2
    simp (disch := omega) [zc_Parts_buildLeft_2, zmeth, xm_en, zret, zretz, zretv, zseq, zst, zinc, zkl, zskip, zk, zi, za, zbin, zdiv, zrem, zgi, zgr, zld, zldr, zlen, zn, zc, zcall, zcallv, zrcv, zdo, zdov, zpf, zpfc, zas, zasc, zmin, zmax, zcmp, zcz, zand_e, zor_e, zite_e, zbite_e, zif_e, znot_e, z_add, z_sub, z_mul, z_and, z_or, z_xor, z_shl, z_shr, zcpy, -List.getElem?_cons_succ, zg_0, zg_1, zg_2, zg_3, zg_4, zg_5, zg_6, zg_7, zg_8, zg_9, zc_lt, zc_le, zc_gt, zc_ge, zc_eq, zc_ne, zc_lt0, zc_ge0, zc_gt0, zc_eq0, zc_ne0, zb_ne, zb_eq, zb_01, z_00, z_01, z_11, zb_f, zb_T, zb_F, zbm1, zbm2, zbm5, zbm6, zbm3, zbm4, nI_clamp, zmod_n, pk_div, nI_ne0, pk_mul, nI_add, nI_1, ztb_tag hk, (hk' _ _).1, h2]
  · intro j _ h2
    have g := H.bl3 hk hne hT2 h10 h2
    simp (disch := omega) [zs_Parts_buildLeft_2, zmeth, xm_en, zret, zretz, zretv, zseq, zst, zinc, zkl, zskip, zk, zi, za, zbin, zdiv, zrem, zgi, zgr, zld, zldr, zlen, zn, zc, zcall, zcallv, zrcv, zdo, zdov, zpf, zpfc, zas, zasc, zmin, zmax, zcmp, zcz, zand_e, zor_e, zite_e, zbite_e, zif_e, znot_e, z_add, z_sub, z_mul, z_and, z_or, z_xor, z_shl, z_shr, zcpy, -List.getElem?_cons_succ, zg_0, zg_1, zg_2, zg_3, zg_4, zg_5, zg_6, zg_7, zg_8, zg_9, zc_lt, zc_le, zc_gt, zc_ge, zc_eq, zc_ne, zc_lt0, zc_ge0, zc_gt0, zc_eq0, zc_ne0, zb_ne, zb_eq, zb_01, z_00, z_01, z_11, zb_f, zb_T, zb_F, zbm1, zbm2, zbm5, zbm6, zbm3, zbm4, nI_clamp, zmod_n, pk_div, nI_ne0, pk_mul, nI_add, nI_1, g]
  · simp (disch := omega) [zc_Parts_buildLeft_2, zmeth, xm_en, zret, zretz, zretv, zseq, zst, zinc, zkl, zskip, zk, zi, za, zbin, zdiv, zrem, zgi, zgr, zld, zldr, zlen, zn, zc, zcall, zcallv, zrcv, zdo, zdov, zpf, zpfc, zas, zasc, zmin, zmax, zcmp, zcz, zand_e, zor_e, zite_e, zbite_e, zif_e, znot_e, z_add, z_sub, z_mul, z_and, z_or, z_xor, z_shl, z_shr, zcpy, -List.getElem?_cons_succ, zg_0, zg_1, zg_2, zg_3, zg_4, zg_5, zg_6, zg_7, zg_8, zg_9, zc_lt, zc_le, zc_gt, zc_ge, zc_eq, zc_ne, zc_lt0, zc_ge0, zc_gt0, zc_eq0, zc_ne0, zb_ne, zb_eq, zb_01, z_00, z_01, z_11, zb_f, zb_T, zb_F, zbm1, zbm2, zbm5, zbm6, zbm3, zbm4, nI_clamp, zmod_n, pk_div, nI_ne0, pk_mul, nI_add, nI_1, ztb_tag hk, (hk' _ _).1]
