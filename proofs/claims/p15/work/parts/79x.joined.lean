/-! name: the class's renamed -/
theorem qR_renamed {M : zM} {k n i j a b : Nat} {c : tC} (hk : ztb k) (ht : kT M k n c) (hf : tF n c) (h8 : n ≤ 8) (hi : i < 8) (hj : j < 8) (ha : a < n) (hb : b < n) (ea : M 30 i = nI a) (eb : M 30 j = nI b) : zf_Renamings_renamed [.ref 26, .ref k, .int (nI i), .int (nI j)] M = some (some (M 31 (c a b)), M) := by
  have m := qT_mul hk ht h8 hf ha hb
  have l := hf a b ha hb
  have z := zlt_y (show c a b < 8 by omega) (show 8 < 2 ^ 31 by decide)
  simp (disch := omega) [zf_Renamings_renamed, zmeth, xm_en, zret, zretz, zretv, zseq, zst, zinc, zkl, zskip, zk, zi, za, zbin, zdiv, zrem, zgi, zgr, zld, zldr, zlen, zn, zc, zcall, zcallv, zrcv, zdo, zdov, zpf, zpfc, zas, zasc, zmin, zmax, zcmp, zcz, zand_e, zor_e, zite_e, zbite_e, zif_e, znot_e, z_add, z_sub, z_mul, z_and, z_or, z_xor, z_shl, z_shr, zcpy, -List.getElem?_cons_succ, zg_0, zg_1, zg_2, zg_3, zg_4, zg_5, zg_6, zg_7, zg_8, zg_9, zt_0, zt_12, zt_20, zt_26, zt_32, zf_0_0, zf_0_1, zf_0_2, zf_0_3, zf_0_4, zf_12_0, zf_12_1, zf_12_2, zf_12_4, zf_12_5, zf_20_1, zf_20_2, zf_20_3, zf_20_4, zf_20_6, zf_26_0, zf_26_1, zf_26_2, zf_26_3, zf_32_0, zf_32_1, zf_32_3, zf_32_4, zf_32_5, zf_32_6, nI_clamp, ztb_tag hk, zi_30, zi_31, ea, eb, m, qL_isBelow, zb_ne, z]
/-! name: the class's keepRenamed writes the renamed table -/
def KR (M0 : zM) (c : tC) (f : Nat → Nat) (n x y : Nat) (M : zM) : Prop := (∀ q j, q ≠ 28 ∨ j < 8 ∨ j % 8 = 0 → M q j = M0 q j) ∧ ∀ i j, 1 ≤ i → 1 ≤ j → i < n → j < n → (i < x ∨ i = x ∧ j < y) → M 28 (8 * i + j) = M0 31 (c (f i) (f j))
theorem qR_kr1 {M0 : zM} {k n : Nat} {c : tC} {f : Nat → Nat} (hk : ztb k) (hk2 : k < 10) (ht : kT M0 k n c) (hf : tF n c) (h8 : n ≤ 8) (h1 : 1 ≤ n) (hl : M0 27 0 = nI n) (hn : ∀ i, i < n → M0 30 i = nI (f i) ∧ f i < n) : ∃ M', zwh zc_Renamings_keepRenamed_1 zs_Renamings_keepRenamed_1 [some (Value.ref (26)), some (Value.ref (k)), some (Value.int (nI 1)), none] M0 = some (none, [some (Value.ref (26)), some (Value.ref (k)), some (Value.int (nI n)), none], M') ∧ KR M0 c f n n 1 M' := by
  have kt : ∀ {x y : Nat} {M : zM}, KR M0 c f n x y M → kT M k n c := fun g => ht.same (fun j => g.1 _ _ (by omega)) (fun j => g.1 _ _ (by omega))
  have inner := fun (x : Nat) (hx1 : 1 ≤ x) (hx : x < n) (M : zM) (h : KR M0 c f n x 1 M) => zwh_inv (c := zc_Renamings_keepRenamed_2) (s := zs_Renamings_keepRenamed_2) (fun y ls M' => ls = [some (Value.ref (26)), some (Value.ref (k)), some (Value.int (nI x)), some (Value.int (nI y))] ∧ 1 ≤ y ∧ KR M0 c f n x y M') (Q := fun r ls M' => r = none ∧ ls = [some (Value.ref (26)), some (Value.ref (k)), some (Value.int (nI x)), some (Value.int (nI n))] ∧ KR M0 c f n x n M') (n := n) (fun ls M' q => by
    obtain ⟨rfl, _, q⟩ := q
    exact ⟨by simp (disch := omega) [zc_Renamings_keepRenamed_2, zmeth, xm_en, zret, zretz, zretv, zseq, zst, zinc, zkl, zskip, zk, zi, za, zbin, zdiv, zrem, zgi, zgr, zld, zldr, zlen, zn, zc, zcall, zcallv, zrcv, zdo, zdov, zpf, zpfc, zas, zasc, zmin, zmax, zcmp, zcz, zand_e, zor_e, zite_e, zbite_e, zif_e, znot_e, z_add, z_sub, z_mul, z_and, z_or, z_xor, z_shl, z_shr, zcpy, -List.getElem?_cons_succ, zg_0, zg_1, zg_2, zg_3, zg_4, zg_5, zg_6, zg_7, zg_8, zg_9, zc_lt, zc_le, zc_gt, zc_ge, zc_eq, zc_ne, zc_lt0, zc_ge0, zc_gt0, zc_eq0, zc_ne0, zb_ne, zb_eq, zb_01, z_00, z_01, z_11, zb_f, zb_T, zb_F, zbm1, zbm2, zbm5, zbm6, zbm3, zbm4, nI_clamp, zmod_n, pk_div, nI_ne0, pk_mul, nI_add, nI_1, ztb_tag hk, (kt q).1], rfl, rfl, q⟩) (n - 1) 1 (by omega) (fun y ls M' hy1 hy q => by
    obtain ⟨rfl, _, q⟩ := q
    refine ⟨by simp (disch := omega) [zc_Renamings_keepRenamed_2, zmeth, xm_en, zret, zretz, zretv, zseq, zst, zinc, zkl, zskip, zk, zi, za, zbin, zdiv, zrem, zgi, zgr, zld, zldr, zlen, zn, zc, zcall, zcallv, zrcv, zdo, zdov, zpf, zpfc, zas, zasc, zmin, zmax, zcmp, zcz, zand_e, zor_e, zite_e, zbite_e, zif_e, znot_e, z_add, z_sub, z_mul, z_and, z_or, z_xor, z_shl, z_shr, zcpy, -List.getElem?_cons_succ, zg_0, zg_1, zg_2, zg_3, zg_4, zg_5, zg_6, zg_7, zg_8, zg_9, zc_lt, zc_le, zc_gt, zc_ge, zc_eq, zc_ne, zc_lt0, zc_ge0, zc_gt0, zc_eq0, zc_ne0, zb_ne, zb_eq, zb_01, z_00, z_01, z_11, zb_f, zb_T, zb_F, zbm1, zbm2, zbm5, zbm6, zbm3, zbm4, nI_clamp, zmod_n, pk_div, nI_ne0, pk_mul, nI_add, nI_1, ztb_tag hk, (kt q).1, hy], ?_⟩
    have r := qR_renamed hk (kt q) hf h8 (show x < 8 by omega) (show y < 8 by omega) (hn x hx).2 (hn y hy).2 ((q.1 _ _ (by omega)).trans (hn x hx).1) ((q.1 _ _ (by omega)).trans (hn y hy).1)
    have r31 : M' 31 (c (f x) (f y)) = M0 31 (c (f x) (f y)) := q.1 _ _ (by omega)
    rw [r31] at r
    have p := qT_put (M := M') (v := M0 31 (c (f x) (f y))) tb27 ((q.1 27 0 (by omega)).trans hl) h8 hx hy
    refine ⟨none, _, zup M' 28 (8 * x + y) (M0 31 (c (f x) (f y))), by simp (disch := omega) [zs_Renamings_keepRenamed_2, zmeth, xm_en, zret, zretz, zretv, zseq, zst, zinc, zkl, zskip, zk, zi, za, zbin, zdiv, zrem, zgi, zgr, zld, zldr, zlen, zn, zc, zcall, zcallv, zrcv, zdo, zdov, zpf, zpfc, zas, zasc, zmin, zmax, zcmp, zcz, zand_e, zor_e, zite_e, zbite_e, zif_e, znot_e, z_add, z_sub, z_mul, z_and, z_or, z_xor, z_shl, z_shr, zcpy, -List.getElem?_cons_succ, zg_0, zg_1, zg_2, zg_3, zg_4, zg_5, zg_6, zg_7, zg_8, zg_9, zc_lt, zc_le, zc_gt, zc_ge, zc_eq, zc_ne, zc_lt0, zc_ge0, zc_gt0, zc_eq0, zc_ne0, zb_ne, zb_eq, zb_01, z_00, z_01, z_11, zb_f, zb_T, zb_F, zbm1, zbm2, zbm5, zbm6, zbm3, zbm4, nI_clamp, zmod_n, pk_div, nI_ne0, pk_mul, nI_add, nI_1, zt_0, zt_12, zt_20, zt_26, zt_32, zf_0_0, zf_0_1, zf_0_2, zf_0_3, zf_0_4, zf_12_0, zf_12_1, zf_12_2, zf_12_4, zf_12_5, zf_20_1, zf_20_2, zf_20_3, zf_20_4, zf_20_6, zf_26_0, zf_26_1, zf_26_2, zf_26_3, zf_32_0, zf_32_1, zf_32_3, zf_32_4, zf_32_5, zf_32_6, ztb_tag tb27, r, p], rfl, by omega, fun q' j hq => ?_, fun i j a1 a2 a3 a4 a5 => ?_⟩
    · rw [zup_e, if_neg (by omega)]
      exact q.1 q' j hq
    · rw [zup_e]
      by_cases e : i = x ∧ j = y
      · rw [if_pos ⟨rfl, by omega⟩, e.1, e.2]
      · rw [if_neg (by omega)]
        exact q.2 i j a1 a2 a3 a4 (by omega)) [some (Value.ref (26)), some (Value.ref (k)), some (Value.int (nI x)), some (Value.int (nI 1))] M ⟨rfl, Nat.le_refl 1, h⟩
  obtain ⟨r, ls, M', w1, rfl, rfl, w2⟩ := zwh_inv (c := zc_Renamings_keepRenamed_1) (s := zs_Renamings_keepRenamed_1) (fun x ls M' => ls = [some (Value.ref (26)), some (Value.ref (k)), some (Value.int (nI x)), none] ∧ KR M0 c f n x 1 M') (Q := fun r ls M' => r = none ∧ ls = [some (Value.ref (26)), some (Value.ref (k)), some (Value.int (nI n)), none] ∧ KR M0 c f n n 1 M') (n := n) (fun ls M' q => by
    obtain ⟨rfl, q⟩ := q
    exact ⟨by simp (disch := omega) [zc_Renamings_keepRenamed_1, zmeth, xm_en, zret, zretz, zretv, zseq, zst, zinc, zkl, zskip, zk, zi, za, zbin, zdiv, zrem, zgi, zgr, zld, zldr, zlen, zn, zc, zcall, zcallv, zrcv, zdo, zdov, zpf, zpfc, zas, zasc, zmin, zmax, zcmp, zcz, zand_e, zor_e, zite_e, zbite_e, zif_e, znot_e, z_add, z_sub, z_mul, z_and, z_or, z_xor, z_shl, z_shr, zcpy, -List.getElem?_cons_succ, zg_0, zg_1, zg_2, zg_3, zg_4, zg_5, zg_6, zg_7, zg_8, zg_9, zc_lt, zc_le, zc_gt, zc_ge, zc_eq, zc_ne, zc_lt0, zc_ge0, zc_gt0, zc_eq0, zc_ne0, zb_ne, zb_eq, zb_01, z_00, z_01, z_11, zb_f, zb_T, zb_F, zbm1, zbm2, zbm5, zbm6, zbm3, zbm4, nI_clamp, zmod_n, pk_div, nI_ne0, pk_mul, nI_add, nI_1, ztb_tag hk, (kt q).1], rfl, rfl, q⟩) (n - 1) 1 (by omega) (fun x ls M' hx1 hx q => by
    obtain ⟨rfl, q⟩ := q
    refine ⟨by simp (disch := omega) [zc_Renamings_keepRenamed_1, zmeth, xm_en, zret, zretz, zretv, zseq, zst, zinc, zkl, zskip, zk, zi, za, zbin, zdiv, zrem, zgi, zgr, zld, zldr, zlen, zn, zc, zcall, zcallv, zrcv, zdo, zdov, zpf, zpfc, zas, zasc, zmin, zmax, zcmp, zcz, zand_e, zor_e, zite_e, zbite_e, zif_e, znot_e, z_add, z_sub, z_mul, z_and, z_or, z_xor, z_shl, z_shr, zcpy, -List.getElem?_cons_succ, zg_0, zg_1, zg_2, zg_3, zg_4, zg_5, zg_6, zg_7, zg_8, zg_9, zc_lt, zc_le, zc_gt, zc_ge, zc_eq, zc_ne, zc_lt0, zc_ge0, zc_gt0, zc_eq0, zc_ne0, zb_ne, zb_eq, zb_01, z_00, z_01, z_11, zb_f, zb_T, zb_F, zbm1, zbm2, zbm5, zbm6, zbm3, zbm4, nI_clamp, zmod_n, pk_div, nI_ne0, pk_mul, nI_add, nI_1, ztb_tag hk, (kt q).1, hx], ?_⟩
    obtain ⟨r, ls, M2, e2, rfl, rfl, g2⟩ := inner x hx1 hx M' q
    exact ⟨none, _, M2, by simp (disch := omega) [zs_Renamings_keepRenamed_1, zmeth, xm_en, zret, zretz, zretv, zseq, zst, zinc, zkl, zskip, zk, zi, za, zbin, zdiv, zrem, zgi, zgr, zld, zldr, zlen, zn, zc, zcall, zcallv, zrcv, zdo, zdov, zpf, zpfc, zas, zasc, zmin, zmax, zcmp, zcz, zand_e, zor_e, zite_e, zbite_e, zif_e, znot_e, z_add, z_sub, z_mul, z_and, z_or, z_xor, z_shl, z_shr, zcpy, -List.getElem?_cons_succ, zg_0, zg_1, zg_2, zg_3, zg_4, zg_5, zg_6, zg_7, zg_8, zg_9, zc_lt, zc_le, zc_gt, zc_ge, zc_eq, zc_ne, zc_lt0, zc_ge0, zc_gt0, zc_eq0, zc_ne0, zb_ne, zb_eq, zb_01, z_00, z_01, z_11, zb_f, zb_T, zb_F, zbm1, zbm2, zbm5, zbm6, zbm3, zbm4, nI_clamp, zmod_n, pk_div, nI_ne0, pk_mul, nI_add, nI_1, e2], rfl, g2.1, fun i j a1 a2 a3 a4 a5 => g2.2 i j a1 a2 a3 a4 (by omega)⟩) [some (Value.ref (26)), some (Value.ref (k)), some (Value.int (nI 1)), none] M0 ⟨rfl, fun _ _ _ => rfl, fun i j a1 a2 a3 a4 a5 => by omega⟩
  exact ⟨M', w1, w2⟩
/-! name: the reference's against writes the renamed table -/
def AK (M0 : zM) (c : tC) (g : Nat → Nat) (n x y : Nat) (M : zM) : Prop := F5 M0 M ∧ ∀ i j, i < n → j < n → (i < x ∨ i = x ∧ j < y) → M 34 (320 + 8 * g i + g j) = nI (g (c i j))
theorem qM_ak1 {M0 : zM} {t1 t2 n : Nat} {c : tC} {g : Nat → Nat} (h1 : t1 < 5) (h2 : t2 < 5) (hr : rT M0 t1 n c) (hf : tF n c) (h8 : n ≤ 8) (hg : ∀ k, k < n → M0 36 k = nI (g k) ∧ g k < n) (hi : ∀ k k', k < n → k' < n → g k = g k' → k = k') : ∃ M', zwh zc_M_against_1 zs_M_against_1 [some (Value.ref (32)), some (Value.int (nI t1)), some (Value.int (nI t2)), some (Value.int (nI n)), some (Value.int (nI 0)), none, none] M0 = some (none, [some (Value.ref (32)), some (Value.int (nI t1)), some (Value.int (nI t2)), some (Value.int (nI n)), some (Value.int (nI n)), none, none], M') ∧ AK M0 c g n n 0 M' := by
  have im : ∀ {M' : zM} {k : Nat}, F5 M0 M' → k < n → M' 36 k = nI (g k) := fun q hk => (q _ _ (by omega) (by omega)).trans (hg _ hk).1
  have inner := fun (a : Nat) (ha : a < n) (M : zM) (h : AK M0 c g n a 0 M) => zwh_inv (c := zc_M_against_2) (s := zs_M_against_2) (fun b ls M' => ls = [some (Value.ref (32)), some (Value.int (nI t1)), some (Value.int (nI t2)), some (Value.int (nI n)), some (Value.int (nI a)), some (Value.int (nI b)), none] ∧ AK M0 c g n a b M') (Q := fun r ls M' => r = none ∧ ls = [some (Value.ref (32)), some (Value.int (nI t1)), some (Value.int (nI t2)), some (Value.int (nI n)), some (Value.int (nI a)), some (Value.int (nI n)), none] ∧ AK M0 c g n a n M') (n := n) (fun ls M' q => by
    obtain ⟨rfl, q⟩ := q
    exact ⟨by simp (disch := omega) [zc_M_against_2, zmeth, xm_en, zret, zretz, zretv, zseq, zst, zinc, zkl, zskip, zk, zi, za, zbin, zdiv, zrem, zgi, zgr, zld, zldr, zlen, zn, zc, zcall, zcallv, zrcv, zdo, zdov, zpf, zpfc, zas, zasc, zmin, zmax, zcmp, zcz, zand_e, zor_e, zite_e, zbite_e, zif_e, znot_e, z_add, z_sub, z_mul, z_and, z_or, z_xor, z_shl, z_shr, zcpy, -List.getElem?_cons_succ, zg_0, zg_1, zg_2, zg_3, zg_4, zg_5, zg_6, zg_7, zg_8, zg_9, zc_lt, zc_le, zc_gt, zc_ge, zc_eq, zc_ne, zc_lt0, zc_ge0, zc_gt0, zc_eq0, zc_ne0, zb_ne, zb_eq, zb_01, z_00, z_01, z_11, zb_f, zb_T, zb_F, zbm1, zbm2, zbm5, zbm6, zbm3, zbm4, nI_clamp, zmod_n, pk_div, nI_ne0, pk_mul, nI_add, nI_1], rfl, rfl, q⟩) n 0 (by omega) (fun b ls M2 _ hb q => by
    obtain ⟨rfl, q, q2⟩ := q
    refine ⟨by simp (disch := omega) [zc_M_against_2, zmeth, xm_en, zret, zretz, zretv, zseq, zst, zinc, zkl, zskip, zk, zi, za, zbin, zdiv, zrem, zgi, zgr, zld, zldr, zlen, zn, zc, zcall, zcallv, zrcv, zdo, zdov, zpf, zpfc, zas, zasc, zmin, zmax, zcmp, zcz, zand_e, zor_e, zite_e, zbite_e, zif_e, znot_e, z_add, z_sub, z_mul, z_and, z_or, z_xor, z_shl, z_shr, zcpy, -List.getElem?_cons_succ, zg_0, zg_1, zg_2, zg_3, zg_4, zg_5, zg_6, zg_7, zg_8, zg_9, zc_lt, zc_le, zc_gt, zc_ge, zc_eq, zc_ne, zc_lt0, zc_ge0, zc_gt0, zc_eq0, zc_ne0, zb_ne, zb_eq, zb_01, z_00, z_01, z_11, zb_f, zb_T, zb_F, zbm1, zbm2, zbm5, zbm6, zbm3, zbm4, nI_clamp, zmod_n, pk_div, nI_ne0, pk_mul, nI_add, nI_1, hb], ?_⟩
    have cl := qM_mul (show t1 < 6 by omega) (q.rT h1 h8 hr) h8 hf ha hb
    have i1 := im q ha
    have i2 := im q hb
    have i3 := im q (hf a b ha hb)
    have b1 := (hg a ha).2
    have b2 := (hg b hb).2
    have b3 := hf a b ha hb
    have p := qM_puts (M := M2) (t := 5) (a := g a) (b := g b) (v := nI (g (c a b))) (by omega)
    refine ⟨none, _, zup M2 34 (64 * 5 + 8 * g a + g b) (nI (g (c a b))), ?_, rfl, fun q' j z1 z2 => ?_, fun i j a1 a2 a3 => ?_⟩
    · simp (disch := omega) [zs_M_against_2, zmeth, xm_en, zret, zretz, zretv, zseq, zst, zinc, zkl, zskip, zk, zi, za, zbin, zdiv, zrem, zgi, zgr, zld, zldr, zlen, zn, zc, zcall, zcallv, zrcv, zdo, zdov, zpf, zpfc, zas, zasc, zmin, zmax, zcmp, zcz, zand_e, zor_e, zite_e, zbite_e, zif_e, znot_e, z_add, z_sub, z_mul, z_and, z_or, z_xor, z_shl, z_shr, zcpy, -List.getElem?_cons_succ, zg_0, zg_1, zg_2, zg_3, zg_4, zg_5, zg_6, zg_7, zg_8, zg_9, zc_lt, zc_le, zc_gt, zc_ge, zc_eq, zc_ne, zc_lt0, zc_ge0, zc_gt0, zc_eq0, zc_ne0, zb_ne, zb_eq, zb_01, z_00, z_01, z_11, zb_f, zb_T, zb_F, zbm1, zbm2, zbm5, zbm6, zbm3, zbm4, nI_clamp, zmod_n, pk_div, nI_ne0, pk_mul, nI_add, nI_1, zt_0, zt_12, zt_20, zt_26, zt_32, zf_0_0, zf_0_1, zf_0_2, zf_0_3, zf_0_4, zf_12_0, zf_12_1, zf_12_2, zf_12_4, zf_12_5, zf_20_1, zf_20_2, zf_20_3, zf_20_4, zf_20_6, zf_26_0, zf_26_1, zf_26_2, zf_26_3, zf_32_0, zf_32_1, zf_32_3, zf_32_4, zf_32_5, zf_32_6, zi_36, i1, i2, i3, cl, p]
    · rw [zup_e, if_neg (by omega)]
      exact q q' j z1 z2
    · rw [zup_e]
      have c1 := (hg i a1).2
      have c2 := (hg j a2).2
      by_cases e : i = a ∧ j = b
      · rw [if_pos ⟨rfl, by rw [e.1, e.2]⟩, e.1, e.2]
      · have ne : ¬ (g i = g a ∧ g j = g b) := fun w => e ⟨hi i a a1 ha w.1, hi j b a2 hb w.2⟩
        rw [if_neg (by omega)]
        exact q2 i j a1 a2 (by omega)) [some (Value.ref (32)), some (Value.int (nI t1)), some (Value.int (nI t2)), some (Value.int (nI n)), some (Value.int (nI a)), some (Value.int (nI 0)), none] M ⟨rfl, h⟩
  obtain ⟨r, ls, M', w1, rfl, rfl, w2⟩ := zwh_inv (c := zc_M_against_1) (s := zs_M_against_1) (fun a ls M' => ls = [some (Value.ref (32)), some (Value.int (nI t1)), some (Value.int (nI t2)), some (Value.int (nI n)), some (Value.int (nI a)), none, none] ∧ AK M0 c g n a 0 M') (Q := fun r ls M' => r = none ∧ ls = [some (Value.ref (32)), some (Value.int (nI t1)), some (Value.int (nI t2)), some (Value.int (nI n)), some (Value.int (nI n)), none, none] ∧ AK M0 c g n n 0 M') (n := n) (fun ls M' q => by
    obtain ⟨rfl, q⟩ := q
    exact ⟨by simp (disch := omega) [zc_M_against_1, zmeth, xm_en, zret, zretz, zretv, zseq, zst, zinc, zkl, zskip, zk, zi, za, zbin, zdiv, zrem, zgi, zgr, zld, zldr, zlen, zn, zc, zcall, zcallv, zrcv, zdo, zdov, zpf, zpfc, zas, zasc, zmin, zmax, zcmp, zcz, zand_e, zor_e, zite_e, zbite_e, zif_e, znot_e, z_add, z_sub, z_mul, z_and, z_or, z_xor, z_shl, z_shr, zcpy, -List.getElem?_cons_succ, zg_0, zg_1, zg_2, zg_3, zg_4, zg_5, zg_6, zg_7, zg_8, zg_9, zc_lt, zc_le, zc_gt, zc_ge, zc_eq, zc_ne, zc_lt0, zc_ge0, zc_gt0, zc_eq0, zc_ne0, zb_ne, zb_eq, zb_01, z_00, z_01, z_11, zb_f, zb_T, zb_F, zbm1, zbm2, zbm5, zbm6, zbm3, zbm4, nI_clamp, zmod_n, pk_div, nI_ne0, pk_mul, nI_add, nI_1], rfl, rfl, q⟩) n 0 (by omega) (fun a ls M' _ ha q => by
    obtain ⟨rfl, q⟩ := q
    refine ⟨by simp (disch := omega) [zc_M_against_1, zmeth, xm_en, zret, zretz, zretv, zseq, zst, zinc, zkl, zskip, zk, zi, za, zbin, zdiv, zrem, zgi, zgr, zld, zldr, zlen, zn, zc, zcall, zcallv, zrcv, zdo, zdov, zpf, zpfc, zas, zasc, zmin, zmax, zcmp, zcz, zand_e, zor_e, zite_e, zbite_e, zif_e, znot_e, z_add, z_sub, z_mul, z_and, z_or, z_xor, z_shl, z_shr, zcpy, -List.getElem?_cons_succ, zg_0, zg_1, zg_2, zg_3, zg_4, zg_5, zg_6, zg_7, zg_8, zg_9, zc_lt, zc_le, zc_gt, zc_ge, zc_eq, zc_ne, zc_lt0, zc_ge0, zc_gt0, zc_eq0, zc_ne0, zb_ne, zb_eq, zb_01, z_00, z_01, z_11, zb_f, zb_T, zb_F, zbm1, zbm2, zbm5, zbm6, zbm3, zbm4, nI_clamp, zmod_n, pk_div, nI_ne0, pk_mul, nI_add, nI_1, ha], ?_⟩
    obtain ⟨r, ls, M2, e2, rfl, rfl, g2⟩ := inner a ha M' q
    exact ⟨none, _, M2, by simp (disch := omega) [zs_M_against_1, zmeth, xm_en, zret, zretz, zretv, zseq, zst, zinc, zkl, zskip, zk, zi, za, zbin, zdiv, zrem, zgi, zgr, zld, zldr, zlen, zn, zc, zcall, zcallv, zrcv, zdo, zdov, zpf, zpfc, zas, zasc, zmin, zmax, zcmp, zcz, zand_e, zor_e, zite_e, zbite_e, zif_e, znot_e, z_add, z_sub, z_mul, z_and, z_or, z_xor, z_shl, z_shr, zcpy, -List.getElem?_cons_succ, zg_0, zg_1, zg_2, zg_3, zg_4, zg_5, zg_6, zg_7, zg_8, zg_9, zc_lt, zc_le, zc_gt, zc_ge, zc_eq, zc_ne, zc_lt0, zc_ge0, zc_gt0, zc_eq0, zc_ne0, zb_ne, zb_eq, zb_01, z_00, z_01, z_11, zb_f, zb_T, zb_F, zbm1, zbm2, zbm5, zbm6, zbm3, zbm4, nI_clamp, zmod_n, pk_div, nI_ne0, pk_mul, nI_add, nI_1, e2], rfl, g2.1, fun i j a1 a2 a3 => g2.2 i j a1 a2 (by omega)⟩) _ M0 ⟨rfl, fun _ _ _ _ => rfl, fun i j a1 a2 a3 => by omega⟩
  exact ⟨M', w1, w2⟩
/-! name: renamings as lists of the old elements in the order of their new names; the order of tables -/
def gd : List Nat → Nat → Nat
  | [], _ => 0
  | a :: _, 0 => a
  | _ :: l, i + 1 => gd l i
def px : List Nat → Nat → Nat
  | [], _ => 0
  | a :: l, x => if a = x then 0 else px l x + 1
theorem px_mem : ∀ {l : List Nat} {x : Nat}, x ∈ l → px l x < l.length ∧ gd l (px l x) = x
  | [], x, h => by cases h
  | a :: l, x, h => by
    by_cases e : a = x
    · subst e
      simp [px, gd]
    · have h2 : x ∈ l := by
        rcases List.mem_cons.mp h with q | q
        · exact absurd q.symm e
        · exact q
      have := px_mem h2
      simp only [px, if_neg e, gd, List.length_cons]
      exact ⟨by omega, this.2⟩
theorem gd_mem : ∀ {l : List Nat} {i : Nat}, i < l.length → gd l i ∈ l
  | [], i, h => absurd h (Nat.not_lt_zero i)
  | a :: l, 0, _ => List.mem_cons_self ..
  | a :: l, i + 1, h => List.mem_cons_of_mem _ (gd_mem (by simpa using h))
theorem px_get : ∀ {l : List Nat} {i : Nat}, l.Nodup → i < l.length → px l (gd l i) = i
  | [], i, _, h => absurd h (Nat.not_lt_zero i)
  | a :: l, 0, _, _ => if_pos rfl
  | a :: l, i + 1, hn, h => by
    have h2 : i < l.length := by simpa using h
    have n2 := List.nodup_cons.mp hn
    have ne : a ≠ gd l i := fun e => n2.1 (e ▸ gd_mem h2)
    show (if a = gd l i then 0 else px l (gd l i) + 1) = i + 1
    rw [if_neg ne, px_get n2.2 h2]
theorem gd_app : ∀ {l m : List Nat} {i : Nat}, i < l.length → gd (l ++ m) i = gd l i
  | [], _, i, h => absurd h (Nat.not_lt_zero i)
  | a :: l, m, 0, _ => rfl
  | a :: l, m, i + 1, h => gd_app (l := l) (by simpa using h)
theorem gd_new : ∀ {l m : List Nat} {x : Nat}, gd (l ++ x :: m) l.length = x
  | [], _, _ => rfl
  | a :: l, m, x => gd_new (l := l)
theorem px_app : ∀ {l m : List Nat} {x : Nat}, x ∈ l → px (l ++ m) x = px l x
  | [], _, _, h => by cases h
  | a :: l, m, x, h => by
    show (if a = x then 0 else px (l ++ m) x + 1) = if a = x then 0 else px l x + 1
    by_cases e : a = x
    · rw [if_pos e, if_pos e]
    · have h2 : x ∈ l := by
        rcases List.mem_cons.mp h with q | q
        · exact absurd q.symm e
        · exact q
      rw [if_neg e, if_neg e, px_app h2]
theorem px_out : ∀ {l m : List Nat} {x : Nat}, x ∉ l → px (l ++ m) x = l.length + px m x
  | [], m, x, _ => (Nat.zero_add _).symm
  | a :: l, m, x, h => by
    have e : a ≠ x := fun q => h (q ▸ List.mem_cons_self ..)
    show (if a = x then 0 else px (l ++ m) x + 1) = _
    rw [if_neg e, px_out (fun q => h (List.mem_cons_of_mem _ q)), List.length_cons]
    omega
theorem nd_le {α : Type} [DecidableEq α] : ∀ {A B : List α}, A.Nodup → (∀ x, x ∈ A → x ∈ B) → A.length ≤ B.length
  | [], B, _, _ => Nat.zero_le _
  | a :: A, B, hn, h => by
    have n2 := List.nodup_cons.mp hn
    have ha := h a (List.mem_cons_self ..)
    have q := nd_le (A := A) (B := B.erase a) n2.2 (fun x hx => (List.mem_erase_of_ne (show x ≠ a from fun e => n2.1 (e ▸ hx))).mpr (h x (List.mem_cons_of_mem _ hx)))
    rw [List.length_erase_of_mem ha] at q
    have := List.length_pos_of_mem ha
    simp only [List.length_cons]
    omega
theorem nd_all {n : Nat} {l : List Nat} (h : l.Nodup) (h1 : l.length = n) (h2 : ∀ x, x ∈ l → x < n) {x : Nat} (hx : x < n) : x ∈ l := by
  by_cases q : x ∈ l
  · exact q
  · have := nd_le (A := x :: l) (B := List.range n) (List.nodup_cons.mpr ⟨q, h⟩) (fun y hy => by
      rw [List.mem_range]
      rcases List.mem_cons.mp hy with e | e
      · exact e ▸ hx
      · exact h2 y e)
    simp only [List.length_cons, List.length_range] at this
    omega
def PL (n : Nat) (l : List Nat) : Prop := l.length = n ∧ l.Nodup ∧ (∀ x, x ∈ l → x < n) ∧ gd l 0 = 0
def PP (n : Nat) (l : List Nat) : Prop := (1 ≤ l.length ∧ l.length ≤ n) ∧ l.Nodup ∧ (∀ x, x ∈ l → x < n) ∧ gd l 0 = 0
theorem PL.gl {n i : Nat} {l : List Nat} (h : PL n l) (hi : i < n) : gd l i < n := h.2.2.1 _ (gd_mem (by rw [h.1]; exact hi))
theorem PL.mem {n x : Nat} {l : List Nat} (h : PL n l) (hx : x < n) : x ∈ l := nd_all h.2.1 h.1 h.2.2.1 hx
theorem PL.pl {n x : Nat} {l : List Nat} (h : PL n l) (hx : x < n) : px l x < n := by
  have := (px_mem (h.mem hx)).1
  rw [h.1] at this
  exact this
theorem PL.gp {n x : Nat} {l : List Nat} (h : PL n l) (hx : x < n) : gd l (px l x) = x := (px_mem (h.mem hx)).2
theorem PL.pg {n i : Nat} {l : List Nat} (h : PL n l) (hi : i < n) : px l (gd l i) = i := px_get h.2.1 (by rw [h.1]; exact hi)
theorem PP.gl {n i : Nat} {l : List Nat} (h : PP n l) (hi : i < l.length) : gd l i < n := h.2.2.1 _ (gd_mem hi)
theorem PP.full {n : Nat} {l : List Nat} (h : PP n l) (e : l.length = n) : PL n l := ⟨e, h.2⟩
theorem PP.mem0 {n : Nat} {l : List Nat} (h : PP n l) : 0 ∈ l := by
  have := gd_mem (l := l) (i := 0) (by have := h.1; omega)
  rw [h.2.2.2] at this
  exact this
theorem PP.up {n x : Nat} {l : List Nat} (h : PP n l) (hl : l.length < n) (hx : x < n) (q : x ∉ l) : PP n (l ++ [x]) := by
  refine ⟨by rw [List.length_append, List.length_singleton]; omega, ?_, fun y hy => ?_, ?_⟩
  · rw [List.nodup_append]
    refine ⟨h.2.1, List.nodup_cons.mpr ⟨List.not_mem_nil, List.nodup_nil⟩, fun a ha b hb e => ?_⟩
    rw [List.mem_singleton] at hb
    subst e
    subst hb
    exact q ha
  · rcases List.mem_append.mp hy with e | e
    · exact h.2.2.1 y e
    · rw [List.mem_singleton] at e
      exact e ▸ hx
  · rw [gd_app (by have := h.1; omega)]
    exact h.2.2.2
/-- the table renamed -/
def rn (c : tC) (l : List Nat) : tC := fun i j => px l (c (gd l i) (gd l j))
theorem rn_F {n : Nat} {c : tC} {l : List Nat} (hf : tF n c) (h : PL n l) : tF n (rn c l) := fun _ _ hi hj => h.pl (hf _ _ (h.gl hi) (h.gl hj))
theorem rn_O {n : Nat} {c : tC} {l : List Nat} (hO : tO n c) (hf : tF n c) (h : PL n l) : tO n (rn c l) := by
  have h0 : gd l 0 = 0 := h.2.2.2
  refine ⟨hO.1, fun a ha => ⟨?_, ?_⟩, fun a b ha hb => Or.inl (rn_F hf h a b ha hb), fun a b d ha hb hd e _ => ?_, fun a b d ha hb hd e _ => ?_⟩
  · show px l (c (gd l 0) (gd l a)) = a
    rw [h0, (hO.2.1 _ (h.gl ha)).1, h.pg ha]
  · show px l (c (gd l a) (gd l 0)) = a
    rw [h0, (hO.2.1 _ (h.gl ha)).2, h.pg ha]
  · have f1 := hf _ _ (h.gl ha) (h.gl hb)
    have f2 := hf _ _ (h.gl ha) (h.gl hd)
    have e2 : c (gd l a) (gd l b) = c (gd l a) (gd l d) := by
      rw [← h.gp f1, ← h.gp f2]
      exact congrArg (gd l) e
    have e3 := hO.2.2.2.1 _ _ _ (h.gl ha) (h.gl hb) (h.gl hd) e2 (Nat.lt_of_lt_of_le f1 hO.1.2)
    rw [← h.pg hb, ← h.pg hd, e3]
  · have f1 := hf _ _ (h.gl ha) (h.gl hd)
    have f2 := hf _ _ (h.gl hb) (h.gl hd)
    have e2 : c (gd l a) (gd l d) = c (gd l b) (gd l d) := by
      rw [← h.gp f1, ← h.gp f2]
      exact congrArg (gd l) e
    have e3 := hO.2.2.2.2 _ _ _ (h.gl ha) (h.gl hb) (h.gl hd) e2 (Nat.lt_of_lt_of_le f1 hO.1.2)
    rw [← h.pg ha, ← h.pg hb, e3]
def tq (n : Nat) (A B : tC) : Prop := ∀ i j, i < n → j < n → A i j = B i j
def tl (n : Nat) (A B : tC) : Prop := ∃ i j, i < n ∧ j < n ∧ A i j < B i j ∧ ∀ x y, x < n → y < n → (x < i ∨ x = i ∧ y < j) → A x y = B x y
theorem tq.symm {n : Nat} {A B : tC} (h : tq n A B) : tq n B A := fun i j hi hj => (h i j hi hj).symm
theorem tq.trans {n : Nat} {A B C : tC} (h : tq n A B) (h2 : tq n B C) : tq n A C := fun i j hi hj => (h i j hi hj).trans (h2 i j hi hj)
theorem tl_ne {n : Nat} {A B : tC} (h : tl n A B) (q : tq n A B) : False := by
  obtain ⟨i, j, hi, hj, h1, _⟩ := h
  have := q i j hi hj
  omega
theorem tl_as {n : Nat} {A B : tC} (h : tl n A B) (g : tl n B A) : False := by
  obtain ⟨i, j, hi, hj, h1, h2⟩ := h
  obtain ⟨x, y, hx, hy, g1, g2⟩ := g
  by_cases e : i < x ∨ i = x ∧ j < y
  · have := g2 i j hi hj e
    omega
  · by_cases e2 : x < i ∨ x = i ∧ y < j
    · have := h2 x y hx hy e2
      omega
    · have e3 : i = x := by omega
      have e4 : j = y := by omega
      subst e3
      subst e4
      omega
theorem tl_tr {n : Nat} {A B C : tC} (h : tl n A B) (g : tl n B C) : tl n A C := by
  obtain ⟨i, j, hi, hj, h1, h2⟩ := h
  obtain ⟨x, y, hx, hy, g1, g2⟩ := g
  by_cases e : i < x ∨ i = x ∧ j < y
  · refine ⟨i, j, hi, hj, by have := g2 i j hi hj e; omega, fun a b ha hb q => (h2 a b ha hb q).trans (g2 a b ha hb (by omega))⟩
  · by_cases e2 : x < i ∨ x = i ∧ y < j
    · refine ⟨x, y, hx, hy, by have := h2 x y hx hy e2; omega, fun a b ha hb q => (h2 a b ha hb (by omega)).trans (g2 a b ha hb q)⟩
    · have e3 : i = x := by omega
      have e4 : j = y := by omega
      subst e3
      subst e4
      exact ⟨i, j, hi, hj, by omega, fun a b ha hb q => (h2 a b ha hb q).trans (g2 a b ha hb q)⟩
theorem tl_l {n : Nat} {A B C : tC} (q : tq n A B) (h : tl n A C) : tl n B C := by
  obtain ⟨i, j, hi, hj, h1, h2⟩ := h
  exact ⟨i, j, hi, hj, by rw [← q i j hi hj]; exact h1, fun x y hx hy e => (q x y hx hy).symm.trans (h2 x y hx hy e)⟩
theorem tl_r {n : Nat} {A B C : tC} (q : tq n B C) (h : tl n A B) : tl n A C := by
  obtain ⟨i, j, hi, hj, h1, h2⟩ := h
  exact ⟨i, j, hi, hj, by rw [← q i j hi hj]; exact h1, fun x y hx hy e => (h2 x y hx hy e).trans (q x y hx hy)⟩
theorem tl_to {n : Nat} (h8 : n ≤ 8) (A B : tC) : tl n A B ∨ tq n A B ∨ tl n B A := by
  have key : ∀ p, (∀ i j, i < n → j < n → 8 * i + j < p → A i j = B i j) ∨ tl n A B ∨ tl n B A := by
    intro p
    induction p with
    | zero => exact Or.inl (fun i j _ _ h => absurd h (Nat.not_lt_zero _))
    | succ p ih =>
      rcases ih with ih | ih
      · by_cases e : p / 8 < n ∧ p % 8 < n
        · have before : ∀ x y, x < n → y < n → (x < p / 8 ∨ x = p / 8 ∧ y < p % 8) → A x y = B x y := fun x y hx hy q => ih x y hx hy (by omega)
          rcases Nat.lt_trichotomy (A (p / 8) (p % 8)) (B (p / 8) (p % 8)) with q | q | q
          · exact Or.inr (Or.inl ⟨_, _, e.1, e.2, q, before⟩)
          · refine Or.inl (fun i j hi hj h => ?_)
            by_cases z : 8 * i + j < p
            · exact ih i j hi hj z
            · have z1 : i = p / 8 := by omega
              have z2 : j = p % 8 := by omega
              rw [z1, z2]
              exact q
          · exact Or.inr (Or.inr ⟨_, _, e.1, e.2, q, fun x y hx hy z => (before x y hx hy z).symm⟩)
        · exact Or.inl (fun i j hi hj h => ih i j hi hj (by omega))
      · exact Or.inr ih
  rcases key 64 with h | h | h
  · exact Or.inr (Or.inl (fun i j hi hj => h i j hi hj (by omega)))
  · exact Or.inl h
  · exact Or.inr (Or.inr h)
/-- N is the least of the renamed tables -/
def LEA (n : Nat) (c N : tC) : Prop := (∃ l, PL n l ∧ tq n N (rn c l)) ∧ ∀ l, PL n l → ¬ tl n (rn c l) N
theorem LEA_u {n : Nat} {c A B : tC} (h8 : n ≤ 8) (a : LEA n c A) (b : LEA n c B) : tq n A B := by
  obtain ⟨⟨l, l1, l2⟩, a2⟩ := a
  obtain ⟨⟨m, m1, m2⟩, b2⟩ := b
  rcases tl_to h8 A B with h | h | h
  · exact absurd (tl_l l2 h) (b2 l l1)
  · exact h
  · exact absurd (tl_l m2 h) (a2 m m1)
noncomputable def nmN (n : Nat) (c : tC) : tC := Classical.epsilon (LEA n c)
theorem nmN_q {n : Nat} {c N : tC} (h8 : n ≤ 8) (h : LEA n c N) : tq n N (nmN n c) := LEA_u h8 h (Classical.epsilon_spec (p := LEA n c) ⟨N, h⟩)
theorem LEA_O {n : Nat} {c N : tC} (hO : tO n c) (hf : tF n c) (h : LEA n c N) : tO n N ∧ tF n N := by
  obtain ⟨⟨l, l1, l2⟩, _⟩ := h
  have o := rn_O hO hf l1
  have f := rn_F hf l1
  refine ⟨⟨o.1, fun a ha => ⟨?_, ?_⟩, fun a b ha hb => ?_, fun a b d ha hb hd e g => ?_, fun a b d ha hb hd e g => ?_⟩, fun a b ha hb => ?_⟩
  · rw [l2 0 a (by omega) ha]
    exact (o.2.1 a ha).1
  · rw [l2 a 0 ha (by omega)]
    exact (o.2.1 a ha).2
  · rw [l2 a b ha hb]
    exact o.2.2.1 a b ha hb
  · rw [l2 a b ha hb] at e g
    rw [l2 a d ha hd] at e
    exact o.2.2.2.1 a b d ha hb hd e g
  · rw [l2 a d ha hd] at e g
    rw [l2 b d hb hd] at e
    exact o.2.2.2.2 a b d ha hb hd e g
  · rw [l2 a b ha hb]
    exact f a b ha hb
/-! name: the class's compare -/
def NM (M : zM) (l : List Nat) : Prop := (∀ i, i < l.length → M 30 i = nI (gd l i)) ∧ ∀ x, x < 8 → M 31 x = if x ∈ l then nI (px l x) else -1
def ex (l l' : List Nat) : Prop := ∃ m, l' = l ++ m
def CQ (n : Nat) (c B : tC) (l : List Nat) (r : Int32) : Prop := (r = nI 1 ∧ ∀ l', PL n l' → ex l l' → tl n B (rn c l')) ∨ (r = -1 ∧ ∀ l', PL n l' → ex l l' → tl n (rn c l') B) ∨ (r = nI 0 ∧ (l.length = n → tq n (rn c l) B))
/-- all cells ahead of (i, j) are known and as in B -/
def KE (c B : tC) (l : List Nat) (n i j : Nat) : Prop := ∀ x y, 1 ≤ x → 1 ≤ y → y < n → (x < i ∨ x = i ∧ y < j) → x < l.length ∧ y < l.length ∧ c (gd l x) (gd l y) ∈ l ∧ px l (c (gd l x) (gd l y)) = B x y
theorem KE.up {n i j : Nat} {c B : tC} {l l' : List Nat} (h : KE c B l n i j) (hO : tO n c) (hf : tF n c) (hB : ∀ a, a < n → B 0 a = a ∧ B a 0 = a) (hl' : PL n l') (he : ex l l') : ∀ x y, x < n → y < n → (x < i ∨ x = i ∧ y < j) → rn c l' x y = B x y := by
  intro x y hx hy q
  have o := rn_O hO hf hl'
  by_cases x0 : x = 0
  · subst x0
    rw [(o.2.1 y hy).1, (hB y hy).1]
  · by_cases y0 : y = 0
    · subst y0
      rw [(o.2.1 x hx).2, (hB x hx).2]
    · obtain ⟨h1, h2, h3, h4⟩ := h x y (by omega) (by omega) hy q
      obtain ⟨m, rfl⟩ := he
      show px (l ++ m) (c (gd (l ++ m) x) (gd (l ++ m) y)) = B x y
      rw [gd_app h1, gd_app h2, px_app h3]
      exact h4
theorem qR_cmp2 {M : zM} {k n i : Nat} {c B : tC} {l : List Nat} (hk : ztb k) (ht : kT M k n c) (hO : tO n c) (hf : tF n c) (hB : kT M 27 n B) (hBf : tF n B) (hBu : ∀ a, a < n → B 0 a = a ∧ B a 0 = a) (hl : PP n l) (hN : NM M l) (hi1 : 1 ≤ i) (hi : i < l.length) (hK : KE c B l n i 1) : ∃ r ls, zwh zc_Renamings_compare_2 zs_Renamings_compare_2 [some (Value.ref (26)), some (Value.ref (k)), some (Value.int (nI l.length)), some (Value.int (nI i)), some (Value.int (nI 1)), none, none] M = some (r, ls, M) ∧ ((r = none ∧ ls = [some (Value.ref (26)), some (Value.ref (k)), some (Value.int (nI l.length)), some (Value.int (nI i)), some (Value.int (nI n)), none, none] ∧ KE c B l n i n) ∨ ∃ v, r = some (some v) ∧ CQ n c B l v) := by
  have h8 := hO.1.2
  have hl1 := hl.1
  obtain ⟨r, ls, M', w1, rfl, w2⟩ := zwh_inv (c := zc_Renamings_compare_2) (s := zs_Renamings_compare_2) (fun j ls M' => M' = M ∧ ls = [some (Value.ref (26)), some (Value.ref (k)), some (Value.int (nI l.length)), some (Value.int (nI i)), some (Value.int (nI j)), none, none] ∧ KE c B l n i j) (Q := fun r ls M' => M' = M ∧ ((r = none ∧ ls = [some (Value.ref (26)), some (Value.ref (k)), some (Value.int (nI l.length)), some (Value.int (nI i)), some (Value.int (nI n)), none, none] ∧ KE c B l n i n) ∨ ∃ v, r = some (some v) ∧ CQ n c B l v)) (n := n) (fun ls M' q => by
    obtain ⟨rfl, rfl, q⟩ := q
    exact ⟨by simp (disch := omega) [zc_Renamings_compare_2, zmeth, xm_en, zret, zretz, zretv, zseq, zst, zinc, zkl, zskip, zk, zi, za, zbin, zdiv, zrem, zgi, zgr, zld, zldr, zlen, zn, zc, zcall, zcallv, zrcv, zdo, zdov, zpf, zpfc, zas, zasc, zmin, zmax, zcmp, zcz, zand_e, zor_e, zite_e, zbite_e, zif_e, znot_e, z_add, z_sub, z_mul, z_and, z_or, z_xor, z_shl, z_shr, zcpy, -List.getElem?_cons_succ, zg_0, zg_1, zg_2, zg_3, zg_4, zg_5, zg_6, zg_7, zg_8, zg_9, zc_lt, zc_le, zc_gt, zc_ge, zc_eq, zc_ne, zc_lt0, zc_ge0, zc_gt0, zc_eq0, zc_ne0, zb_ne, zb_eq, zb_01, z_00, z_01, z_11, zb_f, zb_T, zb_F, zbm1, zbm2, zbm5, zbm6, zbm3, zbm4, nI_clamp, zmod_n, pk_div, nI_ne0, pk_mul, nI_add, nI_1, ztb_tag hk, ht.1], rfl, Or.inl ⟨rfl, rfl, q⟩⟩) (n - 1) 1 (by omega) (fun j ls M' hj1 hj q => by
    obtain ⟨rfl, rfl, q⟩ := q
    refine ⟨by simp (disch := omega) [zc_Renamings_compare_2, zmeth, xm_en, zret, zretz, zretv, zseq, zst, zinc, zkl, zskip, zk, zi, za, zbin, zdiv, zrem, zgi, zgr, zld, zldr, zlen, zn, zc, zcall, zcallv, zrcv, zdo, zdov, zpf, zpfc, zas, zasc, zmin, zmax, zcmp, zcz, zand_e, zor_e, zite_e, zbite_e, zif_e, znot_e, z_add, z_sub, z_mul, z_and, z_or, z_xor, z_shl, z_shr, zcpy, -List.getElem?_cons_succ, zg_0, zg_1, zg_2, zg_3, zg_4, zg_5, zg_6, zg_7, zg_8, zg_9, zc_lt, zc_le, zc_gt, zc_ge, zc_eq, zc_ne, zc_lt0, zc_ge0, zc_gt0, zc_eq0, zc_ne0, zb_ne, zb_eq, zb_01, z_00, z_01, z_11, zb_f, zb_T, zb_F, zbm1, zbm2, zbm5, zbm6, zbm3, zbm4, nI_clamp, zmod_n, pk_div, nI_ne0, pk_mul, nI_add, nI_1, ztb_tag hk, ht.1, hj], ?_⟩
    by_cases hm : l.length ≤ j
    · exact ⟨some (some (nI 0)), _, M', by simp (disch := omega) [zs_Renamings_compare_2, zmeth, xm_en, zret, zretz, zretv, zseq, zst, zinc, zkl, zskip, zk, zi, za, zbin, zdiv, zrem, zgi, zgr, zld, zldr, zlen, zn, zc, zcall, zcallv, zrcv, zdo, zdov, zpf, zpfc, zas, zasc, zmin, zmax, zcmp, zcz, zand_e, zor_e, zite_e, zbite_e, zif_e, znot_e, z_add, z_sub, z_mul, z_and, z_or, z_xor, z_shl, z_shr, zcpy, -List.getElem?_cons_succ, zg_0, zg_1, zg_2, zg_3, zg_4, zg_5, zg_6, zg_7, zg_8, zg_9, zc_lt, zc_le, zc_gt, zc_ge, zc_eq, zc_ne, zc_lt0, zc_ge0, zc_gt0, zc_eq0, zc_ne0, zb_ne, zb_eq, zb_01, z_00, z_01, z_11, zb_f, zb_T, zb_F, zbm1, zbm2, zbm5, zbm6, zbm3, zbm4, nI_clamp, zmod_n, pk_div, nI_ne0, pk_mul, nI_add, nI_1, hm]; rfl, rfl, Or.inr ⟨nI 0, rfl, Or.inr (Or.inr ⟨rfl, fun e => by omega⟩)⟩⟩
    · have hj2 : j < l.length := by omega
      have tm := qT_mul tb27 hB h8 hBf (show i < n by omega) hj
      have rd := qR_renamed hk ht hf h8 (show i < 8 by omega) (show j < 8 by omega) (hl.gl hi) (hl.gl hj2) (hN.1 i hi) (hN.1 j hj2)
      have cl := hf _ _ (hl.gl hi) (hl.gl hj2)
      have b8 := hBf i j (by omega) hj
      have n31 := hN.2 (c (gd l i) (gd l j)) (by omega)
      rw [n31] at rd
      by_cases hin : c (gd l i) (gd l j) ∈ l
      · rw [if_pos hin] at rd
        have p8 := (px_mem hin).1
        have m1 : xe_cd .eq (nI (px l (c (gd l i) (gd l j)))) (-1) = false := by
          have := zcl_m1 (px l (c (gd l i) (gd l j)))
          rw [zcl_lt (by omega)] at this
          rw [this]
          exact decide_eq_false (by omega)
        have val : ∀ l', ex l l' → rn c l' i j = px l (c (gd l i) (gd l j)) := fun l' he => by
          obtain ⟨m, rfl⟩ := he
          show px (l ++ m) (c (gd (l ++ m) i) (gd (l ++ m) j)) = _
          rw [gd_app hi, gd_app hj2, px_app hin]
        rcases Nat.lt_trichotomy (px l (c (gd l i) (gd l j))) (B i j) with g | g | g
        · have ne : ¬ px l (c (gd l i) (gd l j)) = B i j := by omega
          exact ⟨some (some (-1)), _, M', by simp (disch := omega) [zs_Renamings_compare_2, zmeth, xm_en, zret, zretz, zretv, zseq, zst, zinc, zkl, zskip, zk, zi, za, zbin, zdiv, zrem, zgi, zgr, zld, zldr, zlen, zn, zc, zcall, zcallv, zrcv, zdo, zdov, zpf, zpfc, zas, zasc, zmin, zmax, zcmp, zcz, zand_e, zor_e, zite_e, zbite_e, zif_e, znot_e, z_add, z_sub, z_mul, z_and, z_or, z_xor, z_shl, z_shr, zcpy, -List.getElem?_cons_succ, zg_0, zg_1, zg_2, zg_3, zg_4, zg_5, zg_6, zg_7, zg_8, zg_9, zc_lt, zc_le, zc_gt, zc_ge, zc_eq, zc_ne, zc_lt0, zc_ge0, zc_gt0, zc_eq0, zc_ne0, zb_ne, zb_eq, zb_01, z_00, z_01, z_11, zb_f, zb_T, zb_F, zbm1, zbm2, zbm5, zbm6, zbm3, zbm4, nI_clamp, zmod_n, pk_div, nI_ne0, pk_mul, nI_add, nI_1, zt_0, zt_12, zt_20, zt_26, zt_32, zf_0_0, zf_0_1, zf_0_2, zf_0_3, zf_0_4, zf_12_0, zf_12_1, zf_12_2, zf_12_4, zf_12_5, zf_20_1, zf_20_2, zf_20_3, zf_20_4, zf_20_6, zf_26_0, zf_26_1, zf_26_2, zf_26_3, zf_32_0, zf_32_1, zf_32_3, zf_32_4, zf_32_5, zf_32_6, ztb_tag tb27, hm, tm, rd, m1, ne, g]; rfl, rfl, Or.inr ⟨-1, rfl, Or.inr (Or.inl ⟨rfl, fun l' hl' he => ⟨i, j, by omega, hj, by rw [val l' he]; exact g, q.up hO hf hBu hl' he⟩⟩)⟩⟩
        · have g0 := g
          rw [g] at rd m1
          refine ⟨none, _, M', by simp (disch := omega) [zs_Renamings_compare_2, zmeth, xm_en, zret, zretz, zretv, zseq, zst, zinc, zkl, zskip, zk, zi, za, zbin, zdiv, zrem, zgi, zgr, zld, zldr, zlen, zn, zc, zcall, zcallv, zrcv, zdo, zdov, zpf, zpfc, zas, zasc, zmin, zmax, zcmp, zcz, zand_e, zor_e, zite_e, zbite_e, zif_e, znot_e, z_add, z_sub, z_mul, z_and, z_or, z_xor, z_shl, z_shr, zcpy, -List.getElem?_cons_succ, zg_0, zg_1, zg_2, zg_3, zg_4, zg_5, zg_6, zg_7, zg_8, zg_9, zc_lt, zc_le, zc_gt, zc_ge, zc_eq, zc_ne, zc_lt0, zc_ge0, zc_gt0, zc_eq0, zc_ne0, zb_ne, zb_eq, zb_01, z_00, z_01, z_11, zb_f, zb_T, zb_F, zbm1, zbm2, zbm5, zbm6, zbm3, zbm4, nI_clamp, zmod_n, pk_div, nI_ne0, pk_mul, nI_add, nI_1, zt_0, zt_12, zt_20, zt_26, zt_32, zf_0_0, zf_0_1, zf_0_2, zf_0_3, zf_0_4, zf_12_0, zf_12_1, zf_12_2, zf_12_4, zf_12_5, zf_20_1, zf_20_2, zf_20_3, zf_20_4, zf_20_6, zf_26_0, zf_26_1, zf_26_2, zf_26_3, zf_32_0, zf_32_1, zf_32_3, zf_32_4, zf_32_5, zf_32_6, ztb_tag tb27, hm, tm, rd, m1], rfl, rfl, fun x y hx hy hyn e => ?_⟩
          by_cases z : x = i ∧ y = j
          · rw [z.1, z.2]
            exact ⟨hi, hj2, hin, g⟩
          · exact q x y hx hy hyn (by omega)
        · have ne : ¬ px l (c (gd l i) (gd l j)) = B i j := by omega
          have nl : ¬ px l (c (gd l i) (gd l j)) < B i j := by omega
          exact ⟨some (some (nI 1)), _, M', by simp (disch := omega) [zs_Renamings_compare_2, zmeth, xm_en, zret, zretz, zretv, zseq, zst, zinc, zkl, zskip, zk, zi, za, zbin, zdiv, zrem, zgi, zgr, zld, zldr, zlen, zn, zc, zcall, zcallv, zrcv, zdo, zdov, zpf, zpfc, zas, zasc, zmin, zmax, zcmp, zcz, zand_e, zor_e, zite_e, zbite_e, zif_e, znot_e, z_add, z_sub, z_mul, z_and, z_or, z_xor, z_shl, z_shr, zcpy, -List.getElem?_cons_succ, zg_0, zg_1, zg_2, zg_3, zg_4, zg_5, zg_6, zg_7, zg_8, zg_9, zc_lt, zc_le, zc_gt, zc_ge, zc_eq, zc_ne, zc_lt0, zc_ge0, zc_gt0, zc_eq0, zc_ne0, zb_ne, zb_eq, zb_01, z_00, z_01, z_11, zb_f, zb_T, zb_F, zbm1, zbm2, zbm5, zbm6, zbm3, zbm4, nI_clamp, zmod_n, pk_div, nI_ne0, pk_mul, nI_add, nI_1, zt_0, zt_12, zt_20, zt_26, zt_32, zf_0_0, zf_0_1, zf_0_2, zf_0_3, zf_0_4, zf_12_0, zf_12_1, zf_12_2, zf_12_4, zf_12_5, zf_20_1, zf_20_2, zf_20_3, zf_20_4, zf_20_6, zf_26_0, zf_26_1, zf_26_2, zf_26_3, zf_32_0, zf_32_1, zf_32_3, zf_32_4, zf_32_5, zf_32_6, ztb_tag tb27, hm, tm, rd, m1, ne, nl]; rfl, rfl, Or.inr ⟨nI 1, rfl, Or.inl ⟨rfl, fun l' hl' he => ⟨i, j, by omega, hj, by rw [val l' he]; exact g, fun x y hx hy e => (q.up hO hf hBu hl' he x y hx hy e).symm⟩⟩⟩⟩
      · rw [if_neg hin] at rd
        have m1 : xe_cd .eq (-1 : Int32) (-1) = true := by decide
        by_cases g : B i j < l.length
        · exact ⟨some (some (nI 1)), _, M', by simp (disch := omega) [zs_Renamings_compare_2, zmeth, xm_en, zret, zretz, zretv, zseq, zst, zinc, zkl, zskip, zk, zi, za, zbin, zdiv, zrem, zgi, zgr, zld, zldr, zlen, zn, zc, zcall, zcallv, zrcv, zdo, zdov, zpf, zpfc, zas, zasc, zmin, zmax, zcmp, zcz, zand_e, zor_e, zite_e, zbite_e, zif_e, znot_e, z_add, z_sub, z_mul, z_and, z_or, z_xor, z_shl, z_shr, zcpy, -List.getElem?_cons_succ, zg_0, zg_1, zg_2, zg_3, zg_4, zg_5, zg_6, zg_7, zg_8, zg_9, zc_lt, zc_le, zc_gt, zc_ge, zc_eq, zc_ne, zc_lt0, zc_ge0, zc_gt0, zc_eq0, zc_ne0, zb_ne, zb_eq, zb_01, z_00, z_01, z_11, zb_f, zb_T, zb_F, zbm1, zbm2, zbm5, zbm6, zbm3, zbm4, nI_clamp, zmod_n, pk_div, nI_ne0, pk_mul, nI_add, nI_1, zt_0, zt_12, zt_20, zt_26, zt_32, zf_0_0, zf_0_1, zf_0_2, zf_0_3, zf_0_4, zf_12_0, zf_12_1, zf_12_2, zf_12_4, zf_12_5, zf_20_1, zf_20_2, zf_20_3, zf_20_4, zf_20_6, zf_26_0, zf_26_1, zf_26_2, zf_26_3, zf_32_0, zf_32_1, zf_32_3, zf_32_4, zf_32_5, zf_32_6, ztb_tag tb27, hm, tm, rd, m1, g]; rfl, rfl, Or.inr ⟨nI 1, rfl, Or.inl ⟨rfl, fun l' hl' he => ⟨i, j, by omega, hj, by
            obtain ⟨m, rfl⟩ := he
            show B i j < px (l ++ m) (c (gd (l ++ m) i) (gd (l ++ m) j))
            rw [gd_app hi, gd_app hj2, px_out hin]
            omega, fun x y hx hy e => (q.up hO hf hBu hl' he x y hx hy e).symm⟩⟩⟩⟩
        · exact ⟨some (some (nI 0)), _, M', by simp (disch := omega) [zs_Renamings_compare_2, zmeth, xm_en, zret, zretz, zretv, zseq, zst, zinc, zkl, zskip, zk, zi, za, zbin, zdiv, zrem, zgi, zgr, zld, zldr, zlen, zn, zc, zcall, zcallv, zrcv, zdo, zdov, zpf, zpfc, zas, zasc, zmin, zmax, zcmp, zcz, zand_e, zor_e, zite_e, zbite_e, zif_e, znot_e, z_add, z_sub, z_mul, z_and, z_or, z_xor, z_shl, z_shr, zcpy, -List.getElem?_cons_succ, zg_0, zg_1, zg_2, zg_3, zg_4, zg_5, zg_6, zg_7, zg_8, zg_9, zc_lt, zc_le, zc_gt, zc_ge, zc_eq, zc_ne, zc_lt0, zc_ge0, zc_gt0, zc_eq0, zc_ne0, zb_ne, zb_eq, zb_01, z_00, z_01, z_11, zb_f, zb_T, zb_F, zbm1, zbm2, zbm5, zbm6, zbm3, zbm4, nI_clamp, zmod_n, pk_div, nI_ne0, pk_mul, nI_add, nI_1, zt_0, zt_12, zt_20, zt_26, zt_32, zf_0_0, zf_0_1, zf_0_2, zf_0_3, zf_0_4, zf_12_0, zf_12_1, zf_12_2, zf_12_4, zf_12_5, zf_20_1, zf_20_2, zf_20_3, zf_20_4, zf_20_6, zf_26_0, zf_26_1, zf_26_2, zf_26_3, zf_32_0, zf_32_1, zf_32_3, zf_32_4, zf_32_5, zf_32_6, ztb_tag tb27, hm, tm, rd, m1, g]; rfl, rfl, Or.inr ⟨nI 0, rfl, Or.inr (Or.inr ⟨rfl, fun e => absurd ((hl.full e).mem cl) hin⟩)⟩⟩) _ M ⟨rfl, rfl, hK⟩
  exact ⟨r, ls, w1, w2⟩
theorem qR_compare {M : zM} {k n : Nat} {c B : tC} {l : List Nat} (hk : ztb k) (ht : kT M k n c) (hO : tO n c) (hf : tF n c) (hB : kT M 27 n B) (hBf : tF n B) (hBu : ∀ a, a < n → B 0 a = a ∧ B a 0 = a) (hl : PP n l) (hN : NM M l) : ∃ v, zf_Renamings_compare [.ref 26, .ref k, .int (nI l.length)] M = some (some v, M) ∧ CQ n c B l v := by
  have h8 := hO.1.2
  have hl1 := hl.1
  obtain ⟨r, ls, M', w1, rfl, w2⟩ := zwh_inv (c := zc_Renamings_compare_1) (s := zs_Renamings_compare_1) (fun i ls M' => M' = M ∧ ls = [some (Value.ref (26)), some (Value.ref (k)), some (Value.int (nI l.length)), some (Value.int (nI i)), none, none, none] ∧ KE c B l n i 1) (Q := fun r ls M' => M' = M ∧ ((r = none ∧ ls = [some (Value.ref (26)), some (Value.ref (k)), some (Value.int (nI l.length)), some (Value.int (nI l.length)), none, none, none] ∧ KE c B l n l.length 1) ∨ ∃ v, r = some (some v) ∧ CQ n c B l v)) (n := l.length) (fun ls M' q => by
    obtain ⟨rfl, rfl, q⟩ := q
    exact ⟨by simp (disch := omega) [zc_Renamings_compare_1, zmeth, xm_en, zret, zretz, zretv, zseq, zst, zinc, zkl, zskip, zk, zi, za, zbin, zdiv, zrem, zgi, zgr, zld, zldr, zlen, zn, zc, zcall, zcallv, zrcv, zdo, zdov, zpf, zpfc, zas, zasc, zmin, zmax, zcmp, zcz, zand_e, zor_e, zite_e, zbite_e, zif_e, znot_e, z_add, z_sub, z_mul, z_and, z_or, z_xor, z_shl, z_shr, zcpy, -List.getElem?_cons_succ, zg_0, zg_1, zg_2, zg_3, zg_4, zg_5, zg_6, zg_7, zg_8, zg_9, zc_lt, zc_le, zc_gt, zc_ge, zc_eq, zc_ne, zc_lt0, zc_ge0, zc_gt0, zc_eq0, zc_ne0, zb_ne, zb_eq, zb_01, z_00, z_01, z_11, zb_f, zb_T, zb_F, zbm1, zbm2, zbm5, zbm6, zbm3, zbm4, nI_clamp, zmod_n, pk_div, nI_ne0, pk_mul, nI_add, nI_1], rfl, Or.inl ⟨rfl, rfl, q⟩⟩) (l.length - 1) 1 (by omega) (fun i ls M' hi1 hi q => by
    obtain ⟨rfl, rfl, q⟩ := q
    refine ⟨by simp (disch := omega) [zc_Renamings_compare_1, zmeth, xm_en, zret, zretz, zretv, zseq, zst, zinc, zkl, zskip, zk, zi, za, zbin, zdiv, zrem, zgi, zgr, zld, zldr, zlen, zn, zc, zcall, zcallv, zrcv, zdo, zdov, zpf, zpfc, zas, zasc, zmin, zmax, zcmp, zcz, zand_e, zor_e, zite_e, zbite_e, zif_e, znot_e, z_add, z_sub, z_mul, z_and, z_or, z_xor, z_shl, z_shr, zcpy, -List.getElem?_cons_succ, zg_0, zg_1, zg_2, zg_3, zg_4, zg_5, zg_6, zg_7, zg_8, zg_9, zc_lt, zc_le, zc_gt, zc_ge, zc_eq, zc_ne, zc_lt0, zc_ge0, zc_gt0, zc_eq0, zc_ne0, zb_ne, zb_eq, zb_01, z_00, z_01, z_11, zb_f, zb_T, zb_F, zbm1, zbm2, zbm5, zbm6, zbm3, zbm4, nI_clamp, zmod_n, pk_div, nI_ne0, pk_mul, nI_add, nI_1, hi], ?_⟩
    obtain ⟨r, ls, e1, ⟨rfl, rfl, e2⟩ | ⟨v, rfl, e2⟩⟩ := qR_cmp2 hk ht hO hf hB hBf hBu hl hN hi1 hi q
    · exact ⟨none, _, M', by simp (disch := omega) [zs_Renamings_compare_1, zmeth, xm_en, zret, zretz, zretv, zseq, zst, zinc, zkl, zskip, zk, zi, za, zbin, zdiv, zrem, zgi, zgr, zld, zldr, zlen, zn, zc, zcall, zcallv, zrcv, zdo, zdov, zpf, zpfc, zas, zasc, zmin, zmax, zcmp, zcz, zand_e, zor_e, zite_e, zbite_e, zif_e, znot_e, z_add, z_sub, z_mul, z_and, z_or, z_xor, z_shl, z_shr, zcpy, -List.getElem?_cons_succ, zg_0, zg_1, zg_2, zg_3, zg_4, zg_5, zg_6, zg_7, zg_8, zg_9, zc_lt, zc_le, zc_gt, zc_ge, zc_eq, zc_ne, zc_lt0, zc_ge0, zc_gt0, zc_eq0, zc_ne0, zb_ne, zb_eq, zb_01, z_00, z_01, z_11, zb_f, zb_T, zb_F, zbm1, zbm2, zbm5, zbm6, zbm3, zbm4, nI_clamp, zmod_n, pk_div, nI_ne0, pk_mul, nI_add, nI_1, e1], rfl, rfl, fun x y hx hy hyn e => e2 x y hx hy hyn (by omega)⟩
    · exact ⟨some (some v), _, M', by simp (disch := omega) [zs_Renamings_compare_1, zmeth, xm_en, zret, zretz, zretv, zseq, zst, zinc, zkl, zskip, zk, zi, za, zbin, zdiv, zrem, zgi, zgr, zld, zldr, zlen, zn, zc, zcall, zcallv, zrcv, zdo, zdov, zpf, zpfc, zas, zasc, zmin, zmax, zcmp, zcz, zand_e, zor_e, zite_e, zbite_e, zif_e, znot_e, z_add, z_sub, z_mul, z_and, z_or, z_xor, z_shl, z_shr, zcpy, -List.getElem?_cons_succ, zg_0, zg_1, zg_2, zg_3, zg_4, zg_5, zg_6, zg_7, zg_8, zg_9, zc_lt, zc_le, zc_gt, zc_ge, zc_eq, zc_ne, zc_lt0, zc_ge0, zc_gt0, zc_eq0, zc_ne0, zb_ne, zb_eq, zb_01, z_00, z_01, z_11, zb_f, zb_T, zb_F, zbm1, zbm2, zbm5, zbm6, zbm3, zbm4, nI_clamp, zmod_n, pk_div, nI_ne0, pk_mul, nI_add, nI_1, e1]; rfl, rfl, Or.inr ⟨v, rfl, e2⟩⟩) _ M ⟨rfl, rfl, fun x y hx hy hyn e => by omega⟩
  rcases w2 with ⟨rfl, rfl, w2⟩ | ⟨v, rfl, w2⟩
  · refine ⟨nI 0, by simp (disch := omega) [zf_Renamings_compare, zmeth, xm_en, zret, zretz, zretv, zseq, zst, zinc, zkl, zskip, zk, zi, za, zbin, zdiv, zrem, zgi, zgr, zld, zldr, zlen, zn, zc, zcall, zcallv, zrcv, zdo, zdov, zpf, zpfc, zas, zasc, zmin, zmax, zcmp, zcz, zand_e, zor_e, zite_e, zbite_e, zif_e, znot_e, z_add, z_sub, z_mul, z_and, z_or, z_xor, z_shl, z_shr, zcpy, -List.getElem?_cons_succ, zg_0, zg_1, zg_2, zg_3, zg_4, zg_5, zg_6, zg_7, zg_8, zg_9, w1], Or.inr (Or.inr ⟨rfl, fun e x y hx hy => ?_⟩)⟩
    exact w2.up hO hf hBu (hl.full e) ⟨[], (List.append_nil l).symm⟩ x y hx hy (Or.inl (by omega))
  · exact ⟨v, by simp (disch := omega) [zf_Renamings_compare, zmeth, xm_en, zret, zretz, zretv, zseq, zst, zinc, zkl, zskip, zk, zi, za, zbin, zdiv, zrem, zgi, zgr, zld, zldr, zlen, zn, zc, zcall, zcallv, zrcv, zdo, zdov, zpf, zpfc, zas, zasc, zmin, zmax, zcmp, zcz, zand_e, zor_e, zite_e, zbite_e, zif_e, znot_e, z_add, z_sub, z_mul, z_and, z_or, z_xor, z_shl, z_shr, zcpy, -List.getElem?_cons_succ, zg_0, zg_1, zg_2, zg_3, zg_4, zg_5, zg_6, zg_7, zg_8, zg_9, w1], w2⟩
/-! name: the class's keepRenamed and giveNames -/
def tqb (n : Nat) (A B : tC) : Bool := zall (fun i => zall (fun j => decide (A i j = B i j)) n) n
theorem tqb_t {n : Nat} {A B : tC} : tqb n A B = true ↔ tq n A B := by
  unfold tqb tq
  rw [zall_t]
  constructor
  · intro h i j hi hj
    have := zall_t.mp (h i hi) j hj
    exact of_decide_eq_true this
  · intro h i hi
    rw [zall_t]
    exact fun j hj => decide_eq_true (h i j hi hj)
theorem tqb_f {n : Nat} {A B : tC} (h : ¬ tq n A B) : tqb n A B = false := by
  cases e : tqb n A B with
  | false => rfl
  | true => exact absurd (tqb_t.mp e) h
def cmps (n : Nat) : Nat → List Nat → List (List Nat)
  | 0, l => [l]
  | d + 1, l => (List.range n).flatMap (fun y => if y ∈ l then [] else cmps n d (l ++ [y]))
theorem cmps_mem {n : Nat} : ∀ (d : Nat) (l v : List Nat), PP n l → l.length + d = n → v ∈ cmps n d l → PL n v ∧ ex l v
  | 0, l, v, hl, e, h => by
    have : v = l := List.mem_singleton.mp h
    subst this
    exact ⟨hl.full (by omega), [], (List.append_nil v).symm⟩
  | d + 1, l, v, hl, e, h => by
    unfold cmps at h
    obtain ⟨y, hy, h⟩ := List.mem_flatMap.mp h
    rw [List.mem_range] at hy
    by_cases q : y ∈ l
    · rw [if_pos q] at h
      cases h
    · rw [if_neg q] at h
      obtain ⟨a, m, b⟩ := cmps_mem d (l ++ [y]) v (hl.up (by omega) hy q) (by rw [List.length_append, List.length_singleton]; omega) h
      exact ⟨a, y :: m, by rw [b, List.append_assoc]; rfl⟩
theorem cmps_all {n : Nat} : ∀ (d : Nat) (l v : List Nat), PP n l → l.length + d = n → PL n v → ex l v → v ∈ cmps n d l
  | 0, l, v, hl, e, hv, he => by
    obtain ⟨m, rfl⟩ := he
    have h1 := hv.1
    rw [List.length_append] at h1
    have : m = [] := List.length_eq_zero_iff.mp (by omega)
    subst this
    rw [List.append_nil]
    exact List.mem_singleton.mpr rfl
  | d + 1, l, v, hl, e, hv, he => by
    obtain ⟨m, rfl⟩ := he
    have h1 := hv.1
    rw [List.length_append] at h1
    match m, h1, hv with
    | [], h1, hv => exact absurd h1 (by simp only [List.length_nil]; omega)
    | y :: m, h1, hv =>
      have hy : y < n := hv.2.2.1 y (List.mem_append.mpr (Or.inr (List.mem_cons_self ..)))
      have q : y ∉ l := fun z => (List.nodup_append.mp hv.2.1).2.2 y z y (List.mem_cons_self ..) rfl
      have := cmps_all d (l ++ [y]) (l ++ y :: m) (hl.up (by omega) hy q) (by rw [List.length_append, List.length_singleton]; omega) hv ⟨m, by rw [List.append_assoc]; rfl⟩
      unfold cmps
      exact List.mem_flatMap.mpr ⟨y, List.mem_range.mpr hy, by rw [if_neg q]; exact this⟩
def DS (M0 : zM) (n : Nat) (c : tC) (V : List (List Nat)) (B : tC) (l : List Nat) (M : zM) : Prop := kT M 27 n B ∧ NM M l ∧ M 26 4 = nI (V.countP (fun v => tqb n (rn c v) B)) ∧ (∃ l0, PL n l0 ∧ tq n B (rn c l0)) ∧ (∀ v, v ∈ V → ¬ tl n (rn c v) B) ∧ ∀ q j, q < 10 ∨ 32 ≤ q → M q j = M0 q j
theorem DS.kt {M0 M : zM} {n k : Nat} {c B : tC} {V : List (List Nat)} {l : List Nat} (h : DS M0 n c V B l M) (hk2 : k + 1 < 10) (ht : kT M0 k n c) : kT M k n c := ht.same (fun j => h.2.2.2.2.2 _ _ (by omega)) (fun j => h.2.2.2.2.2 _ _ (by omega))
theorem DS.bf {M0 M : zM} {n : Nat} {c B : tC} {V : List (List Nat)} {l : List Nat} (h : DS M0 n c V B l M) (hO : tO n c) (hf : tF n c) : tF n B ∧ ∀ a, a < n → B 0 a = a ∧ B a 0 = a := by
  obtain ⟨l0, a, b⟩ := h.2.2.2.1
  have f := rn_F hf a
  have o := rn_O hO hf a
  have n1 := hO.1.1
  exact ⟨fun i j hi hj => by rw [b i j hi hj]; exact f i j hi hj, fun i hi => ⟨by rw [b 0 i (by omega) hi]; exact (o.2.1 i hi).1, by rw [b i 0 hi (by omega)]; exact (o.2.1 i hi).2⟩⟩
theorem PL.pre {n : Nat} {l : List Nat} (h : PL n l) (h1 : 1 ≤ n) : PP n l := ⟨by have := h.1; omega, h.2⟩
theorem qR_keep {M0 M : zM} {k n : Nat} {c B : tC} {V : List (List Nat)} {l : List Nat} (hk : ztb k) (hk2 : k + 1 < 10) (ht : kT M0 k n c) (hO : tO n c) (hf : tF n c) (hl : PL n l) (h : DS M0 n c V B l M) (hle : ¬ tl n B (rn c l)) : ∃ B' M', zf_Renamings_keepRenamed [.ref 26, .ref k] M = some (none, M') ∧ DS M0 n c (V ++ [l]) B' l M' := by
  have h8 := hO.1.2
  have kt := h.kt hk2 ht
  obtain ⟨hBf, hBu⟩ := h.bf hO hf
  obtain ⟨v, cm, cq⟩ := qR_compare hk kt hO hf h.1 hBf hBu (hl.pre hO.1.1) h.2.1
  rw [hl.1] at cm
  have exl : ex l l := ⟨[], (List.append_nil l).symm⟩
  rcases cq with ⟨rfl, q⟩ | ⟨rfl, q⟩ | ⟨rfl, q⟩
  · exact absurd (q l hl exl) hle
  · have q := q l hl exl
    have z1 : xe_cd .eq (-1 : Int32) 0 = false := by decide
    have hn : ∀ i, i < n → (zup M 26 4 (nI 1)) 30 i = nI (gd l i) ∧ gd l i < n := fun i hi => ⟨by rw [zup_e, if_neg (by omega)]; exact h.2.1.1 i (by rw [hl.1]; exact hi), hl.gl hi⟩
    obtain ⟨M', w1, w2⟩ := qR_kr1 (M0 := zup M 26 4 (nI 1)) (f := gd l) hk (by omega) (kt.same (fun j => by rw [zup_e, if_neg (by omega)]) (fun j => by rw [zup_e, if_neg (by omega)])) hf h8 hO.1.1 (by rw [zup_e, if_neg (by omega)]; exact h.1.1) hn
    have same : ∀ q j, q ≠ 28 → q ≠ 26 → M' q j = M q j := fun q j a b => by rw [w2.1 q j (Or.inl a), zup_e, if_neg (by omega)]
    have o := rn_O hO hf hl
    have f := rn_F hf hl
    refine ⟨rn c l, M', ?_, ⟨(same 27 0 (by decide) (by decide)).trans h.1.1, fun a b ha hb => ?_⟩, ⟨fun i hi => (same _ _ (by decide) (by decide)).trans (h.2.1.1 i hi), fun x hx => (same _ _ (by decide) (by decide)).trans (h.2.1.2 x hx)⟩, ?_, ⟨l, hl, fun _ _ _ _ => rfl⟩, fun v hv z => ?_, fun q j hq => (same q j (by omega) (by omega)).trans (h.2.2.2.2.2 q j hq)⟩
    · simp (disch := omega) [zf_Renamings_keepRenamed, zmeth, xm_en, zret, zretz, zretv, zseq, zst, zinc, zkl, zskip, zk, zi, za, zbin, zdiv, zrem, zgi, zgr, zld, zldr, zlen, zn, zc, zcall, zcallv, zrcv, zdo, zdov, zpf, zpfc, zas, zasc, zmin, zmax, zcmp, zcz, zand_e, zor_e, zite_e, zbite_e, zif_e, znot_e, z_add, z_sub, z_mul, z_and, z_or, z_xor, z_shl, z_shr, zcpy, -List.getElem?_cons_succ, zg_0, zg_1, zg_2, zg_3, zg_4, zg_5, zg_6, zg_7, zg_8, zg_9, zt_0, zt_12, zt_20, zt_26, zt_32, zf_0_0, zf_0_1, zf_0_2, zf_0_3, zf_0_4, zf_12_0, zf_12_1, zf_12_2, zf_12_4, zf_12_5, zf_20_1, zf_20_2, zf_20_3, zf_20_4, zf_20_6, zf_26_0, zf_26_1, zf_26_2, zf_26_3, zf_32_0, zf_32_1, zf_32_3, zf_32_4, zf_32_5, zf_32_6, zc_lt, zc_le, zc_gt, zc_ge, zc_eq, zc_ne, zc_lt0, zc_ge0, zc_gt0, zc_eq0, zc_ne0, zb_ne, zb_eq, zb_01, z_00, z_01, z_11, zb_f, zb_T, zb_F, zbm1, zbm2, zbm5, zbm6, zbm3, zbm4, nI_clamp, zmod_n, pk_div, nI_ne0, pk_mul, nI_add, nI_1, ztb_tag hk, kt.1, cm, z1, w1]
    · have f8 := f a b ha hb
      by_cases a0 : a = 0
      · subst a0
        rw [w2.1 _ _ (by omega), zup_e, if_neg (by omega), h.1.2 0 b ha hb, (hBu b hb).1, (o.2.1 b hb).1]
      · by_cases b0 : b = 0
        · subst b0
          rw [w2.1 _ _ (by omega), zup_e, if_neg (by omega), h.1.2 a 0 ha hb, (hBu a ha).2, (o.2.1 a ha).2]
        · have cl := hf _ _ (hl.gl ha) (hl.gl hb)
          rw [w2.2 a b (by omega) (by omega) ha hb (by omega), zup_e, if_neg (by omega), h.2.1.2 _ (by omega), if_pos (hl.mem cl), zcl_lt (by omega)]
          rfl
    · rw [w2.1 _ _ (by omega), zup_e, if_pos ⟨rfl, rfl⟩]
      have e1 : V.countP (fun v => tqb n (rn c v) (rn c l)) = 0 := List.countP_eq_zero.mpr (fun v hv z => h.2.2.2.2.1 v hv (tl_l (tqb_t.mp z).symm q))
      have e2 : tqb n (rn c l) (rn c l) = true := tqb_t.mpr (fun _ _ _ _ => rfl)
      rw [List.countP_append, e1, List.countP_singleton, if_pos e2]
    · rcases List.mem_append.mp hv with hv | hv
      · exact h.2.2.2.2.1 v hv (tl_tr z q)
      · rw [List.mem_singleton.mp hv] at z
        exact tl_ne z (fun _ _ _ _ => rfl)
  · have q := q hl.1
    refine ⟨B, zup M 26 4 (M 26 4 + nI 1), ?_, h.1.same (fun j => by rw [zup_e, if_neg (by omega)]) (fun j => by rw [zup_e, if_neg (by omega)]), ⟨fun i hi => ?_, fun x hx => ?_⟩, ?_, h.2.2.2.1, fun v hv z => ?_, fun q j hq => ?_⟩
    · simp (disch := omega) [zf_Renamings_keepRenamed, zmeth, xm_en, zret, zretz, zretv, zseq, zst, zinc, zkl, zskip, zk, zi, za, zbin, zdiv, zrem, zgi, zgr, zld, zldr, zlen, zn, zc, zcall, zcallv, zrcv, zdo, zdov, zpf, zpfc, zas, zasc, zmin, zmax, zcmp, zcz, zand_e, zor_e, zite_e, zbite_e, zif_e, znot_e, z_add, z_sub, z_mul, z_and, z_or, z_xor, z_shl, z_shr, zcpy, -List.getElem?_cons_succ, zg_0, zg_1, zg_2, zg_3, zg_4, zg_5, zg_6, zg_7, zg_8, zg_9, zt_0, zt_12, zt_20, zt_26, zt_32, zf_0_0, zf_0_1, zf_0_2, zf_0_3, zf_0_4, zf_12_0, zf_12_1, zf_12_2, zf_12_4, zf_12_5, zf_20_1, zf_20_2, zf_20_3, zf_20_4, zf_20_6, zf_26_0, zf_26_1, zf_26_2, zf_26_3, zf_32_0, zf_32_1, zf_32_3, zf_32_4, zf_32_5, zf_32_6, zc_lt, zc_le, zc_gt, zc_ge, zc_eq, zc_ne, zc_lt0, zc_ge0, zc_gt0, zc_eq0, zc_ne0, zb_ne, zb_eq, zb_01, z_00, z_01, z_11, zb_f, zb_T, zb_F, zbm1, zbm2, zbm5, zbm6, zbm3, zbm4, nI_clamp, zmod_n, pk_div, nI_ne0, pk_mul, nI_add, nI_1, ztb_tag hk, kt.1, cm]
    · rw [zup_e, if_neg (by omega)]
      exact h.2.1.1 i hi
    · rw [zup_e, if_neg (by omega)]
      exact h.2.1.2 x hx
    · rw [zup_e, if_pos ⟨rfl, rfl⟩, h.2.2.1, List.countP_append, List.countP_singleton, if_pos (tqb_t.mpr q)]
      exact nI_1 _
    · rcases List.mem_append.mp hv with hv | hv
      · exact h.2.2.2.2.1 v hv z
      · rw [List.mem_singleton.mp hv] at z
        exact tl_ne z q
    · rw [zup_e, if_neg (by omega)]
      exact h.2.2.2.2.2 q j hq
theorem NM.up {M : zM} {l : List Nat} {x : Nat} (h : NM M l) (hx : x ∉ l) : NM (zup (zup M 30 l.length (nI x)) 31 x (nI l.length)) (l ++ [x]) := by
  refine ⟨fun i hi => ?_, fun y hy => ?_⟩
  · rw [zup_e, if_neg (by omega), zup_e]
    rw [List.length_append, List.length_singleton] at hi
    by_cases e : i = l.length
    · subst e
      rw [if_pos ⟨rfl, rfl⟩, gd_new]
    · rw [if_neg (fun z => e z.2), gd_app (by omega)]
      exact h.1 i (by omega)
  · rw [zup_e]
    by_cases e : y = x
    · subst e
      rw [if_pos ⟨rfl, rfl⟩, if_pos (List.mem_append.mpr (Or.inr (List.mem_singleton.mpr rfl))), px_out hx]
      have : px [y] y = 0 := if_pos rfl
      rw [this]
      rfl
    · rw [if_neg (fun z => e z.2), zup_e, if_neg (by omega), h.2 y hy]
      by_cases q : y ∈ l
      · rw [if_pos q, if_pos (List.mem_append.mpr (Or.inl q)), px_app q]
      · rw [if_neg q, if_neg (fun z => (List.mem_append.mp z).elim q (fun z => e (List.mem_singleton.mp z)))]
theorem NM.down {M : zM} {l : List Nat} {x : Nat} (h : NM M (l ++ [x])) (hx : x ∉ l) : NM (zup M 31 x (-1)) l := by
  refine ⟨fun i hi => ?_, fun y hy => ?_⟩
  · rw [zup_e, if_neg (by omega), h.1 i (by rw [List.length_append]; omega), gd_app hi]
  · rw [zup_e]
    by_cases e : y = x
    · subst e
      rw [if_pos ⟨rfl, rfl⟩, if_neg hx]
    · rw [if_neg (fun z => e z.2), h.2 y hy]
      by_cases q : y ∈ l
      · rw [if_pos q, if_pos (List.mem_append.mpr (Or.inl q)), px_app q]
      · rw [if_neg q, if_neg (fun z => (List.mem_append.mp z).elim q (fun z => e (List.mem_singleton.mp z)))]
theorem DS.cut {M0 M : zM} {n : Nat} {c B : tC} {V W : List (List Nat)} {l : List Nat} (h : DS M0 n c V B l M) (hw : ∀ v, v ∈ W → tl n B (rn c v)) : DS M0 n c (V ++ W) B l M := by
  refine ⟨h.1, h.2.1, ?_, h.2.2.2.1, fun v hv z => ?_, h.2.2.2.2.2⟩
  · have : W.countP (fun v => tqb n (rn c v) B) = 0 := List.countP_eq_zero.mpr (fun v hv z => tl_ne (hw v hv) (tqb_t.mp z).symm)
    rw [List.countP_append, this]
    exact h.2.2.1
  · rcases List.mem_append.mp hv with hv | hv
    · exact h.2.2.2.2.1 v hv z
    · exact tl_as z (hw v hv)
theorem DS.mv {M0 M M' : zM} {n : Nat} {c B : tC} {V : List (List Nat)} {l l' : List Nat} (h : DS M0 n c V B l M) (hN : NM M' l') (hs : ∀ q j, q ≠ 30 → q ≠ 31 → M' q j = M q j) : DS M0 n c V B l' M' := ⟨h.1.same (fun j => hs _ _ (by decide) (by decide)) (fun j => hs _ _ (by decide) (by decide)), hN, (hs _ _ (by decide) (by decide)).trans h.2.2.1, h.2.2.2.1, h.2.2.2.2.1, fun q j hq => (hs q j (by omega) (by omega)).trans (h.2.2.2.2.2 q j hq)⟩
theorem giveNames_S (n : Nat) : zf_Renamings_giveNames (n + 1) = zmeth 4 (zseq (zseq (zif (zor (zcmp .ge (zi 2) (zgi 0 0 (za 1))) (zcmp .ge (zi 2) (zk (nI 8)))) (zseq (zdov 3 zf_Renamings_keepRenamed (zc (zc (zn) (za 0)) (za 1))) (zretv)) (zskip)) (zkl 3 (zseq (zst 3 (zk (nI 1))) (zwh (zc_Renamings_giveNames_1 (zf_Renamings_giveNames n)) (zs_Renamings_giveNames_1 (zf_Renamings_giveNames n)))))) zretv) := rfl
theorem qR_give {M0 : zM} {k n : Nat} {c : tC} (hk : ztb k) (hk2 : k + 1 < 10) (ht : kT M0 k n c) (hO : tO n c) (hf : tF n c) : ∀ (d f : Nat) (l : List Nat) (V : List (List Nat)) (B : tC) (M : zM), d < f → l.length + d = n → PP n l → DS M0 n c V B l M → (l.length = n → ¬ tl n B (rn c l)) → ∃ B' M', zf_Renamings_giveNames f [.ref 26, .ref k, .int (nI l.length)] M = some (none, M') ∧ DS M0 n c (V ++ cmps n d l) B' l M' := by
  have h8 := hO.1.2
  intro d
  induction d with
  | zero =>
    intro f l V B M hd e hl h hle
    obtain ⟨f, rfl⟩ : ∃ g, f = g + 1 := ⟨f - 1, by omega⟩
    have e : l.length = n := by omega
    obtain ⟨B', M', w1, w2⟩ := qR_keep hk hk2 ht hO hf (hl.full e) h (hle e)
    have kt := h.kt hk2 ht
    refine ⟨B', M', ?_, w2⟩
    rw [giveNames_S, e]
    simp (disch := omega) [zmeth, xm_en, zret, zretz, zretv, zseq, zst, zinc, zkl, zskip, zk, zi, za, zbin, zdiv, zrem, zgi, zgr, zld, zldr, zlen, zn, zc, zcall, zcallv, zrcv, zdo, zdov, zpf, zpfc, zas, zasc, zmin, zmax, zcmp, zcz, zand_e, zor_e, zite_e, zbite_e, zif_e, znot_e, z_add, z_sub, z_mul, z_and, z_or, z_xor, z_shl, z_shr, zcpy, -List.getElem?_cons_succ, zg_0, zg_1, zg_2, zg_3, zg_4, zg_5, zg_6, zg_7, zg_8, zg_9, zt_0, zt_12, zt_20, zt_26, zt_32, zf_0_0, zf_0_1, zf_0_2, zf_0_3, zf_0_4, zf_12_0, zf_12_1, zf_12_2, zf_12_4, zf_12_5, zf_20_1, zf_20_2, zf_20_3, zf_20_4, zf_20_6, zf_26_0, zf_26_1, zf_26_2, zf_26_3, zf_32_0, zf_32_1, zf_32_3, zf_32_4, zf_32_5, zf_32_6, zc_lt, zc_le, zc_gt, zc_ge, zc_eq, zc_ne, zc_lt0, zc_ge0, zc_gt0, zc_eq0, zc_ne0, zb_ne, zb_eq, zb_01, z_00, z_01, z_11, zb_f, zb_T, zb_F, zbm1, zbm2, zbm5, zbm6, zbm3, zbm4, nI_clamp, zmod_n, pk_div, nI_ne0, pk_mul, nI_add, nI_1, ztb_tag hk, kt.1, w1]
  | succ d ih =>
    intro f l V B M hd e hl h hle
    obtain ⟨f, rfl⟩ : ∃ g, f = g + 1 := ⟨f - 1, by omega⟩
    have hl1 := hl.1
    have hln : ¬ n ≤ l.length := by omega
    have hl8 : ¬ 8 ≤ l.length := by omega
    have nx : nI l.length + nI 1 = nI (l.length + 1) := nI_1 _
    obtain ⟨r, ls, M', w1, rfl, rfl, B', w2⟩ := zwh_inv (c := zc_Renamings_giveNames_1 (zf_Renamings_giveNames f)) (s := zs_Renamings_giveNames_1 (zf_Renamings_giveNames f)) (fun x ls M' => ls = [some (Value.ref (26)), some (Value.ref (k)), some (Value.int (nI l.length)), some (Value.int (nI x))] ∧ ∃ B', DS M0 n c (V ++ (List.range x).flatMap (fun y => if y ∈ l then [] else cmps n d (l ++ [y]))) B' l M') (Q := fun r ls M' => r = none ∧ ls = [some (Value.ref (26)), some (Value.ref (k)), some (Value.int (nI l.length)), some (Value.int (nI n))] ∧ ∃ B', DS M0 n c (V ++ cmps n (d + 1) l) B' l M') (n := n) (fun ls M' q => by
      obtain ⟨rfl, B', q⟩ := q
      have kt := q.kt hk2 ht
      exact ⟨by simp (disch := omega) [zc_Renamings_giveNames_1, zmeth, xm_en, zret, zretz, zretv, zseq, zst, zinc, zkl, zskip, zk, zi, za, zbin, zdiv, zrem, zgi, zgr, zld, zldr, zlen, zn, zc, zcall, zcallv, zrcv, zdo, zdov, zpf, zpfc, zas, zasc, zmin, zmax, zcmp, zcz, zand_e, zor_e, zite_e, zbite_e, zif_e, znot_e, z_add, z_sub, z_mul, z_and, z_or, z_xor, z_shl, z_shr, zcpy, -List.getElem?_cons_succ, zg_0, zg_1, zg_2, zg_3, zg_4, zg_5, zg_6, zg_7, zg_8, zg_9, zc_lt, zc_le, zc_gt, zc_ge, zc_eq, zc_ne, zc_lt0, zc_ge0, zc_gt0, zc_eq0, zc_ne0, zb_ne, zb_eq, zb_01, z_00, z_01, z_11, zb_f, zb_T, zb_F, zbm1, zbm2, zbm5, zbm6, zbm3, zbm4, nI_clamp, zmod_n, pk_div, nI_ne0, pk_mul, nI_add, nI_1, ztb_tag hk, kt.1], rfl, rfl, B', q⟩) (n - 1) 1 (by omega) (fun x ls M1 hx1 hx q => by
      obtain ⟨rfl, B1, q⟩ := q
      have kt := q.kt hk2 ht
      refine ⟨by simp (disch := omega) [zc_Renamings_giveNames_1, zmeth, xm_en, zret, zretz, zretv, zseq, zst, zinc, zkl, zskip, zk, zi, za, zbin, zdiv, zrem, zgi, zgr, zld, zldr, zlen, zn, zc, zcall, zcallv, zrcv, zdo, zdov, zpf, zpfc, zas, zasc, zmin, zmax, zcmp, zcz, zand_e, zor_e, zite_e, zbite_e, zif_e, znot_e, z_add, z_sub, z_mul, z_and, z_or, z_xor, z_shl, z_shr, zcpy, -List.getElem?_cons_succ, zg_0, zg_1, zg_2, zg_3, zg_4, zg_5, zg_6, zg_7, zg_8, zg_9, zc_lt, zc_le, zc_gt, zc_ge, zc_eq, zc_ne, zc_lt0, zc_ge0, zc_gt0, zc_eq0, zc_ne0, zb_ne, zb_eq, zb_01, z_00, z_01, z_11, zb_f, zb_T, zb_F, zbm1, zbm2, zbm5, zbm6, zbm3, zbm4, nI_clamp, zmod_n, pk_div, nI_ne0, pk_mul, nI_add, nI_1, ztb_tag hk, kt.1, hx], ?_⟩
      have n31 := q.2.1.2 x (by omega)
      have rs : (List.range (x + 1)).flatMap (fun y => if y ∈ l then [] else cmps n d (l ++ [y])) = (List.range x).flatMap (fun y => if y ∈ l then [] else cmps n d (l ++ [y])) ++ (if x ∈ l then [] else cmps n d (l ++ [x])) := by
        rw [List.range_succ, List.flatMap_append, List.flatMap_singleton]
      obtain ⟨W, hW⟩ : ∃ W, (List.range x).flatMap (fun y => if y ∈ l then [] else cmps n d (l ++ [y])) = W := ⟨_, rfl⟩
      rw [hW] at q rs
      by_cases hin : x ∈ l
      · rw [if_pos hin] at n31
        have p8 := (px_mem hin).1
        have m1 : xe_cd .eq (nI (px l x)) (-1) = false := by
          have := zcl_m1 (px l x)
          rw [zcl_lt (by omega)] at this
          rw [this]
          exact decide_eq_false (by omega)
        exact ⟨none, _, M1, by simp (disch := omega) [zs_Renamings_giveNames_1, zmeth, xm_en, zret, zretz, zretv, zseq, zst, zinc, zkl, zskip, zk, zi, za, zbin, zdiv, zrem, zgi, zgr, zld, zldr, zlen, zn, zc, zcall, zcallv, zrcv, zdo, zdov, zpf, zpfc, zas, zasc, zmin, zmax, zcmp, zcz, zand_e, zor_e, zite_e, zbite_e, zif_e, znot_e, z_add, z_sub, z_mul, z_and, z_or, z_xor, z_shl, z_shr, zcpy, -List.getElem?_cons_succ, zg_0, zg_1, zg_2, zg_3, zg_4, zg_5, zg_6, zg_7, zg_8, zg_9, zc_lt, zc_le, zc_gt, zc_ge, zc_eq, zc_ne, zc_lt0, zc_ge0, zc_gt0, zc_eq0, zc_ne0, zb_ne, zb_eq, zb_01, z_00, z_01, z_11, zb_f, zb_T, zb_F, zbm1, zbm2, zbm5, zbm6, zbm3, zbm4, nI_clamp, zmod_n, pk_div, nI_ne0, pk_mul, nI_add, nI_1, zt_0, zt_12, zt_20, zt_26, zt_32, zf_0_0, zf_0_1, zf_0_2, zf_0_3, zf_0_4, zf_12_0, zf_12_1, zf_12_2, zf_12_4, zf_12_5, zf_20_1, zf_20_2, zf_20_3, zf_20_4, zf_20_6, zf_26_0, zf_26_1, zf_26_2, zf_26_3, zf_32_0, zf_32_1, zf_32_3, zf_32_4, zf_32_5, zf_32_6, zi_31, n31, m1], rfl, B1, by rw [rs, if_pos hin, List.append_nil]; exact q⟩
      · rw [if_neg hin] at n31
        rw [if_neg hin] at rs
        have m1 : xe_cd .eq (-1 : Int32) (-1) = true := by decide
        have hl2 : PP n (l ++ [x]) := hl.up (by omega) hx hin
        have len : (l ++ [x]).length = l.length + 1 := by rw [List.length_append, List.length_singleton]
        have q1 : DS M0 n c (V ++ W) B1 (l ++ [x]) (zup (zup M1 30 l.length (nI x)) 31 x (nI l.length)) := q.mv (q.2.1.up hin) (fun q j a b => by rw [zup_e, if_neg (by omega), zup_e, if_neg (by omega)])
        obtain ⟨bf, bu⟩ := q1.bf hO hf
        obtain ⟨v, cm, cq⟩ := qR_compare hk (q1.kt hk2 ht) hO hf q1.1 bf bu hl2 q1.2.1
        rw [len] at cm
        have go : ∀ v : Int32, xe_cd .le v 0 = true → zf_Renamings_compare [.ref 26, .ref k, .int (nI (l.length + 1))] (zup (zup M1 30 l.length (nI x)) 31 x (nI l.length)) = some (some v, (zup (zup M1 30 l.length (nI x)) 31 x (nI l.length))) → ((l ++ [x]).length = n → ¬ tl n B1 (rn c (l ++ [x]))) → ∃ M2 B2, zs_Renamings_giveNames_1 (zf_Renamings_giveNames f) [some (Value.ref (26)), some (Value.ref (k)), some (Value.int (nI l.length)), some (Value.int (nI x))] M1 = some (none, [some (Value.ref (26)), some (Value.ref (k)), some (Value.int (nI l.length)), some (Value.int (nI (x + 1)))], M2) ∧ DS M0 n c (V ++ W ++ cmps n d (l ++ [x])) B2 l M2 := fun v le cm nt => by
          obtain ⟨B2, M2, e2, q2⟩ := ih f (l ++ [x]) (V ++ W) B1 _ (by omega) (by rw [len]; omega) hl2 q1 nt
          rw [len] at e2
          exact ⟨zup M2 31 x (-1), B2, by simp (disch := omega) [zs_Renamings_giveNames_1, zmeth, xm_en, zret, zretz, zretv, zseq, zst, zinc, zkl, zskip, zk, zi, za, zbin, zdiv, zrem, zgi, zgr, zld, zldr, zlen, zn, zc, zcall, zcallv, zrcv, zdo, zdov, zpf, zpfc, zas, zasc, zmin, zmax, zcmp, zcz, zand_e, zor_e, zite_e, zbite_e, zif_e, znot_e, z_add, z_sub, z_mul, z_and, z_or, z_xor, z_shl, z_shr, zcpy, -List.getElem?_cons_succ, zg_0, zg_1, zg_2, zg_3, zg_4, zg_5, zg_6, zg_7, zg_8, zg_9, zc_lt, zc_le, zc_gt, zc_ge, zc_eq, zc_ne, zc_lt0, zc_ge0, zc_gt0, zc_eq0, zc_ne0, zb_ne, zb_eq, zb_01, z_00, z_01, z_11, zb_f, zb_T, zb_F, zbm1, zbm2, zbm5, zbm6, zbm3, zbm4, nI_clamp, zmod_n, pk_div, nI_ne0, pk_mul, nI_add, nI_1, zt_0, zt_12, zt_20, zt_26, zt_32, zf_0_0, zf_0_1, zf_0_2, zf_0_3, zf_0_4, zf_12_0, zf_12_1, zf_12_2, zf_12_4, zf_12_5, zf_20_1, zf_20_2, zf_20_3, zf_20_4, zf_20_6, zf_26_0, zf_26_1, zf_26_2, zf_26_3, zf_32_0, zf_32_1, zf_32_3, zf_32_4, zf_32_5, zf_32_6, zi_30, zi_31, n31, m1, nx, cm, le, e2], q2.mv (q2.2.1.down hin) (fun q j a b => by rw [zup_e, if_neg (by omega)])⟩
        rcases cq with ⟨rfl, cq⟩ | ⟨rfl, cq⟩ | ⟨rfl, cq⟩
        · have le : xe_cd .le (nI 1) 0 = false := by decide
          have q2 : DS M0 n c (V ++ W ++ cmps n d (l ++ [x])) B1 (l ++ [x]) _ := q1.cut (fun v hv => by
            obtain ⟨a, b⟩ := cmps_mem d (l ++ [x]) v hl2 (by rw [len]; omega) hv
            exact cq v a b)
          exact ⟨none, _, _, by simp (disch := omega) [zs_Renamings_giveNames_1, zmeth, xm_en, zret, zretz, zretv, zseq, zst, zinc, zkl, zskip, zk, zi, za, zbin, zdiv, zrem, zgi, zgr, zld, zldr, zlen, zn, zc, zcall, zcallv, zrcv, zdo, zdov, zpf, zpfc, zas, zasc, zmin, zmax, zcmp, zcz, zand_e, zor_e, zite_e, zbite_e, zif_e, znot_e, z_add, z_sub, z_mul, z_and, z_or, z_xor, z_shl, z_shr, zcpy, -List.getElem?_cons_succ, zg_0, zg_1, zg_2, zg_3, zg_4, zg_5, zg_6, zg_7, zg_8, zg_9, zc_lt, zc_le, zc_gt, zc_ge, zc_eq, zc_ne, zc_lt0, zc_ge0, zc_gt0, zc_eq0, zc_ne0, zb_ne, zb_eq, zb_01, z_00, z_01, z_11, zb_f, zb_T, zb_F, zbm1, zbm2, zbm5, zbm6, zbm3, zbm4, nI_clamp, zmod_n, pk_div, nI_ne0, pk_mul, nI_add, nI_1, zt_0, zt_12, zt_20, zt_26, zt_32, zf_0_0, zf_0_1, zf_0_2, zf_0_3, zf_0_4, zf_12_0, zf_12_1, zf_12_2, zf_12_4, zf_12_5, zf_20_1, zf_20_2, zf_20_3, zf_20_4, zf_20_6, zf_26_0, zf_26_1, zf_26_2, zf_26_3, zf_32_0, zf_32_1, zf_32_3, zf_32_4, zf_32_5, zf_32_6, zi_30, zi_31, n31, m1, nx, cm, le]; rfl, rfl, B1, by rw [rs, ← List.append_assoc]; exact q2.mv (q2.2.1.down hin) (fun q j a b => by rw [zup_e, if_neg (by omega)])⟩
        · obtain ⟨M2, B2, a, b⟩ := go (-1) (by decide) cm (fun z y => tl_as y (cq _ (hl2.full z) ⟨[], (List.append_nil _).symm⟩))
          exact ⟨none, _, M2, a, rfl, B2, by rw [rs, ← List.append_assoc]; exact b⟩
        · obtain ⟨M2, B2, a, b⟩ := go (nI 0) (by decide) cm (fun z y => tl_ne y (cq z).symm)
          exact ⟨none, _, M2, a, rfl, B2, by rw [rs, ← List.append_assoc]; exact b⟩) [some (Value.ref (26)), some (Value.ref (k)), some (Value.int (nI l.length)), some (Value.int (nI 1))] M ⟨rfl, B, by
      have : (List.range 1).flatMap (fun y => if y ∈ l then [] else cmps n d (l ++ [y])) = [] := by
        show (if 0 ∈ l then [] else cmps n d (l ++ [0])) ++ [] = []
        rw [if_pos hl.mem0]
        rfl
      rw [this, List.append_nil]
      exact h⟩
    have kt := h.kt hk2 ht
    refine ⟨B', M', ?_, w2⟩
    rw [giveNames_S]
    simp (disch := omega) [zmeth, xm_en, zret, zretz, zretv, zseq, zst, zinc, zkl, zskip, zk, zi, za, zbin, zdiv, zrem, zgi, zgr, zld, zldr, zlen, zn, zc, zcall, zcallv, zrcv, zdo, zdov, zpf, zpfc, zas, zasc, zmin, zmax, zcmp, zcz, zand_e, zor_e, zite_e, zbite_e, zif_e, znot_e, z_add, z_sub, z_mul, z_and, z_or, z_xor, z_shl, z_shr, zcpy, -List.getElem?_cons_succ, zg_0, zg_1, zg_2, zg_3, zg_4, zg_5, zg_6, zg_7, zg_8, zg_9, zt_0, zt_12, zt_20, zt_26, zt_32, zf_0_0, zf_0_1, zf_0_2, zf_0_3, zf_0_4, zf_12_0, zf_12_1, zf_12_2, zf_12_4, zf_12_5, zf_20_1, zf_20_2, zf_20_3, zf_20_4, zf_20_6, zf_26_0, zf_26_1, zf_26_2, zf_26_3, zf_32_0, zf_32_1, zf_32_3, zf_32_4, zf_32_5, zf_32_6, zc_lt, zc_le, zc_gt, zc_ge, zc_eq, zc_ne, zc_lt0, zc_ge0, zc_gt0, zc_eq0, zc_ne0, zb_ne, zb_eq, zb_01, z_00, z_01, z_11, zb_f, zb_T, zb_F, zbm1, zbm2, zbm5, zbm6, zbm3, zbm4, nI_clamp, zmod_n, pk_div, nI_ne0, pk_mul, nI_add, nI_1, ztb_tag hk, kt.1, hln, hl8, w1]
/-! name: the class -/
theorem gd_rg : ∀ {n i : Nat}, i < n → gd (List.range n) i = i
  | 0, i, h => absurd h (Nat.not_lt_zero i)
  | n + 1, i, h => by
    rw [List.range_succ]
    by_cases e : i = n
    · subst e
      have := gd_new (l := List.range i) (m := []) (x := i)
      rw [List.length_range] at this
      exact this
    · rw [gd_app (by rw [List.length_range]; omega)]
      exact gd_rg (by omega)
theorem PL_rg {n : Nat} (h : 1 ≤ n) : PL n (List.range n) := ⟨List.length_range, List.nodup_range, fun x hx => List.mem_range.mp hx, gd_rg (by omega)⟩
theorem rn_rg {n : Nat} {c : tC} (hf : tF n c) : tq n c (rn c (List.range n)) := fun i j hi hj => by
  have b := hf i j hi hj
  show c i j = px (List.range n) (c (gd (List.range n) i) (gd (List.range n) j))
  rw [gd_rg hi, gd_rg hj]
  have := px_get (l := List.range n) (i := c i j) List.nodup_range (by rw [List.length_range]; exact b)
  rw [gd_rg b] at this
  exact this.symm
theorem PP_0 {n : Nat} (h : 1 ≤ n) : PP n [0] := ⟨⟨Nat.le_refl 1, h⟩, List.nodup_cons.mpr ⟨List.not_mem_nil, List.nodup_nil⟩, fun x hx => by rw [List.mem_singleton.mp hx]; omega, rfl⟩
theorem PL_ex0 {n : Nat} (h : 1 ≤ n) {l : List Nat} (hl : PL n l) : ex [0] l := by
  match l, hl with
  | [], hl => exact absurd hl.1 (by simp only [List.length_nil]; omega)
  | a :: m, hl =>
    have : a = 0 := hl.2.2.2
    subst this
    exact ⟨m, rfl⟩
theorem qR_findLeast {M : zM} {k n : Nat} {c : tC} (hk : ztb k) (hk2 : k + 1 < 10) (ht : kT M k n c) (hO : tO n c) (hf : tF n c) : ∃ B M', zf_Renamings_findLeast [.ref 26, .ref k] M = some (some (nI ((cmps n (n - 1) [0]).countP (fun v => tqb n (rn c v) B))), M') ∧ LEA n c B ∧ kT M' 27 n B ∧ zsc M M' := by
  have h8 := hO.1.2
  have h1 := hO.1.1
  have k27 := kT_to tb27 hk h8 ht
  have st : ∀ q j, q ≠ 26 → q ≠ 30 → q ≠ 31 → (zup (zup (zfl (zup (zto M 27 k) 26 4 (nI 0)) 31 8 (-1)) 30 0 (nI 0)) 31 0 (nI 0)) q j = zto M 27 k q j := fun q j a b d => by
    rw [zup_e, if_neg (by omega), zup_e, if_neg (by omega)]
    unfold zfl
    rw [if_neg (by omega), zup_e, if_neg (by omega)]
  have d0 : DS M n c [] c [0] (zup (zup (zfl (zup (zto M 27 k) 26 4 (nI 0)) 31 8 (-1)) 30 0 (nI 0)) 31 0 (nI 0)) := by
    refine ⟨k27.same (fun j => st _ _ (by decide) (by decide) (by decide)) (fun j => st _ _ (by decide) (by decide) (by decide)), ⟨fun i hi => ?_, fun x hx => ?_⟩, ?_, ⟨List.range n, PL_rg h1, rn_rg hf⟩, fun v hv => absurd hv List.not_mem_nil, fun q j hq => ?_⟩
    · have : i = 0 := by simp only [List.length_singleton] at hi; omega
      subst this
      rw [zup_e, if_neg (by omega), zup_e, if_pos ⟨rfl, rfl⟩]
      rfl
    · rw [zup_e]
      by_cases e : x = 0
      · subst e
        rw [if_pos ⟨rfl, rfl⟩, if_pos (List.mem_singleton.mpr rfl)]
        rfl
      · rw [if_neg (fun z => e z.2), zup_e, if_neg (by omega), if_neg (fun z => e (List.mem_singleton.mp z))]
        unfold zfl
        rw [if_pos ⟨rfl, hx⟩]
    · rw [zup_e, if_neg (by omega), zup_e, if_neg (by omega)]
      unfold zfl
      rw [if_neg (by omega), zup_e, if_pos ⟨rfl, rfl⟩]
      rfl
    · rw [st q j (by omega) (by omega) (by omega)]
      unfold zto
      rw [if_neg (by omega), if_neg (by omega)]
  have s0 : [0].length = n → ¬ tl n c (rn c [0]) := fun e z => tl_ne z (fun i j hi hj => by
    have e1 : n = 1 := e.symm
    subst e1
    have o := rn_O hO hf ((PP_0 h1).full e)
    have : i = 0 := by omega
    subst this
    rw [(o.2.1 j hj).1, (hO.2.1 j hj).1])
  obtain ⟨B, M', w1, w2⟩ := qR_give hk hk2 ht hO hf (n - 1) 10 [0] [] c _ (by omega) (by rw [List.length_singleton]; omega) (PP_0 h1) d0 s0
  rw [List.nil_append] at w2
  rw [List.length_singleton] at w1
  refine ⟨B, M', ?_, ⟨w2.2.2.2.1, fun l hl => w2.2.2.2.2.1 l (cmps_all (n - 1) [0] l (PP_0 h1) (by rw [List.length_singleton]; omega) hl (PL_ex0 h1 hl))⟩, w2.1, w2.2.2.2.2.2⟩
  have fl := qA_fill (M := zup (zto M 27 k) 26 4 (nI 0)) (k := 31) (N := 8) (v := -1) rfl (by decide)
  simp (disch := omega) [zf_Renamings_findLeast, zmeth, xm_en, zret, zretz, zretv, zseq, zst, zinc, zkl, zskip, zk, zi, za, zbin, zdiv, zrem, zgi, zgr, zld, zldr, zlen, zn, zc, zcall, zcallv, zrcv, zdo, zdov, zpf, zpfc, zas, zasc, zmin, zmax, zcmp, zcz, zand_e, zor_e, zite_e, zbite_e, zif_e, znot_e, z_add, z_sub, z_mul, z_and, z_or, z_xor, z_shl, z_shr, zcpy, -List.getElem?_cons_succ, zg_0, zg_1, zg_2, zg_3, zg_4, zg_5, zg_6, zg_7, zg_8, zg_9, zt_0, zt_12, zt_20, zt_26, zt_32, zf_0_0, zf_0_1, zf_0_2, zf_0_3, zf_0_4, zf_12_0, zf_12_1, zf_12_2, zf_12_4, zf_12_5, zf_20_1, zf_20_2, zf_20_3, zf_20_4, zf_20_6, zf_26_0, zf_26_1, zf_26_2, zf_26_3, zf_32_0, zf_32_1, zf_32_3, zf_32_4, zf_32_5, zf_32_6, nI_clamp, ztb_tag tb27, zi_30, zi_31, qT_takeOver tb27 hk, fl, w1, w2.2.2.1]
/-- how many renamings lead to the name -/
noncomputable def nmA (n : Nat) (c : tC) : Nat := (cmps n (n - 1) [0]).countP (fun v => tqb n (rn c v) (nmN n c))
theorem tqb_r {n : Nat} {A B C : tC} (h : tq n B C) : tqb n A B = tqb n A C := by
  rw [Bool.eq_iff_iff, tqb_t, tqb_t]
  exact ⟨fun q => q.trans h, fun q => q.trans h.symm⟩
def okN (T : tS) (x y : Int32) : Bool := zlt x 4 && (zlt y 4 && tB (T y.toNatClampNeg).1 (T y.toNatClampNeg).2)
noncomputable def sN (T : tS) (x y : Int32) : tS := bif okN T x y then tset T x.toNatClampNeg (T y.toNatClampNeg).1 (nmN (T y.toNatClampNeg).1 (T y.toNatClampNeg).2) else T
noncomputable def aN (T : tS) (x y : Int32) : Int32 := bif zlt x 4 && zlt y 4 then (bif okN T x y then nI (nmA (T y.toNatClampNeg).1 (T y.toNatClampNeg).2) else -2) else -1
theorem kT_q {M : zM} {k n : Nat} {A B : tC} (h : kT M k n A) (q : tq n A B) : kT M k n B := ⟨h.1, fun a b ha hb => by rw [← q a b ha hb]; exact h.2 a b ha hb⟩
theorem rT_q {M : zM} {k n : Nat} {A B : tC} (h : rT M k n A) (q : tq n A B) : rT M k n B := ⟨h.1, fun a b ha hb => by rw [← q a b ha hb]; exact h.2 a b ha hb⟩
theorem qL_name {T : tS} {M : zM} (x y : Int32) (hC : CS T M) (hT : TO T) : ∃ M', zf_L_name [.ref 0, .int x, .int y] M = some (some (aN T x y), M') ∧ CS (sN T x y) M' ∧ zhi M M' := by
  rcases z3 x (n := 4) (by decide) with h | ⟨s, hs, rfl⟩
  · refine ⟨M, ?_, by simpa [sN, okN, h] using hC, zhi.refl M⟩
    simp [zf_L_name, zmeth, xm_en, zret, zretz, zretv, zseq, zst, zinc, zkl, zskip, zk, zi, za, zbin, zdiv, zrem, zgi, zgr, zld, zldr, zlen, zn, zc, zcall, zcallv, zrcv, zdo, zdov, zpf, zpfc, zas, zasc, zmin, zmax, zcmp, zcz, zand_e, zor_e, zite_e, zbite_e, zif_e, znot_e, z_add, z_sub, z_mul, z_and, z_or, z_xor, z_shl, z_shr, zcpy, -List.getElem?_cons_succ, zg_0, zg_1, zg_2, zg_3, zg_4, zg_5, zg_6, zg_7, zg_8, zg_9, qL_isTable, zb_ne, h, aN]
  · have e := zlt_y hs (by decide)
    rcases z3 y (n := 4) (by decide) with h | ⟨t, ht, rfl⟩
    · refine ⟨M, ?_, by simpa [sN, okN, h] using hC, zhi.refl M⟩
      simp [zf_L_name, zmeth, xm_en, zret, zretz, zretv, zseq, zst, zinc, zkl, zskip, zk, zi, za, zbin, zdiv, zrem, zgi, zgr, zld, zldr, zlen, zn, zc, zcall, zcallv, zrcv, zdo, zdov, zpf, zpfc, zas, zasc, zmin, zmax, zcmp, zcz, zand_e, zor_e, zite_e, zbite_e, zif_e, znot_e, z_add, z_sub, z_mul, z_and, z_or, z_xor, z_shl, z_shr, zcpy, -List.getElem?_cons_succ, zg_0, zg_1, zg_2, zg_3, zg_4, zg_5, zg_6, zg_7, zg_8, zg_9, qL_isTable, zb_ne, e, h, aN]
    · have e2 := zlt_y ht (by decide)
      have ct : (nI t).toNatClampNeg = t := nI_clamp (by omega)
      have cs : (nI s).toNatClampNeg = s := nI_clamp (by omega)
      have ft := qT_isFull (tb4 ht) (hC t ht) (hT t ht)
      cases hb : tB (T t).1 (T t).2 with
      | false =>
        rw [hb] at ft
        have hok : okN T (nI s) (nI t) = false := by simp [okN, ct, hb]
        refine ⟨M, ?_, by simpa [sN, hok] using hC, zhi.refl M⟩
        simp (disch := omega) [zf_L_name, zmeth, xm_en, zret, zretz, zretv, zseq, zst, zinc, zkl, zskip, zk, zi, za, zbin, zdiv, zrem, zgi, zgr, zld, zldr, zlen, zn, zc, zcall, zcallv, zrcv, zdo, zdov, zpf, zpfc, zas, zasc, zmin, zmax, zcmp, zcz, zand_e, zor_e, zite_e, zbite_e, zif_e, znot_e, z_add, z_sub, z_mul, z_and, z_or, z_xor, z_shl, z_shr, zcpy, -List.getElem?_cons_succ, zg_0, zg_1, zg_2, zg_3, zg_4, zg_5, zg_6, zg_7, zg_8, zg_9, zt_0, zt_12, zt_20, zt_26, zt_32, zf_0_0, zf_0_1, zf_0_2, zf_0_3, zf_0_4, zf_12_0, zf_12_1, zf_12_2, zf_12_4, zf_12_5, zf_20_1, zf_20_2, zf_20_3, zf_20_4, zf_20_6, zf_26_0, zf_26_1, zf_26_2, zf_26_3, zf_32_0, zf_32_1, zf_32_3, zf_32_4, zf_32_5, zf_32_6, qL_isTable, zb_ne, e, e2, zi_1, zf_1, ct, cs, ztb_tag (tb4 ht), ft, aN, hok]
      | true =>
        rw [hb] at ft
        have hok : okN T (nI s) (nI t) = true := by simp [okN, ct, hb, e, e2]
        have hf := (tB_iff (hT t ht)).mp hb
        have h8 := (hT t ht).1.2
        obtain ⟨B, M1, w1, w2, w3, w4⟩ := qR_findLeast (tb4 ht) (by omega) (hC t ht) (hT t ht) hf
        have qN := nmN_q h8 w2
        have ea : (cmps (T t).1 ((T t).1 - 1) [0]).countP (fun v => tqb (T t).1 (rn (T t).2 v) B) = nmA (T t).1 (T t).2 := by
          unfold nmA
          congr 1
          funext v
          exact tqb_r qN
        rw [ea] at w1
        refine ⟨zto M1 (2 + 2 * s) 27, ?_, ?_, zhi.trans w4.hi (zhi_to hs)⟩
        · simp (disch := omega) [zf_L_name, zmeth, xm_en, zret, zretz, zretv, zseq, zst, zinc, zkl, zskip, zk, zi, za, zbin, zdiv, zrem, zgi, zgr, zld, zldr, zlen, zn, zc, zcall, zcallv, zrcv, zdo, zdov, zpf, zpfc, zas, zasc, zmin, zmax, zcmp, zcz, zand_e, zor_e, zite_e, zbite_e, zif_e, znot_e, z_add, z_sub, z_mul, z_and, z_or, z_xor, z_shl, z_shr, zcpy, -List.getElem?_cons_succ, zg_0, zg_1, zg_2, zg_3, zg_4, zg_5, zg_6, zg_7, zg_8, zg_9, zt_0, zt_12, zt_20, zt_26, zt_32, zf_0_0, zf_0_1, zf_0_2, zf_0_3, zf_0_4, zf_12_0, zf_12_1, zf_12_2, zf_12_4, zf_12_5, zf_20_1, zf_20_2, zf_20_3, zf_20_4, zf_20_6, zf_26_0, zf_26_1, zf_26_2, zf_26_3, zf_32_0, zf_32_1, zf_32_3, zf_32_4, zf_32_5, zf_32_6, qL_isTable, zb_ne, e, e2, zi_1, zf_1, ct, cs, ztb_tag (tb4 ht), ztb_tag (tb4 hs), ft, aN, hok, w1, qT_takeOver (tb4 hs) tb27]
        · simp only [sN, hok, cond_true, ct, cs]
          exact CS_to hs tb27 h8 (hC.sc w4) (kT_q w3 qN)
