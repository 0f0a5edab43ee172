/-! name: the reference's against with its answer; the reference's name -/
theorem d8_ne : ∀ x, x < 8 → ∀ y, y < 8 → xe_cd .ne (nI x - nI y) 0 = !decide (x = y) := by decide +kernel
theorem d8_lt : ∀ x, x < 8 → ∀ y, y < 8 → xe_cd .lt (nI x - nI y) 0 = decide (x < y) := by decide +kernel
theorem qM_ag {M : zM} {t1 t2 n : Nat} {c D : tC} {l : List Nat} (h1 : t1 < 5) (h2 : t2 < 5) (hr : rT M t1 n c) (hO : tO n c) (hf : tF n c) (hl : PL n l) (hg : ∀ k, k < n → M 36 k = nI (px l k)) (hr2 : rT M t2 n D) (hD : tF n D) : ∃ v M', zf_M_against [.ref 32, .int (nI t1), .int (nI t2)] M = some (some v, M') ∧ F5 M M' ∧ rT M' 5 n (rn c l) ∧ ((v = -1 ∧ tl n (rn c l) D) ∨ (v = nI 0 ∧ tq n (rn c l) D) ∨ (v = nI 1 ∧ tl n D (rn c l))) := by
  have h8 := hO.1.2
  have rf := rn_F hf hl
  obtain ⟨M1, e1, g1, k1⟩ := qM_ak1 (t2 := t2) h1 h2 hr hf h8 (fun k hk => ⟨hg k hk, hl.pl hk⟩) (fun k k' a b e => by rw [← hl.gp a, ← hl.gp b, e])
  have g2 : F5 M (zup M1 33 5 (nI n)) := fun q j z1 z2 => by
    rw [zup_e, if_neg z1]
    exact g1 q j z1 z2
  have r5 : rT (zup M1 33 5 (nI n)) 5 n (rn c l) := ⟨by rw [zup_e, if_pos ⟨rfl, rfl⟩], fun a b ha hb => by
    have k := k1 _ _ (hl.gl ha) (hl.gl hb) (Or.inl (hl.gl ha))
    rw [hl.pg ha, hl.pg hb] at k
    have f8 := rf a b ha hb
    rw [zup_e, if_neg (by omega), zcl_lt (by omega)]
    exact k⟩
  have r2 := g2.rT h2 h8 hr2
  generalize hM2 : zup M1 33 5 (nI n) = M2 at g2 r5 r2
  have l4 := fun (a : Nat) (ha : a < n) (hq : ∀ x y, x < n → y < n → x < a → rn c l x y = D x y) => zwh_inv (c := zc_M_against_4) (s := zs_M_against_4) (fun b ls M' => M' = M2 ∧ ls = [some (Value.ref (32)), some (Value.int (nI t1)), some (Value.int (nI t2)), some (Value.int (nI n)), some (Value.int (nI a)), some (Value.int (nI b)), none] ∧ ∀ x y, x < n → y < n → (x < a ∨ x = a ∧ y < b) → rn c l x y = D x y) (Q := fun r ls M' => M' = M2 ∧ ((r = none ∧ ls = [some (Value.ref (32)), some (Value.int (nI t1)), some (Value.int (nI t2)), some (Value.int (nI n)), some (Value.int (nI a)), some (Value.int (nI n)), none] ∧ ∀ x y, x < n → y < n → (x < a ∨ x = a ∧ y < n) → rn c l x y = D x y) ∨ ∃ v, r = some (some v) ∧ ((v = -1 ∧ tl n (rn c l) D) ∨ (v = nI 0 ∧ tq n (rn c l) D) ∨ (v = nI 1 ∧ tl n D (rn c l))))) (n := n) (fun ls M' q => by
      obtain ⟨rfl, rfl, q⟩ := q
      exact ⟨by simp (disch := omega) [zc_M_against_4, zmeth, xm_en, zret, zretz, zretv, zseq, zst, zinc, zkl, zskip, zk, zi, za, zbin, zdiv, zrem, zgi, zgr, zld, zldr, zlen, zn, zc, zcall, zcallv, zrcv, zdo, zdov, zpf, zpfc, zas, zasc, zmin, zmax, zcmp, zcz, zand_e, zor_e, zite_e, zbite_e, zif_e, znot_e, z_add, z_sub, z_mul, z_and, z_or, z_xor, z_shl, z_shr, zcpy, -List.getElem?_cons_succ, zg_0, zg_1, zg_2, zg_3, zg_4, zg_5, zg_6, zg_7, zg_8, zg_9, zc_lt, zc_le, zc_gt, zc_ge, zc_eq, zc_ne, zc_lt0, zc_ge0, zc_gt0, zc_eq0, zc_ne0, zb_ne, zb_eq, zb_01, z_00, z_01, z_11, zb_f, zb_T, zb_F, zbm1, zbm2, zbm5, zbm6, zbm3, zbm4, nI_clamp, zmod_n, pk_div, nI_ne0, pk_mul, nI_add, nI_1], rfl, Or.inl ⟨rfl, rfl, q⟩⟩) n 0 (by omega) (fun b ls M' _ hb q => by
      obtain ⟨rfl, rfl, q⟩ := q
      refine ⟨by simp (disch := omega) [zc_M_against_4, zmeth, xm_en, zret, zretz, zretv, zseq, zst, zinc, zkl, zskip, zk, zi, za, zbin, zdiv, zrem, zgi, zgr, zld, zldr, zlen, zn, zc, zcall, zcallv, zrcv, zdo, zdov, zpf, zpfc, zas, zasc, zmin, zmax, zcmp, zcz, zand_e, zor_e, zite_e, zbite_e, zif_e, znot_e, z_add, z_sub, z_mul, z_and, z_or, z_xor, z_shl, z_shr, zcpy, -List.getElem?_cons_succ, zg_0, zg_1, zg_2, zg_3, zg_4, zg_5, zg_6, zg_7, zg_8, zg_9, zc_lt, zc_le, zc_gt, zc_ge, zc_eq, zc_ne, zc_lt0, zc_ge0, zc_gt0, zc_eq0, zc_ne0, zb_ne, zb_eq, zb_01, z_00, z_01, z_11, zb_f, zb_T, zb_F, zbm1, zbm2, zbm5, zbm6, zbm3, zbm4, nI_clamp, zmod_n, pk_div, nI_ne0, pk_mul, nI_add, nI_1, hb], ?_⟩
      have c1 := qM_mul (show 5 < 6 by omega) r5 h8 rf ha hb
      have c2 := qM_mul (show t2 < 6 by omega) r2 h8 hD ha hb
      have x8 := rf a b ha hb
      have y8 := hD a b ha hb
      have dn := d8_ne (rn c l a b) (by omega) (D a b) (by omega)
      have dl := d8_lt (rn c l a b) (by omega) (D a b) (by omega)
      rcases Nat.lt_trichotomy (rn c l a b) (D a b) with g | g | g
      · have ne : ¬ rn c l a b = D a b := by omega
        rw [decide_eq_false ne] at dn
        rw [decide_eq_true g] at dl
        exact ⟨some (some (-1)), _, M', by simp (disch := omega) [zs_M_against_4, zmeth, xm_en, zret, zretz, zretv, zseq, zst, zinc, zkl, zskip, zk, zi, za, zbin, zdiv, zrem, zgi, zgr, zld, zldr, zlen, zn, zc, zcall, zcallv, zrcv, zdo, zdov, zpf, zpfc, zas, zasc, zmin, zmax, zcmp, zcz, zand_e, zor_e, zite_e, zbite_e, zif_e, znot_e, z_add, z_sub, z_mul, z_and, z_or, z_xor, z_shl, z_shr, zcpy, -List.getElem?_cons_succ, zg_0, zg_1, zg_2, zg_3, zg_4, zg_5, zg_6, zg_7, zg_8, zg_9, zt_0, zt_12, zt_20, zt_26, zt_32, zf_0_0, zf_0_1, zf_0_2, zf_0_3, zf_0_4, zf_12_0, zf_12_1, zf_12_2, zf_12_4, zf_12_5, zf_20_1, zf_20_2, zf_20_3, zf_20_4, zf_20_6, zf_26_0, zf_26_1, zf_26_2, zf_26_3, zf_32_0, zf_32_1, zf_32_3, zf_32_4, zf_32_5, zf_32_6, nI_1, c1, c2, dn, dl]; rfl, rfl, Or.inr ⟨_, rfl, Or.inl ⟨rfl, a, b, ha, hb, g, q⟩⟩⟩
      · rw [decide_eq_true g] at dn
        refine ⟨none, _, M', by simp (disch := omega) [zs_M_against_4, zmeth, xm_en, zret, zretz, zretv, zseq, zst, zinc, zkl, zskip, zk, zi, za, zbin, zdiv, zrem, zgi, zgr, zld, zldr, zlen, zn, zc, zcall, zcallv, zrcv, zdo, zdov, zpf, zpfc, zas, zasc, zmin, zmax, zcmp, zcz, zand_e, zor_e, zite_e, zbite_e, zif_e, znot_e, z_add, z_sub, z_mul, z_and, z_or, z_xor, z_shl, z_shr, zcpy, -List.getElem?_cons_succ, zg_0, zg_1, zg_2, zg_3, zg_4, zg_5, zg_6, zg_7, zg_8, zg_9, zt_0, zt_12, zt_20, zt_26, zt_32, zf_0_0, zf_0_1, zf_0_2, zf_0_3, zf_0_4, zf_12_0, zf_12_1, zf_12_2, zf_12_4, zf_12_5, zf_20_1, zf_20_2, zf_20_3, zf_20_4, zf_20_6, zf_26_0, zf_26_1, zf_26_2, zf_26_3, zf_32_0, zf_32_1, zf_32_3, zf_32_4, zf_32_5, zf_32_6, nI_1, c1, c2, dn], rfl, rfl, fun x y hx hy z => ?_⟩
        by_cases w : x = a ∧ y = b
        · rw [w.1, w.2]
          exact g
        · exact q x y hx hy (by omega)
      · have ne : ¬ rn c l a b = D a b := by omega
        have nl : ¬ rn c l a b < D a b := by omega
        rw [decide_eq_false ne] at dn
        rw [decide_eq_false nl] at dl
        exact ⟨some (some (nI 1)), _, M', by simp (disch := omega) [zs_M_against_4, zmeth, xm_en, zret, zretz, zretv, zseq, zst, zinc, zkl, zskip, zk, zi, za, zbin, zdiv, zrem, zgi, zgr, zld, zldr, zlen, zn, zc, zcall, zcallv, zrcv, zdo, zdov, zpf, zpfc, zas, zasc, zmin, zmax, zcmp, zcz, zand_e, zor_e, zite_e, zbite_e, zif_e, znot_e, z_add, z_sub, z_mul, z_and, z_or, z_xor, z_shl, z_shr, zcpy, -List.getElem?_cons_succ, zg_0, zg_1, zg_2, zg_3, zg_4, zg_5, zg_6, zg_7, zg_8, zg_9, zt_0, zt_12, zt_20, zt_26, zt_32, zf_0_0, zf_0_1, zf_0_2, zf_0_3, zf_0_4, zf_12_0, zf_12_1, zf_12_2, zf_12_4, zf_12_5, zf_20_1, zf_20_2, zf_20_3, zf_20_4, zf_20_6, zf_26_0, zf_26_1, zf_26_2, zf_26_3, zf_32_0, zf_32_1, zf_32_3, zf_32_4, zf_32_5, zf_32_6, nI_1, c1, c2, dn, dl]; rfl, rfl, Or.inr ⟨_, rfl, Or.inr (Or.inr ⟨rfl, a, b, ha, hb, g, fun x y hx hy z => (q x y hx hy z).symm⟩)⟩⟩) [some (Value.ref (32)), some (Value.int (nI t1)), some (Value.int (nI t2)), some (Value.int (nI n)), some (Value.int (nI a)), some (Value.int (nI 0)), none] M2 ⟨rfl, rfl, fun x y hx hy z => hq x y hx hy (by omega)⟩
  obtain ⟨r, ls, M3, w1, rfl, w2⟩ := zwh_inv (c := zc_M_against_3) (s := zs_M_against_3) (fun a ls M' => M' = M2 ∧ ls = [some (Value.ref (32)), some (Value.int (nI t1)), some (Value.int (nI t2)), some (Value.int (nI n)), some (Value.int (nI a)), none, none] ∧ ∀ x y, x < n → y < n → x < a → rn c l x y = D x y) (Q := fun r ls M' => M' = M2 ∧ ((r = none ∧ ls = [some (Value.ref (32)), some (Value.int (nI t1)), some (Value.int (nI t2)), some (Value.int (nI n)), some (Value.int (nI n)), none, none] ∧ tq n (rn c l) D) ∨ ∃ v, r = some (some v) ∧ ((v = -1 ∧ tl n (rn c l) D) ∨ (v = nI 0 ∧ tq n (rn c l) D) ∨ (v = nI 1 ∧ tl n D (rn c l))))) (n := n) (fun ls M' q => by
      obtain ⟨rfl, rfl, q⟩ := q
      exact ⟨by simp (disch := omega) [zc_M_against_3, zmeth, xm_en, zret, zretz, zretv, zseq, zst, zinc, zkl, zskip, zk, zi, za, zbin, zdiv, zrem, zgi, zgr, zld, zldr, zlen, zn, zc, zcall, zcallv, zrcv, zdo, zdov, zpf, zpfc, zas, zasc, zmin, zmax, zcmp, zcz, zand_e, zor_e, zite_e, zbite_e, zif_e, znot_e, z_add, z_sub, z_mul, z_and, z_or, z_xor, z_shl, z_shr, zcpy, -List.getElem?_cons_succ, zg_0, zg_1, zg_2, zg_3, zg_4, zg_5, zg_6, zg_7, zg_8, zg_9, zc_lt, zc_le, zc_gt, zc_ge, zc_eq, zc_ne, zc_lt0, zc_ge0, zc_gt0, zc_eq0, zc_ne0, zb_ne, zb_eq, zb_01, z_00, z_01, z_11, zb_f, zb_T, zb_F, zbm1, zbm2, zbm5, zbm6, zbm3, zbm4, nI_clamp, zmod_n, pk_div, nI_ne0, pk_mul, nI_add, nI_1], rfl, Or.inl ⟨rfl, rfl, fun x y hx hy => q x y hx hy hx⟩⟩) n 0 (by omega) (fun a ls M' _ ha q => by
      obtain ⟨rfl, rfl, q⟩ := q
      refine ⟨by simp (disch := omega) [zc_M_against_3, zmeth, xm_en, zret, zretz, zretv, zseq, zst, zinc, zkl, zskip, zk, zi, za, zbin, zdiv, zrem, zgi, zgr, zld, zldr, zlen, zn, zc, zcall, zcallv, zrcv, zdo, zdov, zpf, zpfc, zas, zasc, zmin, zmax, zcmp, zcz, zand_e, zor_e, zite_e, zbite_e, zif_e, znot_e, z_add, z_sub, z_mul, z_and, z_or, z_xor, z_shl, z_shr, zcpy, -List.getElem?_cons_succ, zg_0, zg_1, zg_2, zg_3, zg_4, zg_5, zg_6, zg_7, zg_8, zg_9, zc_lt, zc_le, zc_gt, zc_ge, zc_eq, zc_ne, zc_lt0, zc_ge0, zc_gt0, zc_eq0, zc_ne0, zb_ne, zb_eq, zb_01, z_00, z_01, z_11, zb_f, zb_T, zb_F, zbm1, zbm2, zbm5, zbm6, zbm3, zbm4, nI_clamp, zmod_n, pk_div, nI_ne0, pk_mul, nI_add, nI_1, ha], ?_⟩
      obtain ⟨r, ls, M4, e4, rfl, ⟨rfl, rfl, q4⟩ | ⟨v, rfl, q4⟩⟩ := l4 a ha q
      · exact ⟨none, _, M4, by simp (disch := omega) [zs_M_against_3, zmeth, xm_en, zret, zretz, zretv, zseq, zst, zinc, zkl, zskip, zk, zi, za, zbin, zdiv, zrem, zgi, zgr, zld, zldr, zlen, zn, zc, zcall, zcallv, zrcv, zdo, zdov, zpf, zpfc, zas, zasc, zmin, zmax, zcmp, zcz, zand_e, zor_e, zite_e, zbite_e, zif_e, znot_e, z_add, z_sub, z_mul, z_and, z_or, z_xor, z_shl, z_shr, zcpy, -List.getElem?_cons_succ, zg_0, zg_1, zg_2, zg_3, zg_4, zg_5, zg_6, zg_7, zg_8, zg_9, zc_lt, zc_le, zc_gt, zc_ge, zc_eq, zc_ne, zc_lt0, zc_ge0, zc_gt0, zc_eq0, zc_ne0, zb_ne, zb_eq, zb_01, z_00, z_01, z_11, zb_f, zb_T, zb_F, zbm1, zbm2, zbm5, zbm6, zbm3, zbm4, nI_clamp, zmod_n, pk_div, nI_ne0, pk_mul, nI_add, nI_1, e4], rfl, rfl, fun x y hx hy z => q4 x y hx hy (by omega)⟩
      · exact ⟨some (some v), _, M4, by simp (disch := omega) [zs_M_against_3, zmeth, xm_en, zret, zretz, zretv, zseq, zst, zinc, zkl, zskip, zk, zi, za, zbin, zdiv, zrem, zgi, zgr, zld, zldr, zlen, zn, zc, zcall, zcallv, zrcv, zdo, zdov, zpf, zpfc, zas, zasc, zmin, zmax, zcmp, zcz, zand_e, zor_e, zite_e, zbite_e, zif_e, znot_e, z_add, z_sub, z_mul, z_and, z_or, z_xor, z_shl, z_shr, zcpy, -List.getElem?_cons_succ, zg_0, zg_1, zg_2, zg_3, zg_4, zg_5, zg_6, zg_7, zg_8, zg_9, zc_lt, zc_le, zc_gt, zc_ge, zc_eq, zc_ne, zc_lt0, zc_ge0, zc_gt0, zc_eq0, zc_ne0, zb_ne, zb_eq, zb_01, z_00, z_01, z_11, zb_f, zb_T, zb_F, zbm1, zbm2, zbm5, zbm6, zbm3, zbm4, nI_clamp, zmod_n, pk_div, nI_ne0, pk_mul, nI_add, nI_1, e4]; rfl, rfl, Or.inr ⟨v, rfl, q4⟩⟩) [some (Value.ref (32)), some (Value.int (nI t1)), some (Value.int (nI t2)), some (Value.int (nI n)), some (Value.int (nI 0)), none, none] M2 ⟨rfl, rfl, fun x y hx hy z => absurd z (Nat.not_lt_zero x)⟩
  have zn1 := hr.1
  rcases w2 with ⟨rfl, rfl, w2⟩ | ⟨v, rfl, w2⟩
  · exact ⟨nI 0, M3, by simp (disch := omega) [zf_M_against, zmeth, xm_en, zret, zretz, zretv, zseq, zst, zinc, zkl, zskip, zk, zi, za, zbin, zdiv, zrem, zgi, zgr, zld, zldr, zlen, zn, zc, zcall, zcallv, zrcv, zdo, zdov, zpf, zpfc, zas, zasc, zmin, zmax, zcmp, zcz, zand_e, zor_e, zite_e, zbite_e, zif_e, znot_e, z_add, z_sub, z_mul, z_and, z_or, z_xor, z_shl, z_shr, zcpy, -List.getElem?_cons_succ, zg_0, zg_1, zg_2, zg_3, zg_4, zg_5, zg_6, zg_7, zg_8, zg_9, zt_0, zt_12, zt_20, zt_26, zt_32, zf_0_0, zf_0_1, zf_0_2, zf_0_3, zf_0_4, zf_12_0, zf_12_1, zf_12_2, zf_12_4, zf_12_5, zf_20_1, zf_20_2, zf_20_3, zf_20_4, zf_20_6, zf_26_0, zf_26_1, zf_26_2, zf_26_3, zf_32_0, zf_32_1, zf_32_3, zf_32_4, zf_32_5, zf_32_6, zi_33, nI_clamp, zn1, e1, hM2, w1], g2, r5, Or.inr (Or.inl ⟨rfl, w2⟩)⟩
  · exact ⟨v, M3, by simp (disch := omega) [zf_M_against, zmeth, xm_en, zret, zretz, zretv, zseq, zst, zinc, zkl, zskip, zk, zi, za, zbin, zdiv, zrem, zgi, zgr, zld, zldr, zlen, zn, zc, zcall, zcallv, zrcv, zdo, zdov, zpf, zpfc, zas, zasc, zmin, zmax, zcmp, zcz, zand_e, zor_e, zite_e, zbite_e, zif_e, znot_e, z_add, z_sub, z_mul, z_and, z_or, z_xor, z_shl, z_shr, zcpy, -List.getElem?_cons_succ, zg_0, zg_1, zg_2, zg_3, zg_4, zg_5, zg_6, zg_7, zg_8, zg_9, zt_0, zt_12, zt_20, zt_26, zt_32, zf_0_0, zf_0_1, zf_0_2, zf_0_3, zf_0_4, zf_12_0, zf_12_1, zf_12_2, zf_12_4, zf_12_5, zf_20_1, zf_20_2, zf_20_3, zf_20_4, zf_20_6, zf_26_0, zf_26_1, zf_26_2, zf_26_3, zf_32_0, zf_32_1, zf_32_3, zf_32_4, zf_32_5, zf_32_6, zi_33, nI_clamp, zn1, e1, hM2, w1], g2, r5, w2⟩
theorem zsr.rT {M M' : zM} {t n : Nat} {c : tC} (h : zsr M M') (ht : t < 4) (h8 : n ≤ 8) (hr : rT M t n c) : rT M' t n c := hr.same h8 (h _ _ (Or.inr (Or.inl ⟨rfl, ht⟩))) (fun j _ b => h _ _ (Or.inr (Or.inr ⟨rfl, by omega⟩)))
theorem F5.sr {M M' : zM} (h : F5 M M') : zsr M M' := fun k j q => h k j (by omega) (by omega)
/-- the reference's loop over all renamings -/
theorem qM_nm1 {M0 : zM} {s t n : Nat} {c : tC} (ht : t < 4) (hr : rT M0 t n c) (hO : tO n c) (hf : tF n c) (h4 : rT M0 4 n c) {lr : Nat → List Nat} (p1 : ∀ r, r < fa (n - 1) → PL n (lr r)) (p3 : ∀ l, PL n l → ∃ r, r < fa (n - 1) ∧ lr r = l) (p4 : ∀ r, r < fa (n - 1) → ∀ M, ∃ M', zf_M_renames [.ref 32, .int (nI n), .int (nI 0), .int (nI r)] M = some (none, M') ∧ (∀ k, k < n → M' 36 k = nI (px (lr r) k)) ∧ ∀ q j, q ≠ 36 → M' q j = M q j) : ∃ B M', zwh zc_M_name_1 zs_M_name_1 [some (Value.ref (32)), some (Value.int (nI s)), some (Value.int (nI t)), some (Value.int (nI 0)), some (Value.int (nI 0))] M0 = some (none, [some (Value.ref (32)), some (Value.int (nI s)), some (Value.int (nI t)), some (Value.int (nI (zsum (fun r => if tqb n (rn c (lr r)) c = true then 1 else 0) (fa (n - 1))))), some (Value.int (nI (fa (n - 1))))], M') ∧ LEA n c B ∧ rT M' 4 n B ∧ zsr M0 M' := by
  have h8 := hO.1.2
  have h1 := hO.1.1
  have es : nI n - nI 1 = nI (n - 1) := pk_sub (by omega)
  have fb := fa_le (n - 1) (by omega)
  have fc : ∀ M', zf_M_factorial [.int (nI (n - 1))] M' = some (some (nI (fa (n - 1))), M') := fun M' => qM_factorial (by omega)
  have zbb : ∀ k, k ≤ fa (n - 1) → zsum (fun r => if tqb n (rn c (lr r)) c = true then 1 else 0) k ≤ 5040 := fun k hk => by
    have := zsum_le (f := fun r => if tqb n (rn c (lr r)) c = true then 1 else 0) (b := 1) (n := k) (fun i _ => by split <;> omega)
    omega
  obtain ⟨r, ls, M', w1, rfl, rfl, w2⟩ := zwh_inv (c := zc_M_name_1) (s := zs_M_name_1) (fun k ls M' => ls = [some (Value.ref (32)), some (Value.int (nI s)), some (Value.int (nI t)), some (Value.int (nI (zsum (fun r => if tqb n (rn c (lr r)) c = true then 1 else 0) k))), some (Value.int (nI k))] ∧ zsr M0 M' ∧ ∃ B, rT M' 4 n B ∧ (∃ l, PL n l ∧ tq n B (rn c l)) ∧ ∀ r, r < k → ¬ tl n (rn c (lr r)) B) (Q := fun r ls M' => r = none ∧ ls = [some (Value.ref (32)), some (Value.int (nI s)), some (Value.int (nI t)), some (Value.int (nI (zsum (fun r => if tqb n (rn c (lr r)) c = true then 1 else 0) (fa (n - 1))))), some (Value.int (nI (fa (n - 1))))] ∧ zsr M0 M' ∧ ∃ B, rT M' 4 n B ∧ (∃ l, PL n l ∧ tq n B (rn c l)) ∧ ∀ r, r < fa (n - 1) → ¬ tl n (rn c (lr r)) B) (n := fa (n - 1)) (fun ls M' q => by
      obtain ⟨rfl, q, q2⟩ := q
      have z := (q.rT ht h8 hr).1
      exact ⟨by simp (disch := omega) [zc_M_name_1, zmeth, xm_en, zret, zretz, zretv, zseq, zst, zinc, zkl, zskip, zk, zi, za, zbin, zdiv, zrem, zgi, zgr, zld, zldr, zlen, zn, zc, zcall, zcallv, zrcv, zdo, zdov, zpf, zpfc, zas, zasc, zmin, zmax, zcmp, zcz, zand_e, zor_e, zite_e, zbite_e, zif_e, znot_e, z_add, z_sub, z_mul, z_and, z_or, z_xor, z_shl, z_shr, zcpy, -List.getElem?_cons_succ, zg_0, zg_1, zg_2, zg_3, zg_4, zg_5, zg_6, zg_7, zg_8, zg_9, zc_lt, zc_le, zc_gt, zc_ge, zc_eq, zc_ne, zc_lt0, zc_ge0, zc_gt0, zc_eq0, zc_ne0, zb_ne, zb_eq, zb_01, z_00, z_01, z_11, zb_f, zb_T, zb_F, zbm1, zbm2, zbm5, zbm6, zbm3, zbm4, nI_clamp, zmod_n, pk_div, nI_ne0, pk_mul, nI_add, nI_1, zt_0, zt_12, zt_20, zt_26, zt_32, zf_0_0, zf_0_1, zf_0_2, zf_0_3, zf_0_4, zf_12_0, zf_12_1, zf_12_2, zf_12_4, zf_12_5, zf_20_1, zf_20_2, zf_20_3, zf_20_4, zf_20_6, zf_26_0, zf_26_1, zf_26_2, zf_26_3, zf_32_0, zf_32_1, zf_32_3, zf_32_4, zf_32_5, zf_32_6, zi_33, z, es, fc], rfl, rfl, q, q2⟩) (fa (n - 1)) 0 (by omega) (fun k ls M' _ hk q => by
      obtain ⟨rfl, q, B, b1, ⟨l0, b2, b3⟩, b4⟩ := q
      have z := q.rT ht h8 hr
      refine ⟨by simp (disch := omega) [zc_M_name_1, zmeth, xm_en, zret, zretz, zretv, zseq, zst, zinc, zkl, zskip, zk, zi, za, zbin, zdiv, zrem, zgi, zgr, zld, zldr, zlen, zn, zc, zcall, zcallv, zrcv, zdo, zdov, zpf, zpfc, zas, zasc, zmin, zmax, zcmp, zcz, zand_e, zor_e, zite_e, zbite_e, zif_e, znot_e, z_add, z_sub, z_mul, z_and, z_or, z_xor, z_shl, z_shr, zcpy, -List.getElem?_cons_succ, zg_0, zg_1, zg_2, zg_3, zg_4, zg_5, zg_6, zg_7, zg_8, zg_9, zc_lt, zc_le, zc_gt, zc_ge, zc_eq, zc_ne, zc_lt0, zc_ge0, zc_gt0, zc_eq0, zc_ne0, zb_ne, zb_eq, zb_01, z_00, z_01, z_11, zb_f, zb_T, zb_F, zbm1, zbm2, zbm5, zbm6, zbm3, zbm4, nI_clamp, zmod_n, pk_div, nI_ne0, pk_mul, nI_add, nI_1, zt_0, zt_12, zt_20, zt_26, zt_32, zf_0_0, zf_0_1, zf_0_2, zf_0_3, zf_0_4, zf_12_0, zf_12_1, zf_12_2, zf_12_4, zf_12_5, zf_20_1, zf_20_2, zf_20_3, zf_20_4, zf_20_6, zf_26_0, zf_26_1, zf_26_2, zf_26_3, zf_32_0, zf_32_1, zf_32_3, zf_32_4, zf_32_5, zf_32_6, zi_33, z.1, es, fc, hk], ?_⟩
      have B8 : tF n B := fun i j hi hj => by rw [b3 i j hi hj]; exact rn_F hf b2 i j hi hj
      have pk := p1 k hk
      obtain ⟨M1, e1, i1, s1⟩ := p4 k hk M'
      have q1 : zsr M0 M1 := zsr.trans q (fun k j z => s1 k j (by omega))
      have b1' : rT M1 4 n B := b1.same h8 (s1 _ _ (by omega)) (fun j _ _ => s1 _ _ (by omega))
      obtain ⟨v, M2, e2, f2, r2, o2⟩ := qM_ag (t2 := t) (by omega) (by omega) (q1.rT ht h8 hr) hO hf pk i1 (q1.rT ht h8 hr) hf
      have q2 : zsr M0 M2 := zsr.trans q1 f2.sr
      have i2 : ∀ k', k' < n → M2 36 k' = nI (px (lr k) k') := fun k' hk' => (f2 _ _ (by omega) (by omega)).trans (i1 k' hk')
      obtain ⟨w, M3, e3, f3, r3, o3⟩ := qM_ag (t2 := 4) (by omega) (by omega) (q2.rT ht h8 hr) hO hf pk i2 (f2.rT (by omega) h8 b1') B8
      have q3 : zsr M0 M3 := zsr.trans q2 f3.sr
      have sS : zsum (fun r => if tqb n (rn c (lr r)) c = true then 1 else 0) (k + 1) = zsum (fun r => if tqb n (rn c (lr r)) c = true then 1 else 0) k + (if tqb n (rn c (lr k)) c = true then 1 else 0) := rfl
      have zkb := zbb k (by omega)
      have ev : xe_cd .eq v 0 = tqb n (rn c (lr k)) c := by
        rcases o2 with ⟨rfl, o⟩ | ⟨rfl, o⟩ | ⟨rfl, o⟩
        · rw [tqb_f (fun z => tl_ne o z)]
          decide
        · rw [tqb_t.mpr o]
          decide
        · rw [tqb_f (fun z => tl_ne o z.symm)]
          decide
      obtain ⟨Z, hZ⟩ : ∃ Z, zsum (fun r => if tqb n (rn c (lr r)) c = true then 1 else 0) k = Z := ⟨_, rfl⟩
      rw [hZ] at sS zkb ⊢
      have zz := z.1
      rcases o3 with ⟨rfl, o⟩ | ⟨rfl, o⟩ | ⟨rfl, o⟩
      · have el : xe_cd .lt (-1 : Int32) 0 = true := by decide
        have nb : (∃ l, PL n l ∧ tq n (rn c (lr k)) (rn c l)) ∧ ∀ r, r < k + 1 → ¬ tl n (rn c (lr r)) (rn c (lr k)) := ⟨⟨lr k, pk, fun _ _ _ _ => rfl⟩, fun r hr z => by
          by_cases e : r = k
          · subst e
            exact tl_ne z (fun _ _ _ _ => rfl)
          · exact b4 r (by omega) (tl_tr z o)⟩
        have q4 : zsr M0 (zcp M3 4 5 64) := zsr.trans q3 (fun k j z => zcp_out (by omega) (by omega))
        cases hq : tqb n (rn c (lr k)) c with
        | false =>
          rw [hq] at ev sS
          have sS : _ = Z := sS
          exact ⟨none, [some (Value.ref (32)), some (Value.int (nI s)), some (Value.int (nI t)), some (Value.int (nI Z)), some (Value.int (nI (k + 1)))], zcp M3 4 5 64, by simp (disch := omega) [zs_M_name_1, zmeth, xm_en, zret, zretz, zretv, zseq, zst, zinc, zkl, zskip, zk, zi, za, zbin, zdiv, zrem, zgi, zgr, zld, zldr, zlen, zn, zc, zcall, zcallv, zrcv, zdo, zdov, zpf, zpfc, zas, zasc, zmin, zmax, zcmp, zcz, zand_e, zor_e, zite_e, zbite_e, zif_e, znot_e, z_add, z_sub, z_mul, z_and, z_or, z_xor, z_shl, z_shr, zcpy, -List.getElem?_cons_succ, zg_0, zg_1, zg_2, zg_3, zg_4, zg_5, zg_6, zg_7, zg_8, zg_9, zc_lt, zc_le, zc_gt, zc_ge, zc_eq, zc_ne, zc_lt0, zc_ge0, zc_gt0, zc_eq0, zc_ne0, zb_ne, zb_eq, zb_01, z_00, z_01, z_11, zb_f, zb_T, zb_F, zbm1, zbm2, zbm5, zbm6, zbm3, zbm4, nI_clamp, zmod_n, pk_div, nI_ne0, pk_mul, nI_add, nI_1, zt_0, zt_12, zt_20, zt_26, zt_32, zf_0_0, zf_0_1, zf_0_2, zf_0_3, zf_0_4, zf_12_0, zf_12_1, zf_12_2, zf_12_4, zf_12_5, zf_20_1, zf_20_2, zf_20_3, zf_20_4, zf_20_6, zf_26_0, zf_26_1, zf_26_2, zf_26_3, zf_32_0, zf_32_1, zf_32_3, zf_32_4, zf_32_5, zf_32_6, zi_33, zz, e1, e2, e3, ev, el, qM_copies], by rw [sS], q4, _, rT_cp h8 r3, nb⟩
        | true =>
          rw [hq] at ev sS
          have sS : _ = Z + 1 := sS
          exact ⟨none, [some (Value.ref (32)), some (Value.int (nI s)), some (Value.int (nI t)), some (Value.int (nI (Z + 1))), some (Value.int (nI (k + 1)))], zcp M3 4 5 64, by simp (disch := omega) [zs_M_name_1, zmeth, xm_en, zret, zretz, zretv, zseq, zst, zinc, zkl, zskip, zk, zi, za, zbin, zdiv, zrem, zgi, zgr, zld, zldr, zlen, zn, zc, zcall, zcallv, zrcv, zdo, zdov, zpf, zpfc, zas, zasc, zmin, zmax, zcmp, zcz, zand_e, zor_e, zite_e, zbite_e, zif_e, znot_e, z_add, z_sub, z_mul, z_and, z_or, z_xor, z_shl, z_shr, zcpy, -List.getElem?_cons_succ, zg_0, zg_1, zg_2, zg_3, zg_4, zg_5, zg_6, zg_7, zg_8, zg_9, zc_lt, zc_le, zc_gt, zc_ge, zc_eq, zc_ne, zc_lt0, zc_ge0, zc_gt0, zc_eq0, zc_ne0, zb_ne, zb_eq, zb_01, z_00, z_01, z_11, zb_f, zb_T, zb_F, zbm1, zbm2, zbm5, zbm6, zbm3, zbm4, nI_clamp, zmod_n, pk_div, nI_ne0, pk_mul, nI_add, nI_1, zt_0, zt_12, zt_20, zt_26, zt_32, zf_0_0, zf_0_1, zf_0_2, zf_0_3, zf_0_4, zf_12_0, zf_12_1, zf_12_2, zf_12_4, zf_12_5, zf_20_1, zf_20_2, zf_20_3, zf_20_4, zf_20_6, zf_26_0, zf_26_1, zf_26_2, zf_26_3, zf_32_0, zf_32_1, zf_32_3, zf_32_4, zf_32_5, zf_32_6, zi_33, zz, e1, e2, e3, ev, el, qM_copies], by rw [sS], q4, _, rT_cp h8 r3, nb⟩
      · have el : xe_cd .lt (nI 0) 0 = false := by decide
        have nb : (∃ l, PL n l ∧ tq n B (rn c l)) ∧ ∀ r, r < k + 1 → ¬ tl n (rn c (lr r)) B := ⟨⟨l0, b2, b3⟩, fun r hr z => by
          by_cases e : r = k
          · subst e
            exact tl_ne z o
          · exact b4 r (by omega) z⟩
        cases hq : tqb n (rn c (lr k)) c with
        | false =>
          rw [hq] at ev sS
          have sS : _ = Z := sS
          exact ⟨none, [some (Value.ref (32)), some (Value.int (nI s)), some (Value.int (nI t)), some (Value.int (nI Z)), some (Value.int (nI (k + 1)))], M3, by simp (disch := omega) [zs_M_name_1, zmeth, xm_en, zret, zretz, zretv, zseq, zst, zinc, zkl, zskip, zk, zi, za, zbin, zdiv, zrem, zgi, zgr, zld, zldr, zlen, zn, zc, zcall, zcallv, zrcv, zdo, zdov, zpf, zpfc, zas, zasc, zmin, zmax, zcmp, zcz, zand_e, zor_e, zite_e, zbite_e, zif_e, znot_e, z_add, z_sub, z_mul, z_and, z_or, z_xor, z_shl, z_shr, zcpy, -List.getElem?_cons_succ, zg_0, zg_1, zg_2, zg_3, zg_4, zg_5, zg_6, zg_7, zg_8, zg_9, zc_lt, zc_le, zc_gt, zc_ge, zc_eq, zc_ne, zc_lt0, zc_ge0, zc_gt0, zc_eq0, zc_ne0, zb_ne, zb_eq, zb_01, z_00, z_01, z_11, zb_f, zb_T, zb_F, zbm1, zbm2, zbm5, zbm6, zbm3, zbm4, nI_clamp, zmod_n, pk_div, nI_ne0, pk_mul, nI_add, nI_1, zt_0, zt_12, zt_20, zt_26, zt_32, zf_0_0, zf_0_1, zf_0_2, zf_0_3, zf_0_4, zf_12_0, zf_12_1, zf_12_2, zf_12_4, zf_12_5, zf_20_1, zf_20_2, zf_20_3, zf_20_4, zf_20_6, zf_26_0, zf_26_1, zf_26_2, zf_26_3, zf_32_0, zf_32_1, zf_32_3, zf_32_4, zf_32_5, zf_32_6, zi_33, zz, e1, e2, e3, ev, el], by rw [sS], q3, B, f3.rT (by omega) h8 (f2.rT (by omega) h8 b1'), nb⟩
        | true =>
          rw [hq] at ev sS
          have sS : _ = Z + 1 := sS
          exact ⟨none, [some (Value.ref (32)), some (Value.int (nI s)), some (Value.int (nI t)), some (Value.int (nI (Z + 1))), some (Value.int (nI (k + 1)))], M3, by simp (disch := omega) [zs_M_name_1, zmeth, xm_en, zret, zretz, zretv, zseq, zst, zinc, zkl, zskip, zk, zi, za, zbin, zdiv, zrem, zgi, zgr, zld, zldr, zlen, zn, zc, zcall, zcallv, zrcv, zdo, zdov, zpf, zpfc, zas, zasc, zmin, zmax, zcmp, zcz, zand_e, zor_e, zite_e, zbite_e, zif_e, znot_e, z_add, z_sub, z_mul, z_and, z_or, z_xor, z_shl, z_shr, zcpy, -List.getElem?_cons_succ, zg_0, zg_1, zg_2, zg_3, zg_4, zg_5, zg_6, zg_7, zg_8, zg_9, zc_lt, zc_le, zc_gt, zc_ge, zc_eq, zc_ne, zc_lt0, zc_ge0, zc_gt0, zc_eq0, zc_ne0, zb_ne, zb_eq, zb_01, z_00, z_01, z_11, zb_f, zb_T, zb_F, zbm1, zbm2, zbm5, zbm6, zbm3, zbm4, nI_clamp, zmod_n, pk_div, nI_ne0, pk_mul, nI_add, nI_1, zt_0, zt_12, zt_20, zt_26, zt_32, zf_0_0, zf_0_1, zf_0_2, zf_0_3, zf_0_4, zf_12_0, zf_12_1, zf_12_2, zf_12_4, zf_12_5, zf_20_1, zf_20_2, zf_20_3, zf_20_4, zf_20_6, zf_26_0, zf_26_1, zf_26_2, zf_26_3, zf_32_0, zf_32_1, zf_32_3, zf_32_4, zf_32_5, zf_32_6, zi_33, zz, e1, e2, e3, ev, el], by rw [sS], q3, B, f3.rT (by omega) h8 (f2.rT (by omega) h8 b1'), nb⟩
      · have el : xe_cd .lt (nI 1) 0 = false := by decide
        have nb : (∃ l, PL n l ∧ tq n B (rn c l)) ∧ ∀ r, r < k + 1 → ¬ tl n (rn c (lr r)) B := ⟨⟨l0, b2, b3⟩, fun r hr z => by
          by_cases e : r = k
          · subst e
            exact tl_as z o
          · exact b4 r (by omega) z⟩
        cases hq : tqb n (rn c (lr k)) c with
        | false =>
          rw [hq] at ev sS
          have sS : _ = Z := sS
          exact ⟨none, [some (Value.ref (32)), some (Value.int (nI s)), some (Value.int (nI t)), some (Value.int (nI Z)), some (Value.int (nI (k + 1)))], M3, by simp (disch := omega) [zs_M_name_1, zmeth, xm_en, zret, zretz, zretv, zseq, zst, zinc, zkl, zskip, zk, zi, za, zbin, zdiv, zrem, zgi, zgr, zld, zldr, zlen, zn, zc, zcall, zcallv, zrcv, zdo, zdov, zpf, zpfc, zas, zasc, zmin, zmax, zcmp, zcz, zand_e, zor_e, zite_e, zbite_e, zif_e, znot_e, z_add, z_sub, z_mul, z_and, z_or, z_xor, z_shl, z_shr, zcpy, -List.getElem?_cons_succ, zg_0, zg_1, zg_2, zg_3, zg_4, zg_5, zg_6, zg_7, zg_8, zg_9, zc_lt, zc_le, zc_gt, zc_ge, zc_eq, zc_ne, zc_lt0, zc_ge0, zc_gt0, zc_eq0, zc_ne0, zb_ne, zb_eq, zb_01, z_00, z_01, z_11, zb_f, zb_T, zb_F, zbm1, zbm2, zbm5, zbm6, zbm3, zbm4, nI_clamp, zmod_n, pk_div, nI_ne0, pk_mul, nI_add, nI_1, zt_0, zt_12, zt_20, zt_26, zt_32, zf_0_0, zf_0_1, zf_0_2, zf_0_3, zf_0_4, zf_12_0, zf_12_1, zf_12_2, zf_12_4, zf_12_5, zf_20_1, zf_20_2, zf_20_3, zf_20_4, zf_20_6, zf_26_0, zf_26_1, zf_26_2, zf_26_3, zf_32_0, zf_32_1, zf_32_3, zf_32_4, zf_32_5, zf_32_6, zi_33, zz, e1, e2, e3, ev, el], by rw [sS], q3, B, f3.rT (by omega) h8 (f2.rT (by omega) h8 b1'), nb⟩
        | true =>
          rw [hq] at ev sS
          have sS : _ = Z + 1 := sS
          exact ⟨none, [some (Value.ref (32)), some (Value.int (nI s)), some (Value.int (nI t)), some (Value.int (nI (Z + 1))), some (Value.int (nI (k + 1)))], M3, by simp (disch := omega) [zs_M_name_1, zmeth, xm_en, zret, zretz, zretv, zseq, zst, zinc, zkl, zskip, zk, zi, za, zbin, zdiv, zrem, zgi, zgr, zld, zldr, zlen, zn, zc, zcall, zcallv, zrcv, zdo, zdov, zpf, zpfc, zas, zasc, zmin, zmax, zcmp, zcz, zand_e, zor_e, zite_e, zbite_e, zif_e, znot_e, z_add, z_sub, z_mul, z_and, z_or, z_xor, z_shl, z_shr, zcpy, -List.getElem?_cons_succ, zg_0, zg_1, zg_2, zg_3, zg_4, zg_5, zg_6, zg_7, zg_8, zg_9, zc_lt, zc_le, zc_gt, zc_ge, zc_eq, zc_ne, zc_lt0, zc_ge0, zc_gt0, zc_eq0, zc_ne0, zb_ne, zb_eq, zb_01, z_00, z_01, z_11, zb_f, zb_T, zb_F, zbm1, zbm2, zbm5, zbm6, zbm3, zbm4, nI_clamp, zmod_n, pk_div, nI_ne0, pk_mul, nI_add, nI_1, zt_0, zt_12, zt_20, zt_26, zt_32, zf_0_0, zf_0_1, zf_0_2, zf_0_3, zf_0_4, zf_12_0, zf_12_1, zf_12_2, zf_12_4, zf_12_5, zf_20_1, zf_20_2, zf_20_3, zf_20_4, zf_20_6, zf_26_0, zf_26_1, zf_26_2, zf_26_3, zf_32_0, zf_32_1, zf_32_3, zf_32_4, zf_32_5, zf_32_6, zi_33, zz, e1, e2, e3, ev, el], by rw [sS], q3, B, f3.rT (by omega) h8 (f2.rT (by omega) h8 b1'), nb⟩) [some (Value.ref (32)), some (Value.int (nI s)), some (Value.int (nI t)), some (Value.int (nI 0)), some (Value.int (nI 0))] M0 ⟨rfl, zsr.refl M0, c, h4, ⟨List.range n, PL_rg h1, rn_rg hf⟩, fun r hr => absurd hr (Nat.not_lt_zero r)⟩
  obtain ⟨w2, B, b1, b2, b3⟩ := w2
  exact ⟨B, M', w1, ⟨b2, fun l hl => by
    obtain ⟨r, hr, e⟩ := p3 l hl
    rw [← e]
    exact b3 r hr⟩, b1, w2⟩
