/-! alike: the class's agrees and match with their answers -/
/-- the images of x and y agree with the products, as far as images are given -/
def ft (c D : tC) (l : List Nat) (x y : Nat) : Prop := (c x y < l.length → gd l (c x y) = D (gd l x) (gd l y)) ∧ (¬ c x y < l.length → D (gd l x) (gd l y) ∉ l)
/-- what is given of the images, and which are taken -/
def IMx (M : zM) (l : List Nat) : Prop := ∀ i, i < l.length → M 29 i = nI (gd l i)
def TK (tk : Nat) (l : List Nat) : Prop := tk < 256 ∧ ∀ v, tk.testBit v = true ↔ v ∈ l
theorem qR_ag2F {M : zM} {k1 k2 n x tk : Nat} {c D : tC} {l : List Nat} (hk1 : ztb k1) (hk2 : ztb k2) (h1 : kT M k1 n c) (h2 : kT M k2 n D) (hf1 : tF n c) (hf2 : tF n D) (h8 : n ≤ 8) (hl : PP n l) (hM : IMx M l) (ht : TK tk l) (hx1 : 1 ≤ x) (hx : x < l.length) : ∃ r ls, zwh zc_Renamings_agrees_2 zs_Renamings_agrees_2 [some (Value.ref (26)), some (Value.ref (k1)), some (Value.ref (k2)), some (Value.int (nI (l.length - 1))), some (Value.int (nI tk)), some (Value.int (nI x)), some (Value.int (nI 1)), none, none, none] M = some (r, ls, M) ∧ ((r = none ∧ ls = [some (Value.ref (26)), some (Value.ref (k1)), some (Value.ref (k2)), some (Value.int (nI (l.length - 1))), some (Value.int (nI tk)), some (Value.int (nI x)), some (Value.int (nI l.length)), none, none, none] ∧ ∀ y, 1 ≤ y → y < l.length → ft c D l x y) ∨ (r = some (some (nI 0)) ∧ ∃ y, 1 ≤ y ∧ y < l.length ∧ ¬ ft c D l x y)) := by
  have hl1 := hl.1
  obtain ⟨r, ls, M', w1, rfl, w2⟩ := zwh_inv (c := zc_Renamings_agrees_2) (s := zs_Renamings_agrees_2) (fun j ls M' => M' = M ∧ ls = [some (Value.ref (26)), some (Value.ref (k1)), some (Value.ref (k2)), some (Value.int (nI (l.length - 1))), some (Value.int (nI tk)), some (Value.int (nI x)), some (Value.int (nI j)), none, none, none] ∧ ∀ y, 1 ≤ y → y < j → ft c D l x y) (Q := fun r ls M' => M' = M ∧ ((r = none ∧ ls = [some (Value.ref (26)), some (Value.ref (k1)), some (Value.ref (k2)), some (Value.int (nI (l.length - 1))), some (Value.int (nI tk)), some (Value.int (nI x)), some (Value.int (nI l.length)), none, none, none] ∧ ∀ y, 1 ≤ y → y < l.length → ft c D l x y) ∨ (r = some (some (nI 0)) ∧ ∃ y, 1 ≤ y ∧ y < l.length ∧ ¬ ft c D l x y))) (n := l.length) (fun ls M' q => by
      obtain ⟨rfl, rfl, q⟩ := q
      have g : ¬ l.length ≤ l.length - 1 := by omega
      exact ⟨by simp (disch := omega) [zc_Renamings_agrees_2, zmeth, xm_en, zret, zretz, zretv, zseq, zst, zinc, zkl, zskip, zk, zi, za, zbin, zdiv, zrem, zgi, zgr, zld, zldr, zlen, zn, zc, zcall, zcallv, zrcv, zdo, zdov, zpf, zpfc, zas, zasc, zmin, zmax, zcmp, zcz, zand_e, zor_e, zite_e, zbite_e, zif_e, znot_e, z_add, z_sub, z_mul, z_and, z_or, z_xor, z_shl, z_shr, zcpy, -List.getElem?_cons_succ, zg_0, zg_1, zg_2, zg_3, zg_4, zg_5, zg_6, zg_7, zg_8, zg_9, zc_lt, zc_le, zc_gt, zc_ge, zc_eq, zc_ne, zc_lt0, zc_ge0, zc_gt0, zc_eq0, zc_ne0, zb_ne, zb_eq, zb_01, z_00, z_01, z_11, zb_f, zb_T, zb_F, zbm1, zbm2, zbm5, zbm6, zbm3, zbm4, nI_clamp, zmod_n, pk_div, nI_ne0, pk_mul, nI_add, nI_1, g], rfl, Or.inl ⟨rfl, rfl, q⟩⟩) (l.length - 1) 1 (by omega) (fun j ls M' hj1 hj q => by
      obtain ⟨rfl, rfl, q⟩ := q
      have hj2 : j ≤ l.length - 1 := by omega
      refine ⟨by simp (disch := omega) [zc_Renamings_agrees_2, zmeth, xm_en, zret, zretz, zretv, zseq, zst, zinc, zkl, zskip, zk, zi, za, zbin, zdiv, zrem, zgi, zgr, zld, zldr, zlen, zn, zc, zcall, zcallv, zrcv, zdo, zdov, zpf, zpfc, zas, zasc, zmin, zmax, zcmp, zcz, zand_e, zor_e, zite_e, zbite_e, zif_e, znot_e, z_add, z_sub, z_mul, z_and, z_or, z_xor, z_shl, z_shr, zcpy, -List.getElem?_cons_succ, zg_0, zg_1, zg_2, zg_3, zg_4, zg_5, zg_6, zg_7, zg_8, zg_9, zc_lt, zc_le, zc_gt, zc_ge, zc_eq, zc_ne, zc_lt0, zc_ge0, zc_gt0, zc_eq0, zc_ne0, zb_ne, zb_eq, zb_01, z_00, z_01, z_11, zb_f, zb_T, zb_F, zbm1, zbm2, zbm5, zbm6, zbm3, zbm4, nI_clamp, zmod_n, pk_div, nI_ne0, pk_mul, nI_add, nI_1, hj2], ?_⟩
      have ix := hM x hx
      have ij := hM j hj
      have gx := hl.gl hx
      have gj := hl.gl hj
      have t1 := qT_mul hk1 h1 h8 hf1 (show x < n by omega) (show j < n by omega)
      have t2 := qT_mul hk2 h2 h8 hf2 gx gj
      have f1 := hf1 x j (by omega) (by omega)
      have f2 := hf2 _ _ gx gj
      have nx : nI (l.length - 1) + nI 1 = nI l.length := by
        have : nI (l.length - 1) + nI 1 = nI (l.length - 1 + 1) := nI_1 _
        rw [this]
        congr 1
        omega
      have more : ft c D l x j → ∀ y, 1 ≤ y → y < j + 1 → ft c D l x y := fun h y a b => by
        by_cases e : y = j
        · rw [e]
          exact h
        · exact q y a (by omega)
      by_cases hb : c x j < l.length
      · have ib := hM _ hb
        have gb := hl.gl hb
        have z := zlt_y hb (show l.length < 2 ^ 31 by omega)
        by_cases hc : gd l (c x j) = D (gd l x) (gd l j)
        · exact ⟨none, _, M', by simp (disch := omega) [zs_Renamings_agrees_2, zmeth, xm_en, zret, zretz, zretv, zseq, zst, zinc, zkl, zskip, zk, zi, za, zbin, zdiv, zrem, zgi, zgr, zld, zldr, zlen, zn, zc, zcall, zcallv, zrcv, zdo, zdov, zpf, zpfc, zas, zasc, zmin, zmax, zcmp, zcz, zand_e, zor_e, zite_e, zbite_e, zif_e, znot_e, z_add, z_sub, z_mul, z_and, z_or, z_xor, z_shl, z_shr, zcpy, -List.getElem?_cons_succ, zg_0, zg_1, zg_2, zg_3, zg_4, zg_5, zg_6, zg_7, zg_8, zg_9, zt_0, zt_12, zt_20, zt_26, zt_32, zf_0_0, zf_0_1, zf_0_2, zf_0_3, zf_0_4, zf_12_0, zf_12_1, zf_12_2, zf_12_4, zf_12_5, zf_20_1, zf_20_2, zf_20_3, zf_20_4, zf_20_6, zf_26_0, zf_26_1, zf_26_2, zf_26_3, zf_32_0, zf_32_1, zf_32_3, zf_32_4, zf_32_5, zf_32_6, zc_lt, zc_le, zc_gt, zc_ge, zc_eq, zc_ne, zc_lt0, zc_ge0, zc_gt0, zc_eq0, zc_ne0, zb_ne, zb_eq, zb_01, z_00, z_01, z_11, zb_f, zb_T, zb_F, zbm1, zbm2, zbm5, zbm6, zbm3, zbm4, nI_clamp, zmod_n, pk_div, nI_ne0, pk_mul, nI_add, nI_1, zi_29, ztb_tag hk1, ztb_tag hk2, ix, ij, t1, t2, qL_isBelow, nx, z, ib, hc], rfl, rfl, more ⟨fun _ => hc, fun w => absurd hb w⟩⟩
        · exact ⟨some (some (nI 0)), _, M', by simp (disch := omega) [zs_Renamings_agrees_2, zmeth, xm_en, zret, zretz, zretv, zseq, zst, zinc, zkl, zskip, zk, zi, za, zbin, zdiv, zrem, zgi, zgr, zld, zldr, zlen, zn, zc, zcall, zcallv, zrcv, zdo, zdov, zpf, zpfc, zas, zasc, zmin, zmax, zcmp, zcz, zand_e, zor_e, zite_e, zbite_e, zif_e, znot_e, z_add, z_sub, z_mul, z_and, z_or, z_xor, z_shl, z_shr, zcpy, -List.getElem?_cons_succ, zg_0, zg_1, zg_2, zg_3, zg_4, zg_5, zg_6, zg_7, zg_8, zg_9, zt_0, zt_12, zt_20, zt_26, zt_32, zf_0_0, zf_0_1, zf_0_2, zf_0_3, zf_0_4, zf_12_0, zf_12_1, zf_12_2, zf_12_4, zf_12_5, zf_20_1, zf_20_2, zf_20_3, zf_20_4, zf_20_6, zf_26_0, zf_26_1, zf_26_2, zf_26_3, zf_32_0, zf_32_1, zf_32_3, zf_32_4, zf_32_5, zf_32_6, zc_lt, zc_le, zc_gt, zc_ge, zc_eq, zc_ne, zc_lt0, zc_ge0, zc_gt0, zc_eq0, zc_ne0, zb_ne, zb_eq, zb_01, z_00, z_01, z_11, zb_f, zb_T, zb_F, zbm1, zbm2, zbm5, zbm6, zbm3, zbm4, nI_clamp, zmod_n, pk_div, nI_ne0, pk_mul, nI_add, nI_1, zi_29, ztb_tag hk1, ztb_tag hk2, ix, ij, t1, t2, qL_isBelow, nx, z, ib, hc]; rfl, rfl, Or.inr ⟨rfl, j, hj1, hj, fun w => hc (w.1 hb)⟩⟩
      · have z : zlt (nI (c x j)) l.length = false := by
          rw [zlt_nI (by omega) (by omega)]
          exact decide_eq_false hb
        have bt := nI_bit (n := tk) (v := D (gd l x) (gd l j)) (by have := ht.1; omega) (by omega)
        cases hc : tk.testBit (D (gd l x) (gd l j)) with
        | false =>
          rw [hc] at bt
          have nm : D (gd l x) (gd l j) ∉ l := fun w => by
            rw [(ht.2 _).mpr w] at hc
            cases hc
          exact ⟨none, _, M', by simp (disch := omega) [zs_Renamings_agrees_2, zmeth, xm_en, zret, zretz, zretv, zseq, zst, zinc, zkl, zskip, zk, zi, za, zbin, zdiv, zrem, zgi, zgr, zld, zldr, zlen, zn, zc, zcall, zcallv, zrcv, zdo, zdov, zpf, zpfc, zas, zasc, zmin, zmax, zcmp, zcz, zand_e, zor_e, zite_e, zbite_e, zif_e, znot_e, z_add, z_sub, z_mul, z_and, z_or, z_xor, z_shl, z_shr, zcpy, -List.getElem?_cons_succ, zg_0, zg_1, zg_2, zg_3, zg_4, zg_5, zg_6, zg_7, zg_8, zg_9, zt_0, zt_12, zt_20, zt_26, zt_32, zf_0_0, zf_0_1, zf_0_2, zf_0_3, zf_0_4, zf_12_0, zf_12_1, zf_12_2, zf_12_4, zf_12_5, zf_20_1, zf_20_2, zf_20_3, zf_20_4, zf_20_6, zf_26_0, zf_26_1, zf_26_2, zf_26_3, zf_32_0, zf_32_1, zf_32_3, zf_32_4, zf_32_5, zf_32_6, zc_lt, zc_le, zc_gt, zc_ge, zc_eq, zc_ne, zc_lt0, zc_ge0, zc_gt0, zc_eq0, zc_ne0, zb_ne, zb_eq, zb_01, z_00, z_01, z_11, zb_f, zb_T, zb_F, zbm1, zbm2, zbm5, zbm6, zbm3, zbm4, nI_clamp, zmod_n, pk_div, nI_ne0, pk_mul, nI_add, nI_1, zi_29, ztb_tag hk1, ztb_tag hk2, ix, ij, t1, t2, qL_isBelow, nx, z, bt], rfl, rfl, more ⟨fun w => absurd w hb, fun _ => nm⟩⟩
        | true =>
          rw [hc] at bt
          have nm : D (gd l x) (gd l j) ∈ l := (ht.2 _).mp hc
          exact ⟨some (some (nI 0)), _, M', by simp (disch := omega) [zs_Renamings_agrees_2, zmeth, xm_en, zret, zretz, zretv, zseq, zst, zinc, zkl, zskip, zk, zi, za, zbin, zdiv, zrem, zgi, zgr, zld, zldr, zlen, zn, zc, zcall, zcallv, zrcv, zdo, zdov, zpf, zpfc, zas, zasc, zmin, zmax, zcmp, zcz, zand_e, zor_e, zite_e, zbite_e, zif_e, znot_e, z_add, z_sub, z_mul, z_and, z_or, z_xor, z_shl, z_shr, zcpy, -List.getElem?_cons_succ, zg_0, zg_1, zg_2, zg_3, zg_4, zg_5, zg_6, zg_7, zg_8, zg_9, zt_0, zt_12, zt_20, zt_26, zt_32, zf_0_0, zf_0_1, zf_0_2, zf_0_3, zf_0_4, zf_12_0, zf_12_1, zf_12_2, zf_12_4, zf_12_5, zf_20_1, zf_20_2, zf_20_3, zf_20_4, zf_20_6, zf_26_0, zf_26_1, zf_26_2, zf_26_3, zf_32_0, zf_32_1, zf_32_3, zf_32_4, zf_32_5, zf_32_6, zc_lt, zc_le, zc_gt, zc_ge, zc_eq, zc_ne, zc_lt0, zc_ge0, zc_gt0, zc_eq0, zc_ne0, zb_ne, zb_eq, zb_01, z_00, z_01, z_11, zb_f, zb_T, zb_F, zbm1, zbm2, zbm5, zbm6, zbm3, zbm4, nI_clamp, zmod_n, pk_div, nI_ne0, pk_mul, nI_add, nI_1, zi_29, ztb_tag hk1, ztb_tag hk2, ix, ij, t1, t2, qL_isBelow, nx, z, bt]; rfl, rfl, Or.inr ⟨rfl, j, hj1, hj, fun w => w.2 hb nm⟩⟩) _ M ⟨rfl, rfl, fun y a b => by omega⟩
  exact ⟨r, ls, w1, w2⟩
theorem qR_agreesF {M : zM} {k1 k2 n tk : Nat} {c D : tC} {l : List Nat} (hk1 : ztb k1) (hk2 : ztb k2) (h1 : kT M k1 n c) (h2 : kT M k2 n D) (hf1 : tF n c) (hf2 : tF n D) (h8 : n ≤ 8) (hl : PP n l) (hM : IMx M l) (ht : TK tk l) (hz : 2 ≤ l.length) : ∃ b : Bool, zf_Renamings_agrees [.ref 26, .ref k1, .ref k2, .int (nI (l.length - 1)), .int (nI tk)] M = some (some (zb b), M) ∧ (b = true → ∀ x y, 1 ≤ x → x < l.length → 1 ≤ y → y < l.length → ft c D l x y) ∧ (b = false → ∃ x y, 1 ≤ x ∧ x < l.length ∧ 1 ≤ y ∧ y < l.length ∧ ¬ ft c D l x y) := by
  have hl1 := hl.1
  obtain ⟨r, ls, M', w1, rfl, w2⟩ := zwh_inv (c := zc_Renamings_agrees_1) (s := zs_Renamings_agrees_1) (fun j ls M' => M' = M ∧ ls = [some (Value.ref (26)), some (Value.ref (k1)), some (Value.ref (k2)), some (Value.int (nI (l.length - 1))), some (Value.int (nI tk)), some (Value.int (nI j)), none, none, none, none] ∧ ∀ x y, 1 ≤ x → x < j → 1 ≤ y → y < l.length → ft c D l x y) (Q := fun r ls M' => M' = M ∧ ((r = none ∧ ls = [some (Value.ref (26)), some (Value.ref (k1)), some (Value.ref (k2)), some (Value.int (nI (l.length - 1))), some (Value.int (nI tk)), some (Value.int (nI l.length)), none, none, none, none] ∧ ∀ x y, 1 ≤ x → x < l.length → 1 ≤ y → y < l.length → ft c D l x y) ∨ (r = some (some (nI 0)) ∧ ∃ x y, 1 ≤ x ∧ x < l.length ∧ 1 ≤ y ∧ y < l.length ∧ ¬ ft c D l x y))) (n := l.length) (fun ls M' q => by
      obtain ⟨rfl, rfl, q⟩ := q
      have g : ¬ l.length ≤ l.length - 1 := by omega
      exact ⟨by simp (disch := omega) [zc_Renamings_agrees_1, zmeth, xm_en, zret, zretz, zretv, zseq, zst, zinc, zkl, zskip, zk, zi, za, zbin, zdiv, zrem, zgi, zgr, zld, zldr, zlen, zn, zc, zcall, zcallv, zrcv, zdo, zdov, zpf, zpfc, zas, zasc, zmin, zmax, zcmp, zcz, zand_e, zor_e, zite_e, zbite_e, zif_e, znot_e, z_add, z_sub, z_mul, z_and, z_or, z_xor, z_shl, z_shr, zcpy, -List.getElem?_cons_succ, zg_0, zg_1, zg_2, zg_3, zg_4, zg_5, zg_6, zg_7, zg_8, zg_9, zc_lt, zc_le, zc_gt, zc_ge, zc_eq, zc_ne, zc_lt0, zc_ge0, zc_gt0, zc_eq0, zc_ne0, zb_ne, zb_eq, zb_01, z_00, z_01, z_11, zb_f, zb_T, zb_F, zbm1, zbm2, zbm5, zbm6, zbm3, zbm4, nI_clamp, zmod_n, pk_div, nI_ne0, pk_mul, nI_add, nI_1, g], rfl, Or.inl ⟨rfl, rfl, q⟩⟩) (l.length - 1) 1 (by omega) (fun j ls M' hj1 hj q => by
      obtain ⟨rfl, rfl, q⟩ := q
      have hj2 : j ≤ l.length - 1 := by omega
      refine ⟨by simp (disch := omega) [zc_Renamings_agrees_1, zmeth, xm_en, zret, zretz, zretv, zseq, zst, zinc, zkl, zskip, zk, zi, za, zbin, zdiv, zrem, zgi, zgr, zld, zldr, zlen, zn, zc, zcall, zcallv, zrcv, zdo, zdov, zpf, zpfc, zas, zasc, zmin, zmax, zcmp, zcz, zand_e, zor_e, zite_e, zbite_e, zif_e, znot_e, z_add, z_sub, z_mul, z_and, z_or, z_xor, z_shl, z_shr, zcpy, -List.getElem?_cons_succ, zg_0, zg_1, zg_2, zg_3, zg_4, zg_5, zg_6, zg_7, zg_8, zg_9, zc_lt, zc_le, zc_gt, zc_ge, zc_eq, zc_ne, zc_lt0, zc_ge0, zc_gt0, zc_eq0, zc_ne0, zb_ne, zb_eq, zb_01, z_00, z_01, z_11, zb_f, zb_T, zb_F, zbm1, zbm2, zbm5, zbm6, zbm3, zbm4, nI_clamp, zmod_n, pk_div, nI_ne0, pk_mul, nI_add, nI_1, hj2], ?_⟩
      obtain ⟨r, ls, e1, ⟨rfl, rfl, e2⟩ | ⟨rfl, y, y1, y2, y3⟩⟩ := qR_ag2F hk1 hk2 h1 h2 hf1 hf2 h8 hl hM ht hj1 hj
      · refine ⟨none, _, M', by simp (disch := omega) [zs_Renamings_agrees_1, zmeth, xm_en, zret, zretz, zretv, zseq, zst, zinc, zkl, zskip, zk, zi, za, zbin, zdiv, zrem, zgi, zgr, zld, zldr, zlen, zn, zc, zcall, zcallv, zrcv, zdo, zdov, zpf, zpfc, zas, zasc, zmin, zmax, zcmp, zcz, zand_e, zor_e, zite_e, zbite_e, zif_e, znot_e, z_add, z_sub, z_mul, z_and, z_or, z_xor, z_shl, z_shr, zcpy, -List.getElem?_cons_succ, zg_0, zg_1, zg_2, zg_3, zg_4, zg_5, zg_6, zg_7, zg_8, zg_9, zc_lt, zc_le, zc_gt, zc_ge, zc_eq, zc_ne, zc_lt0, zc_ge0, zc_gt0, zc_eq0, zc_ne0, zb_ne, zb_eq, zb_01, z_00, z_01, z_11, zb_f, zb_T, zb_F, zbm1, zbm2, zbm5, zbm6, zbm3, zbm4, nI_clamp, zmod_n, pk_div, nI_ne0, pk_mul, nI_add, nI_1, e1], rfl, rfl, fun x y a b d e => ?_⟩
        by_cases z : x = j
        · rw [z]
          exact e2 y d e
        · exact q x y a (by omega) d e
      · exact ⟨some (some (nI 0)), _, M', by simp (disch := omega) [zs_Renamings_agrees_1, zmeth, xm_en, zret, zretz, zretv, zseq, zst, zinc, zkl, zskip, zk, zi, za, zbin, zdiv, zrem, zgi, zgr, zld, zldr, zlen, zn, zc, zcall, zcallv, zrcv, zdo, zdov, zpf, zpfc, zas, zasc, zmin, zmax, zcmp, zcz, zand_e, zor_e, zite_e, zbite_e, zif_e, znot_e, z_add, z_sub, z_mul, z_and, z_or, z_xor, z_shl, z_shr, zcpy, -List.getElem?_cons_succ, zg_0, zg_1, zg_2, zg_3, zg_4, zg_5, zg_6, zg_7, zg_8, zg_9, zc_lt, zc_le, zc_gt, zc_ge, zc_eq, zc_ne, zc_lt0, zc_ge0, zc_gt0, zc_eq0, zc_ne0, zb_ne, zb_eq, zb_01, z_00, z_01, z_11, zb_f, zb_T, zb_F, zbm1, zbm2, zbm5, zbm6, zbm3, zbm4, nI_clamp, zmod_n, pk_div, nI_ne0, pk_mul, nI_add, nI_1, e1]; rfl, rfl, Or.inr ⟨rfl, j, y, hj1, hj, y1, y2, y3⟩⟩) _ M ⟨rfl, rfl, fun x y a b => by omega⟩
  rcases w2 with ⟨rfl, rfl, w2⟩ | ⟨rfl, w2⟩
  · exact ⟨true, by simp (disch := omega) [zf_Renamings_agrees, zmeth, xm_en, zret, zretz, zretv, zseq, zst, zinc, zkl, zskip, zk, zi, za, zbin, zdiv, zrem, zgi, zgr, zld, zldr, zlen, zn, zc, zcall, zcallv, zrcv, zdo, zdov, zpf, zpfc, zas, zasc, zmin, zmax, zcmp, zcz, zand_e, zor_e, zite_e, zbite_e, zif_e, znot_e, z_add, z_sub, z_mul, z_and, z_or, z_xor, z_shl, z_shr, zcpy, -List.getElem?_cons_succ, zg_0, zg_1, zg_2, zg_3, zg_4, zg_5, zg_6, zg_7, zg_8, zg_9, w1, zb_01]; rfl, fun _ => w2, fun h => by cases h⟩
  · exact ⟨false, by simp (disch := omega) [zf_Renamings_agrees, zmeth, xm_en, zret, zretz, zretv, zseq, zst, zinc, zkl, zskip, zk, zi, za, zbin, zdiv, zrem, zgi, zgr, zld, zldr, zlen, zn, zc, zcall, zcallv, zrcv, zdo, zdov, zpf, zpfc, zas, zasc, zmin, zmax, zcmp, zcz, zand_e, zor_e, zite_e, zbite_e, zif_e, znot_e, z_add, z_sub, z_mul, z_and, z_or, z_xor, z_shl, z_shr, zcpy, -List.getElem?_cons_succ, zg_0, zg_1, zg_2, zg_3, zg_4, zg_5, zg_6, zg_7, zg_8, zg_9, w1]; rfl, fun h => by (cases h), fun _ => w2⟩
/-- l takes products to products -/
def HM (n : Nat) (c D : tC) (l : List Nat) : Prop := ∀ x y, x < n → y < n → gd l (c x y) = D (gd l x) (gd l y)
theorem ft_no {n x y : Nat} {c D : tC} {l l' : List Nat} (hf : tF n c) (hl : PP n l) (h' : PL n l') (he : ex l l') (hm : HM n c D l') (hx : x < l.length) (hy : y < l.length) : ft c D l x y := by
  have hl1 := hl.1
  obtain ⟨m, rfl⟩ := he
  have e := hm x y (by omega) (by omega)
  rw [gd_app hx, gd_app hy] at e
  refine ⟨fun q => ?_, fun q z => ?_⟩
  · rw [gd_app q] at e
    exact e
  · obtain ⟨p1, p2⟩ := px_mem z
    have e3 : gd (l ++ m) (c x y) = gd (l ++ m) (px l (D (gd l x) (gd l y))) := by rw [e, gd_app p1, p2]
    have f := hf x y (by omega) (by omega)
    have a := h'.pg f
    have b := h'.pg (i := px l (D (gd l x) (gd l y))) (by omega)
    rw [e3, b] at a
    omega
theorem HM_of {n : Nat} {c D : tC} {l : List Nat} (hc : ∀ a, a < n → c 0 a = a ∧ c a 0 = a) (hD : ∀ a, a < n → D 0 a = a ∧ D a 0 = a) (hf : tF n c) (hl : PL n l) (h : ∀ x y, 1 ≤ x → x < l.length → 1 ≤ y → y < l.length → ft c D l x y) : HM n c D l := by
  intro x y hx hy
  have h0 := hl.2.2.2
  by_cases x0 : x = 0
  · subst x0
    rw [(hc y hy).1, h0, (hD _ (hl.gl hy)).1]
  · by_cases y0 : y = 0
    · subst y0
      rw [(hc x hx).2, h0, (hD _ (hl.gl hx)).2]
    · have e := hl.1
      exact (h x y (by omega) (by omega) (by omega) (by omega)).1 (by rw [e]; exact hf x y hx hy)
/-- the frame of a search -/
def MF (M0 M : zM) (l : List Nat) : Prop := IMx M l ∧ ∀ q j, q ≠ 29 → M q j = M0 q j
theorem qR_matchF {M0 : zM} {k1 k2 n : Nat} {c D : tC} (hk1 : ztb k1) (hk2 : ztb k2) (h1 : kT M0 k1 n c) (h2 : kT M0 k2 n D) (h8 : n ≤ 8) (hc : ∀ a, a < n → c 0 a = a ∧ c a 0 = a) (hD : ∀ a, a < n → D 0 a = a ∧ D a 0 = a) (hf1 : tF n c) (hf2 : tF n D) : ∀ (d f : Nat) (l : List Nat) (tk : Nat) (M : zM), d < f → l.length + d = n → PP n l → TK tk l → MF M0 M l → (l.length = n → HM n c D l) → ∃ (b : Bool) (M' : zM), zf_Renamings_match f [.ref 26, .ref k1, .ref k2, .int (nI l.length), .int (nI tk)] M = some (some (zb b), M') ∧ MF M0 M' l ∧ (b = true ↔ ∃ l', PL n l' ∧ ex l l' ∧ HM n c D l') := by
  have z1 : k1 ≠ 29 ∧ k1 + 1 ≠ 29 := by unfold ztb at hk1; omega
  have z2 : k2 ≠ 29 ∧ k2 + 1 ≠ 29 := by unfold ztb at hk2; omega
  have r1 : ∀ {l : List Nat} {M : zM}, MF M0 M l → kT M k1 n c := fun g => h1.same (fun j => g.2 _ _ z1.1) (fun j => g.2 _ _ z1.2)
  have r2 : ∀ {l : List Nat} {M : zM}, MF M0 M l → kT M k2 n D := fun g => h2.same (fun j => g.2 _ _ z2.1) (fun j => g.2 _ _ z2.2)
  intro d
  induction d with
  | zero =>
    intro f l tk M hd e hl ht h hm
    obtain ⟨f, rfl⟩ : ∃ g, f = g + 1 := ⟨f - 1, by omega⟩
    have e : l.length = n := by omega
    have k := (r1 h).1
    refine ⟨true, M, ?_, h, fun _ => ⟨l, hl.full e, ⟨[], (List.append_nil l).symm⟩, hm e⟩, fun _ => rfl⟩
    rw [match_S, e]
    simp (disch := omega) [zmeth, xm_en, zret, zretz, zretv, zseq, zst, zinc, zkl, zskip, zk, zi, za, zbin, zdiv, zrem, zgi, zgr, zld, zldr, zlen, zn, zc, zcall, zcallv, zrcv, zdo, zdov, zpf, zpfc, zas, zasc, zmin, zmax, zcmp, zcz, zand_e, zor_e, zite_e, zbite_e, zif_e, znot_e, z_add, z_sub, z_mul, z_and, z_or, z_xor, z_shl, z_shr, zcpy, -List.getElem?_cons_succ, zg_0, zg_1, zg_2, zg_3, zg_4, zg_5, zg_6, zg_7, zg_8, zg_9, zc_lt, zc_le, zc_gt, zc_ge, zc_eq, zc_ne, zc_lt0, zc_ge0, zc_gt0, zc_eq0, zc_ne0, zb_ne, zb_eq, zb_01, z_00, z_01, z_11, zb_f, zb_T, zb_F, zbm1, zbm2, zbm5, zbm6, zbm3, zbm4, nI_clamp, zmod_n, pk_div, nI_ne0, pk_mul, nI_add, nI_1, ztb_tag hk1, k]
  | succ d ih =>
    intro f l tk M hd e hl ht h hm
    obtain ⟨f, rfl⟩ : ∃ g, f = g + 1 := ⟨f - 1, by omega⟩
    have hl1 := hl.1
    have hn : ¬ n ≤ l.length := by omega
    have n8 : ¬ 8 ≤ l.length := by omega
    have nx : nI l.length + nI 1 = nI (l.length + 1) := nI_1 _
    have t31 : tk < 2 ^ 31 := by have := ht.1; omega
    obtain ⟨r, ls, M', w1, w2, w3⟩ := zwh_inv (c := zc_Renamings_match_1 (zf_Renamings_match f)) (s := zs_Renamings_match_1 (zf_Renamings_match f)) (fun j ls M' => MF M0 M' l ∧ ls = [some (Value.ref (26)), some (Value.ref (k1)), some (Value.ref (k2)), some (Value.int (nI l.length)), some (Value.int (nI tk)), some (Value.int (nI j)), none] ∧ ∀ v, 1 ≤ v → v < j → v ∉ l → ¬ ∃ l', PL n l' ∧ ex (l ++ [v]) l' ∧ HM n c D l') (Q := fun r ls M' => MF M0 M' l ∧ ((r = none ∧ ls = [some (Value.ref (26)), some (Value.ref (k1)), some (Value.ref (k2)), some (Value.int (nI l.length)), some (Value.int (nI tk)), some (Value.int (nI n)), none] ∧ ∀ v, 1 ≤ v → v < n → v ∉ l → ¬ ∃ l', PL n l' ∧ ex (l ++ [v]) l' ∧ HM n c D l') ∨ (r = some (some (nI 1)) ∧ ∃ l', PL n l' ∧ ex l l' ∧ HM n c D l'))) (n := n) (fun ls M' q => by
        obtain ⟨q, rfl, q2⟩ := q
        have k := (r2 q).1
        exact ⟨by simp (disch := omega) [zc_Renamings_match_1, zmeth, xm_en, zret, zretz, zretv, zseq, zst, zinc, zkl, zskip, zk, zi, za, zbin, zdiv, zrem, zgi, zgr, zld, zldr, zlen, zn, zc, zcall, zcallv, zrcv, zdo, zdov, zpf, zpfc, zas, zasc, zmin, zmax, zcmp, zcz, zand_e, zor_e, zite_e, zbite_e, zif_e, znot_e, z_add, z_sub, z_mul, z_and, z_or, z_xor, z_shl, z_shr, zcpy, -List.getElem?_cons_succ, zg_0, zg_1, zg_2, zg_3, zg_4, zg_5, zg_6, zg_7, zg_8, zg_9, zc_lt, zc_le, zc_gt, zc_ge, zc_eq, zc_ne, zc_lt0, zc_ge0, zc_gt0, zc_eq0, zc_ne0, zb_ne, zb_eq, zb_01, z_00, z_01, z_11, zb_f, zb_T, zb_F, zbm1, zbm2, zbm5, zbm6, zbm3, zbm4, nI_clamp, zmod_n, pk_div, nI_ne0, pk_mul, nI_add, nI_1, ztb_tag hk2, k], q, Or.inl ⟨rfl, rfl, q2⟩⟩) (n - 1) 1 (by omega) (fun j ls M1 hj1 hj q => by
        obtain ⟨q, rfl, q2⟩ := q
        have k := (r2 q).1
        refine ⟨by simp (disch := omega) [zc_Renamings_match_1, zmeth, xm_en, zret, zretz, zretv, zseq, zst, zinc, zkl, zskip, zk, zi, za, zbin, zdiv, zrem, zgi, zgr, zld, zldr, zlen, zn, zc, zcall, zcallv, zrcv, zdo, zdov, zpf, zpfc, zas, zasc, zmin, zmax, zcmp, zcz, zand_e, zor_e, zite_e, zbite_e, zif_e, znot_e, z_add, z_sub, z_mul, z_and, z_or, z_xor, z_shl, z_shr, zcpy, -List.getElem?_cons_succ, zg_0, zg_1, zg_2, zg_3, zg_4, zg_5, zg_6, zg_7, zg_8, zg_9, zc_lt, zc_le, zc_gt, zc_ge, zc_eq, zc_ne, zc_lt0, zc_ge0, zc_gt0, zc_eq0, zc_ne0, zb_ne, zb_eq, zb_01, z_00, z_01, z_11, zb_f, zb_T, zb_F, zbm1, zbm2, zbm5, zbm6, zbm3, zbm4, nI_clamp, zmod_n, pk_div, nI_ne0, pk_mul, nI_add, nI_1, ztb_tag hk2, k, hj], ?_⟩
        have bt := nI_bit (n := tk) (v := j) t31 (by omega)
        by_cases hin : j ∈ l
        · rw [(ht.2 j).mpr hin] at bt
          exact ⟨none, _, M1, by simp (disch := omega) [zs_Renamings_match_1, zmeth, xm_en, zret, zretz, zretv, zseq, zst, zinc, zkl, zskip, zk, zi, za, zbin, zdiv, zrem, zgi, zgr, zld, zldr, zlen, zn, zc, zcall, zcallv, zrcv, zdo, zdov, zpf, zpfc, zas, zasc, zmin, zmax, zcmp, zcz, zand_e, zor_e, zite_e, zbite_e, zif_e, znot_e, z_add, z_sub, z_mul, z_and, z_or, z_xor, z_shl, z_shr, zcpy, -List.getElem?_cons_succ, zg_0, zg_1, zg_2, zg_3, zg_4, zg_5, zg_6, zg_7, zg_8, zg_9, zc_lt, zc_le, zc_gt, zc_ge, zc_eq, zc_ne, zc_lt0, zc_ge0, zc_gt0, zc_eq0, zc_ne0, zb_ne, zb_eq, zb_01, z_00, z_01, z_11, zb_f, zb_T, zb_F, zbm1, zbm2, zbm5, zbm6, zbm3, zbm4, nI_clamp, zmod_n, pk_div, nI_ne0, pk_mul, nI_add, nI_1, bt], q, rfl, fun v a b hv => by
            by_cases z : v = j
            · exact absurd (z ▸ hin) hv
            · exact q2 v a (by omega) hv⟩
        · have bf : tk.testBit j = false := by
            cases hb : tk.testBit j with
            | false => rfl
            | true => exact absurd ((ht.2 j).mp hb) hin
          rw [bf] at bt
          have hl2 : PP n (l ++ [j]) := hl.up (by omega) hj hin
          have len : (l ++ [j]).length = l.length + 1 := by rw [List.length_append, List.length_singleton]
          have lm : (l ++ [j]).length - 1 = l.length := by rw [len]; rfl
          have t2 : TK (tk ||| 2 ^ j) (l ++ [j]) := ⟨Nat.or_lt_two_pow (n := 8) ht.1 (Nat.pow_lt_pow_right (by decide) (by omega)), fun v => by
            rw [Nat.testBit_or, Nat.testBit_two_pow, Bool.or_eq_true, ht.2 v, decide_eq_true_eq, List.mem_append, List.mem_singleton]
            exact ⟨fun z => z.elim Or.inl (fun z => Or.inr z.symm), fun z => z.elim Or.inl (fun z => Or.inr z.symm)⟩⟩
          have q1 : MF M0 (zup M1 29 l.length (nI j)) (l ++ [j]) := ⟨fun i hi => by
            rw [len] at hi
            rw [zup_e]
            by_cases z : i = l.length
            · rw [if_pos ⟨rfl, z⟩, z, gd_new]
            · rw [if_neg (fun w => z w.2), gd_app (by omega)]
              exact q.1 i (by omega), fun q' j' hq => by
            rw [zup_e, if_neg (fun w => hq w.1)]
            exact q.2 q' j' hq⟩
          obtain ⟨b1, e1, bT, bF⟩ := qR_agreesF hk1 hk2 (r1 q1) (r2 q1) hf1 hf2 h8 hl2 q1.1 t2 (by omega)
          rw [lm] at e1
          have back : ∀ {M2 : zM}, MF M0 M2 (l ++ [j]) → MF M0 M2 l := fun g => ⟨fun i hi => by
            rw [g.1 i (by omega), gd_app hi], g.2⟩
          have more : (¬ ∃ l', PL n l' ∧ ex (l ++ [j]) l' ∧ HM n c D l') → ∀ v, 1 ≤ v → v < j + 1 → v ∉ l → ¬ ∃ l', PL n l' ∧ ex (l ++ [v]) l' ∧ HM n c D l' := fun no v a b hv => by
            by_cases z : v = j
            · rw [z]
              exact no
            · exact q2 v a (by omega) hv
          have up : (∃ l', PL n l' ∧ ex (l ++ [j]) l' ∧ HM n c D l') → ∃ l', PL n l' ∧ ex l l' ∧ HM n c D l' := fun ⟨l', a, ⟨m, b⟩, g⟩ => ⟨l', a, ⟨j :: m, by rw [b, List.append_assoc]; rfl⟩, g⟩
          cases b1 with
          | false =>
            have no : ¬ ∃ l', PL n l' ∧ ex (l ++ [j]) l' ∧ HM n c D l' := fun ⟨l', a, b, g⟩ => by
              obtain ⟨x, y, x1, x2, y1, y2, z⟩ := bF rfl
              exact z (ft_no hf1 hl2 a b g x2 y2)
            exact ⟨none, _, _, by simp (disch := omega) [zs_Renamings_match_1, zmeth, xm_en, zret, zretz, zretv, zseq, zst, zinc, zkl, zskip, zk, zi, za, zbin, zdiv, zrem, zgi, zgr, zld, zldr, zlen, zn, zc, zcall, zcallv, zrcv, zdo, zdov, zpf, zpfc, zas, zasc, zmin, zmax, zcmp, zcz, zand_e, zor_e, zite_e, zbite_e, zif_e, znot_e, z_add, z_sub, z_mul, z_and, z_or, z_xor, z_shl, z_shr, zcpy, -List.getElem?_cons_succ, zg_0, zg_1, zg_2, zg_3, zg_4, zg_5, zg_6, zg_7, zg_8, zg_9, zt_0, zt_12, zt_20, zt_26, zt_32, zf_0_0, zf_0_1, zf_0_2, zf_0_3, zf_0_4, zf_12_0, zf_12_1, zf_12_2, zf_12_4, zf_12_5, zf_20_1, zf_20_2, zf_20_3, zf_20_4, zf_20_6, zf_26_0, zf_26_1, zf_26_2, zf_26_3, zf_32_0, zf_32_1, zf_32_3, zf_32_4, zf_32_5, zf_32_6, zc_lt, zc_le, zc_gt, zc_ge, zc_eq, zc_ne, zc_lt0, zc_ge0, zc_gt0, zc_eq0, zc_ne0, zb_ne, zb_eq, zb_01, z_00, z_01, z_11, zb_f, zb_T, zb_F, zbm1, zbm2, zbm5, zbm6, zbm3, zbm4, nI_clamp, zmod_n, pk_div, nI_ne0, pk_mul, nI_add, nI_1, nI_or, nI_shl1, nI_bit, zb_eq1, zi_29, bt, e1], back q1, rfl, more no⟩
          | true =>
            obtain ⟨b2, M2, e2, q3, iff⟩ := ih f (l ++ [j]) (tk ||| 2 ^ j) _ (by omega) (by omega) hl2 t2 q1 (fun z => HM_of hc hD hf1 (hl2.full z) (bT rfl))
            rw [len] at e2
            cases b2 with
            | false => exact ⟨none, _, M2, by simp (disch := omega) [zs_Renamings_match_1, zmeth, xm_en, zret, zretz, zretv, zseq, zst, zinc, zkl, zskip, zk, zi, za, zbin, zdiv, zrem, zgi, zgr, zld, zldr, zlen, zn, zc, zcall, zcallv, zrcv, zdo, zdov, zpf, zpfc, zas, zasc, zmin, zmax, zcmp, zcz, zand_e, zor_e, zite_e, zbite_e, zif_e, znot_e, z_add, z_sub, z_mul, z_and, z_or, z_xor, z_shl, z_shr, zcpy, -List.getElem?_cons_succ, zg_0, zg_1, zg_2, zg_3, zg_4, zg_5, zg_6, zg_7, zg_8, zg_9, zt_0, zt_12, zt_20, zt_26, zt_32, zf_0_0, zf_0_1, zf_0_2, zf_0_3, zf_0_4, zf_12_0, zf_12_1, zf_12_2, zf_12_4, zf_12_5, zf_20_1, zf_20_2, zf_20_3, zf_20_4, zf_20_6, zf_26_0, zf_26_1, zf_26_2, zf_26_3, zf_32_0, zf_32_1, zf_32_3, zf_32_4, zf_32_5, zf_32_6, zc_lt, zc_le, zc_gt, zc_ge, zc_eq, zc_ne, zc_lt0, zc_ge0, zc_gt0, zc_eq0, zc_ne0, zb_ne, zb_eq, zb_01, z_00, z_01, z_11, zb_f, zb_T, zb_F, zbm1, zbm2, zbm5, zbm6, zbm3, zbm4, nI_clamp, zmod_n, pk_div, nI_ne0, pk_mul, nI_add, nI_1, nI_or, nI_shl1, nI_bit, zb_eq1, zi_29, bt, nx, e1, e2], back q3, rfl, more (fun z => by have := iff.mpr z; cases this)⟩
            | true => exact ⟨some (some (nI 1)), _, M2, by simp (disch := omega) [zs_Renamings_match_1, zmeth, xm_en, zret, zretz, zretv, zseq, zst, zinc, zkl, zskip, zk, zi, za, zbin, zdiv, zrem, zgi, zgr, zld, zldr, zlen, zn, zc, zcall, zcallv, zrcv, zdo, zdov, zpf, zpfc, zas, zasc, zmin, zmax, zcmp, zcz, zand_e, zor_e, zite_e, zbite_e, zif_e, znot_e, z_add, z_sub, z_mul, z_and, z_or, z_xor, z_shl, z_shr, zcpy, -List.getElem?_cons_succ, zg_0, zg_1, zg_2, zg_3, zg_4, zg_5, zg_6, zg_7, zg_8, zg_9, zt_0, zt_12, zt_20, zt_26, zt_32, zf_0_0, zf_0_1, zf_0_2, zf_0_3, zf_0_4, zf_12_0, zf_12_1, zf_12_2, zf_12_4, zf_12_5, zf_20_1, zf_20_2, zf_20_3, zf_20_4, zf_20_6, zf_26_0, zf_26_1, zf_26_2, zf_26_3, zf_32_0, zf_32_1, zf_32_3, zf_32_4, zf_32_5, zf_32_6, zc_lt, zc_le, zc_gt, zc_ge, zc_eq, zc_ne, zc_lt0, zc_ge0, zc_gt0, zc_eq0, zc_ne0, zb_ne, zb_eq, zb_01, z_00, z_01, z_11, zb_f, zb_T, zb_F, zbm1, zbm2, zbm5, zbm6, zbm3, zbm4, nI_clamp, zmod_n, pk_div, nI_ne0, pk_mul, nI_add, nI_1, nI_or, nI_shl1, nI_bit, zb_eq1, zi_29, bt, nx, e1, e2]; rfl, back q3, Or.inr ⟨rfl, up (iff.mp rfl)⟩⟩) _ M ⟨h, rfl, fun v a b => by omega⟩
    have k := (r1 h).1
    rcases w3 with ⟨rfl, rfl, w3⟩ | ⟨rfl, w3⟩
    · refine ⟨false, M', by rw [match_S]; simp (disch := omega) [zmeth, xm_en, zret, zretz, zretv, zseq, zst, zinc, zkl, zskip, zk, zi, za, zbin, zdiv, zrem, zgi, zgr, zld, zldr, zlen, zn, zc, zcall, zcallv, zrcv, zdo, zdov, zpf, zpfc, zas, zasc, zmin, zmax, zcmp, zcz, zand_e, zor_e, zite_e, zbite_e, zif_e, znot_e, z_add, z_sub, z_mul, z_and, z_or, z_xor, z_shl, z_shr, zcpy, -List.getElem?_cons_succ, zg_0, zg_1, zg_2, zg_3, zg_4, zg_5, zg_6, zg_7, zg_8, zg_9, zc_lt, zc_le, zc_gt, zc_ge, zc_eq, zc_ne, zc_lt0, zc_ge0, zc_gt0, zc_eq0, zc_ne0, zb_ne, zb_eq, zb_01, z_00, z_01, z_11, zb_f, zb_T, zb_F, zbm1, zbm2, zbm5, zbm6, zbm3, zbm4, nI_clamp, zmod_n, pk_div, nI_ne0, pk_mul, nI_add, nI_1, ztb_tag hk1, k, hn, n8, w1], w2, fun z => by (cases z), fun ⟨l', a, ⟨m, b⟩, g⟩ => ?_⟩
      match m, b with
      | [], b =>
        have := a.1
        rw [b, List.append_nil] at this
        omega
      | v :: m, b =>
        have vm : v ∈ l' := by rw [b]; exact List.mem_append.mpr (Or.inr (List.mem_cons_self ..))
        have nd := a.2.1
        rw [b] at nd
        have vl : v ∉ l := fun z => (List.nodup_append.mp nd).2.2 v z v (List.mem_cons_self ..) rfl
        have v0 : v ≠ 0 := fun z => vl (z ▸ hl.mem0)
        exact absurd ⟨l', a, ⟨m, by rw [b, List.append_assoc]; rfl⟩, g⟩ (w3 v (by omega) (a.2.2.1 v vm) vl)
    · exact ⟨true, M', by rw [match_S]; simp (disch := omega) [zmeth, xm_en, zret, zretz, zretv, zseq, zst, zinc, zkl, zskip, zk, zi, za, zbin, zdiv, zrem, zgi, zgr, zld, zldr, zlen, zn, zc, zcall, zcallv, zrcv, zdo, zdov, zpf, zpfc, zas, zasc, zmin, zmax, zcmp, zcz, zand_e, zor_e, zite_e, zbite_e, zif_e, znot_e, z_add, z_sub, z_mul, z_and, z_or, z_xor, z_shl, z_shr, zcpy, -List.getElem?_cons_succ, zg_0, zg_1, zg_2, zg_3, zg_4, zg_5, zg_6, zg_7, zg_8, zg_9, zc_lt, zc_le, zc_gt, zc_ge, zc_eq, zc_ne, zc_lt0, zc_ge0, zc_gt0, zc_eq0, zc_ne0, zb_ne, zb_eq, zb_01, z_00, z_01, z_11, zb_f, zb_T, zb_F, zbm1, zbm2, zbm5, zbm6, zbm3, zbm4, nI_clamp, zmod_n, pk_div, nI_ne0, pk_mul, nI_add, nI_1, ztb_tag hk1, k, hn, n8, w1], w2, fun _ => w3, fun _ => rfl⟩
/-! alike: the class with its answer -/
/-- D is c under another naming that takes u to 0 -/
def AL (n u : Nat) (c D : tC) : Prop := ∃ g : Nat → Nat, (∀ k, k < n → g k < n) ∧ (∀ k k', k < n → k' < n → g k = g k' → k = k') ∧ g u = 0 ∧ ∀ x y, x < n → y < n → g (c x y) = D (g x) (g y)
theorem PL_mp {n : Nat} {g : Nat → Nat} (h1 : 1 ≤ n) (hl : ∀ k, k < n → g k < n) (hi : ∀ k k', k < n → k' < n → g k = g k' → k = k') (h0 : g 0 = 0) : PL n ((List.range n).map g) ∧ ∀ k, k < n → gd ((List.range n).map g) k = g k := by
  have gA : ∀ k, k < n → gd ((List.range n).map g) k = g k := fun k hk => by
    rw [gd_map g (by rw [List.length_range]; exact hk), gd_rg hk]
  have lA : ((List.range n).map g).length = n := by rw [List.length_map, List.length_range]
  exact ⟨⟨lA, nd_gd (fun i j a b e => by
    rw [lA] at a b
    rw [gA i a, gA j b] at e
    exact hi i j a b e), fun x hx => by
    obtain ⟨k, k1, k2⟩ := List.mem_map.mp hx
    rw [← k2]
    exact hl k (List.mem_range.mp k1), (gA 0 (by omega)).trans h0⟩, gA⟩
theorem AL_iff {n : Nat} {c D : tC} (h1 : 1 ≤ n) (hf : tF n c) : (∃ l, PL n l ∧ ex [0] l ∧ HM n c D l) ↔ AL n 0 c D := by
  constructor
  · intro ⟨l, a, _, b⟩
    exact ⟨gd l, fun k hk => a.gl hk, fun k k' x y e => by rw [← a.pg x, ← a.pg y, e], a.2.2.2, b⟩
  · intro ⟨g, a, b, d, e⟩
    obtain ⟨p, q⟩ := PL_mp h1 a b d
    refine ⟨_, p, PL_ex0 h1 p, fun x y hx hy => ?_⟩
    rw [q _ (hf x y hx hy), q x hx, q y hy]
    exact e x y hx hy
theorem qR_areAlikeF {M : zM} {k1 k2 n1 n2 : Nat} {c D : tC} (hk1 : ztb k1) (hk2 : ztb k2) (h1 : kT M k1 n1 c) (h2 : kT M k2 n2 D) (b1 : 1 ≤ n1) (a1 : n1 ≤ 8) (a2 : n2 ≤ 8) (hc : ∀ a, a < n1 → c 0 a = a ∧ c a 0 = a) (hD : ∀ a, a < n2 → D 0 a = a ∧ D a 0 = a) (hf1 : tF n1 c) (hf2 : tF n2 D) : ∃ (b : Bool) (M' : zM), zf_Renamings_areAlike [.ref 26, .ref k1, .ref k2] M = some (some (zb b), M') ∧ (∀ q j, q ≠ 29 → M' q j = M q j) ∧ (b = true ↔ n1 = n2 ∧ AL n1 0 c D) := by
  have f : ∀ k, ztb k → ∀ j, zup M 29 0 (nI 0) k j = M k j ∧ zup M 29 0 (nI 0) (k + 1) j = M (k + 1) j := fun k hk j => ⟨by rw [zup_e, if_neg (by unfold ztb at hk; omega)], by rw [zup_e, if_neg (by unfold ztb at hk; omega)]⟩
  have f1 : kT (zup M 29 0 (nI 0)) k1 n1 c := h1.same (fun j => (f k1 hk1 j).1) (fun j => (f k1 hk1 j).2)
  have f2 : kT (zup M 29 0 (nI 0)) k2 n2 D := h2.same (fun j => (f k2 hk2 j).1) (fun j => (f k2 hk2 j).2)
  have g1 := f1.1
  have g2 := f2.1
  by_cases hn : n1 = n2
  · subst hn
    have h0 : MF (zup M 29 0 (nI 0)) (zup M 29 0 (nI 0)) [0] := ⟨fun i hi => by
      have : i = 0 := by simp only [List.length_singleton] at hi; omega
      rw [this, zup_e, if_pos ⟨rfl, rfl⟩]
      rfl, fun _ _ _ => rfl⟩
    have t0 : TK 1 [0] := ⟨by decide, fun v => by
      rw [List.mem_singleton]
      cases v with
      | zero => exact ⟨fun _ => rfl, fun _ => by decide⟩
      | succ m =>
        rw [Nat.testBit_succ]
        have : Nat.testBit (1 / 2) m = false := Nat.zero_testBit m
        rw [this]
        exact ⟨fun z => by (cases z), fun z => by omega⟩⟩
    obtain ⟨b, M', e1, q1, i1⟩ := qR_matchF hk1 hk2 f1 f2 a1 hc hD hf1 hf2 (n1 - 1) 10 [0] 1 _ (by omega) (by rw [List.length_singleton]; omega) (PP_0 b1) t0 h0 (fun e => by
      have e1 : n1 = 1 := e.symm
      have hc0 := hc 0 (by omega)
      have hD0 := hD 0 (by omega)
      intro x y hx hy
      have x0 : x = 0 := by omega
      have y0 : y = 0 := by omega
      subst x0
      subst y0
      rw [hc0.1]
      show 0 = D 0 0
      rw [hD0.1])
    rw [List.length_singleton] at e1
    refine ⟨b, M', ?_, fun q j hq => by rw [q1.2 q j hq, zup_e, if_neg (by omega)], i1.trans ((AL_iff b1 hf1).trans ⟨fun z => ⟨rfl, z⟩, fun z => z.2⟩)⟩
    simp (disch := omega) [zf_Renamings_areAlike, zmeth, xm_en, zret, zretz, zretv, zseq, zst, zinc, zkl, zskip, zk, zi, za, zbin, zdiv, zrem, zgi, zgr, zld, zldr, zlen, zn, zc, zcall, zcallv, zrcv, zdo, zdov, zpf, zpfc, zas, zasc, zmin, zmax, zcmp, zcz, zand_e, zor_e, zite_e, zbite_e, zif_e, znot_e, z_add, z_sub, z_mul, z_and, z_or, z_xor, z_shl, z_shr, zcpy, -List.getElem?_cons_succ, zg_0, zg_1, zg_2, zg_3, zg_4, zg_5, zg_6, zg_7, zg_8, zg_9, zt_0, zt_12, zt_20, zt_26, zt_32, zf_0_0, zf_0_1, zf_0_2, zf_0_3, zf_0_4, zf_12_0, zf_12_1, zf_12_2, zf_12_4, zf_12_5, zf_20_1, zf_20_2, zf_20_3, zf_20_4, zf_20_6, zf_26_0, zf_26_1, zf_26_2, zf_26_3, zf_32_0, zf_32_1, zf_32_3, zf_32_4, zf_32_5, zf_32_6, zc_lt, zc_le, zc_gt, zc_ge, zc_eq, zc_ne, zc_lt0, zc_ge0, zc_gt0, zc_eq0, zc_ne0, zb_ne, zb_eq, zb_01, z_00, z_01, z_11, zb_f, zb_T, zb_F, zbm1, zbm2, zbm5, zbm6, zbm3, zbm4, nI_clamp, zmod_n, pk_div, nI_ne0, pk_mul, nI_add, nI_1, ztb_tag hk1, ztb_tag hk2, g1, g2, zi_29, e1]
  · refine ⟨false, zup M 29 0 (nI 0), ?_, fun q j hq => by rw [zup_e, if_neg (by omega)], fun z => by (cases z), fun z => absurd z.1 hn⟩
    · simp (disch := omega) [zf_Renamings_areAlike, zmeth, xm_en, zret, zretz, zretv, zseq, zst, zinc, zkl, zskip, zk, zi, za, zbin, zdiv, zrem, zgi, zgr, zld, zldr, zlen, zn, zc, zcall, zcallv, zrcv, zdo, zdov, zpf, zpfc, zas, zasc, zmin, zmax, zcmp, zcz, zand_e, zor_e, zite_e, zbite_e, zif_e, znot_e, z_add, z_sub, z_mul, z_and, z_or, z_xor, z_shl, z_shr, zcpy, -List.getElem?_cons_succ, zg_0, zg_1, zg_2, zg_3, zg_4, zg_5, zg_6, zg_7, zg_8, zg_9, zt_0, zt_12, zt_20, zt_26, zt_32, zf_0_0, zf_0_1, zf_0_2, zf_0_3, zf_0_4, zf_12_0, zf_12_1, zf_12_2, zf_12_4, zf_12_5, zf_20_1, zf_20_2, zf_20_3, zf_20_4, zf_20_6, zf_26_0, zf_26_1, zf_26_2, zf_26_3, zf_32_0, zf_32_1, zf_32_3, zf_32_4, zf_32_5, zf_32_6, zc_lt, zc_le, zc_gt, zc_ge, zc_eq, zc_ne, zc_lt0, zc_ge0, zc_gt0, zc_eq0, zc_ne0, zb_ne, zb_eq, zb_01, z_00, z_01, z_11, zb_f, zb_T, zb_F, zbm1, zbm2, zbm5, zbm6, zbm3, zbm4, nI_clamp, zmod_n, pk_div, nI_ne0, pk_mul, nI_add, nI_1, ztb_tag hk1, ztb_tag hk2, g1, g2, zi_29, hn]
theorem sw_sw {x u : Nat} : sw (sw x u) u = x := by
  unfold sw
  by_cases h : x = 0
  · subst h
    rw [if_pos rfl]
    by_cases h2 : u = 0
    · rw [if_pos h2, h2]
    · rw [if_neg h2, if_pos rfl]
  · rw [if_neg h]
    by_cases h2 : x = u
    · rw [if_pos h2, if_pos rfl, h2]
    · rw [if_neg h2, if_neg h, if_neg h2]
theorem sw_inj {x y u : Nat} (h : sw x u = sw y u) : x = y := by rw [← sw_sw (x := x) (u := u), ← sw_sw (x := y) (u := u), h]
theorem sw_u {u : Nat} : sw u u = 0 := by
  unfold sw
  by_cases h : u = 0
  · rw [if_pos h, h]
  · rw [if_neg h, if_pos rfl]
theorem sw_0 {u : Nat} : sw 0 u = u := if_pos rfl
/-- the other table, its unit named 0 -/
def ot (c : tC) (n a b : Nat) : tC := fun x y => sw (ri c n a b (sw x (c a b)) (sw y (c a b))) (c a b)
theorem ri_F {n a b : Nat} {c : tC} (ho : tO n c) (hf : tF n c) (ha : a < n) (hb : b < n) : tF n (ri c n a b) := fun x y hx hy => hf _ _ (tov_ok ho hf hb hx).1 (tun_ok ho hf ha hy).1
theorem ri_c {n a b u v : Nat} {c : tC} (ho : tO n c) (hf : tF n c) (ha : a < n) (hb : b < n) (hu : u < n) (hv : v < n) : ri c n a b (c u b) (c a v) = c u v := by
  have p := tov_ok ho hf hb (hf u b hu hb)
  have q := tun_ok ho hf ha (hf a v ha hv)
  have h8 := ho.1.2
  have e1 : tov n c (c u b) b = u := ho.2.2.2.2 _ _ _ p.1 hu hb p.2 (by rw [p.2]; exact Nat.lt_of_lt_of_le (hf u b hu hb) h8)
  have e2 : tun n c a (c a v) = v := ho.2.2.2.1 _ _ _ ha q.1 hv q.2 (by rw [q.2]; exact Nat.lt_of_lt_of_le (hf a v ha hv) h8)
  unfold ri
  rw [e1, e2]
theorem ot_F {n a b : Nat} {c : tC} (ho : tO n c) (hf : tF n c) (ha : a < n) (hb : b < n) : tF n (ot c n a b) := fun x y hx hy => sw_lt (ri_F ho hf ha hb _ _ (sw_lt hx (hf a b ha hb)) (sw_lt hy (hf a b ha hb))) (hf a b ha hb)
theorem ot_u {n a b : Nat} {c : tC} (ho : tO n c) (hf : tF n c) (ha : a < n) (hb : b < n) : ∀ x, x < n → ot c n a b 0 x = x ∧ ot c n a b x 0 = x := fun x hx => by
  have w := hf a b ha hb
  have sx := sw_lt hx w
  have q := tun_ok ho hf ha sx
  have p := tov_ok ho hf hb sx
  have e1 := ri_c ho hf ha hb ha q.1
  rw [q.2] at e1
  have e2 := ri_c ho hf ha hb p.1 hb
  rw [p.2] at e2
  constructor
  · show sw (ri c n a b (sw 0 (c a b)) (sw x (c a b))) (c a b) = x
    rw [sw_0, e1, sw_sw]
  · show sw (ri c n a b (sw x (c a b)) (sw 0 (c a b))) (c a b) = x
    rw [sw_0, e2, sw_sw]
theorem AL_ot {n a b : Nat} {c D : tC} (ho : tO n c) (hf : tF n c) (ha : a < n) (hb : b < n) : AL n 0 (ot c n a b) D ↔ AL n (c a b) (ri c n a b) D := by
  have w := hf a b ha hb
  constructor
  · intro ⟨g, g1, g2, g3, g4⟩
    refine ⟨fun x => g (sw x (c a b)), fun k hk => g1 _ (sw_lt hk w), fun k k' hk hk' e => sw_inj (g2 _ _ (sw_lt hk w) (sw_lt hk' w) e), ?_, fun x y hx hy => ?_⟩
    · show g (sw (c a b) (c a b)) = 0
      rw [sw_u]
      exact g3
    · have := g4 _ _ (sw_lt hx w) (sw_lt hy w)
      unfold ot at this
      rw [sw_sw, sw_sw] at this
      exact this
  · intro ⟨g, g1, g2, g3, g4⟩
    refine ⟨fun x => g (sw x (c a b)), fun k hk => g1 _ (sw_lt hk w), fun k k' hk hk' e => sw_inj (g2 _ _ (sw_lt hk w) (sw_lt hk' w) e), ?_, fun x y hx hy => ?_⟩
    · show g (sw 0 (c a b)) = 0
      rw [sw_0]
      exact g3
    · show g (sw (ot c n a b x y) (c a b)) = _
      unfold ot
      rw [sw_sw]
      exact g4 _ _ (sw_lt hx w) (sw_lt hy w)
/-- the other table while it is written -/
def OF (M0 : zM) (c : tC) (n a b x y : Nat) (M : zM) : Prop := OB M0 n M ∧ ∀ u v, u < n → v < n → (u < x ∨ u = x ∧ v < y) → M 11 (8 * sw (c u b) (c a b) + sw (c a v) (c a b)) = nI (sw (c u v) (c a b))
theorem qR_buildF {M : zM} {k n a b : Nat} {c : tC} (hk : ztb k) (hk2 : k < 10) (ht : kT M k n c) (ho : tO n c) (hf : tF n c) (ha : a < n) (hb : b < n) : ∃ M', zf_Renamings_buildOther [.ref k, .int (nI a), .int (nI b), .ref 10] M = some (none, M') ∧ kT M' 10 n (ot c n a b) ∧ ∀ q j, q ≠ 10 → q ≠ 11 → M' q j = M q j := by
  have h1 : 1 ≤ n := by omega
  have h8 := ho.1.2
  have kt : ∀ {M' : zM}, OB M n M' → kT M' k n c := fun g => ht.same (fun j => g.2 _ _ (by omega) (by omega)) (fun j => g.2 _ _ (by unfold ztb at hk; omega) (by unfold ztb at hk; omega))
  have t0 := qT_mul hk ht h8 hf ha hb
  have rs := qT_restart (M := M) (m := n) tb10 h1 h8
  have o1 : OB M n (zrs M 10 n n) := by
    refine ⟨?_, fun q j q1 q2 => ?_⟩
    · unfold zrs
      rw [if_pos ⟨rfl, rfl⟩]
    · unfold zrs
      rw [if_neg (by omega), if_neg (by omega)]
  have l0 := hf a b ha hb
  have inner := fun (u : Nat) (hu : u < n) (M1 : zM) (h : OF M c n a b u 0 M1) => zwh_inv (c := zc_Renamings_buildOther_2) (s := zs_Renamings_buildOther_2) (fun v ls M' => ls = [some (Value.ref (k)), some (Value.int (nI a)), some (Value.int (nI b)), some (Value.ref (10)), some (Value.int (nI (c a b))), some (Value.int (nI u)), some (Value.int (nI v)), none, none] ∧ OF M c n a b u v M') (Q := fun r ls M' => r = none ∧ ls = [some (Value.ref (k)), some (Value.int (nI a)), some (Value.int (nI b)), some (Value.ref (10)), some (Value.int (nI (c a b))), some (Value.int (nI u)), some (Value.int (nI n)), none, none] ∧ OF M c n a b u n M') (n := n) (fun ls M' q => by
    obtain ⟨rfl, q⟩ := q
    have k1 := (kt q.1).1
    exact ⟨by simp (disch := omega) [zc_Renamings_buildOther_2, zmeth, xm_en, zret, zretz, zretv, zseq, zst, zinc, zkl, zskip, zk, zi, za, zbin, zdiv, zrem, zgi, zgr, zld, zldr, zlen, zn, zc, zcall, zcallv, zrcv, zdo, zdov, zpf, zpfc, zas, zasc, zmin, zmax, zcmp, zcz, zand_e, zor_e, zite_e, zbite_e, zif_e, znot_e, z_add, z_sub, z_mul, z_and, z_or, z_xor, z_shl, z_shr, zcpy, -List.getElem?_cons_succ, zg_0, zg_1, zg_2, zg_3, zg_4, zg_5, zg_6, zg_7, zg_8, zg_9, zc_lt, zc_le, zc_gt, zc_ge, zc_eq, zc_ne, zc_lt0, zc_ge0, zc_gt0, zc_eq0, zc_ne0, zb_ne, zb_eq, zb_01, z_00, z_01, z_11, zb_f, zb_T, zb_F, zbm1, zbm2, zbm5, zbm6, zbm3, zbm4, nI_clamp, zmod_n, pk_div, nI_ne0, pk_mul, nI_add, nI_1, ztb_tag hk, k1], rfl, rfl, q⟩) n 0 (by omega) (fun v ls M2 _ hv q => by
    obtain ⟨rfl, g, g2⟩ := q
    have k1 := (kt g).1
    refine ⟨by simp (disch := omega) [zc_Renamings_buildOther_2, zmeth, xm_en, zret, zretz, zretv, zseq, zst, zinc, zkl, zskip, zk, zi, za, zbin, zdiv, zrem, zgi, zgr, zld, zldr, zlen, zn, zc, zcall, zcallv, zrcv, zdo, zdov, zpf, zpfc, zas, zasc, zmin, zmax, zcmp, zcz, zand_e, zor_e, zite_e, zbite_e, zif_e, znot_e, z_add, z_sub, z_mul, z_and, z_or, z_xor, z_shl, z_shr, zcpy, -List.getElem?_cons_succ, zg_0, zg_1, zg_2, zg_3, zg_4, zg_5, zg_6, zg_7, zg_8, zg_9, zc_lt, zc_le, zc_gt, zc_ge, zc_eq, zc_ne, zc_lt0, zc_ge0, zc_gt0, zc_eq0, zc_ne0, zb_ne, zb_eq, zb_01, z_00, z_01, z_11, zb_f, zb_T, zb_F, zbm1, zbm2, zbm5, zbm6, zbm3, zbm4, nI_clamp, zmod_n, pk_div, nI_ne0, pk_mul, nI_add, nI_1, ztb_tag hk, k1, hv], ?_⟩
    have m1 := qT_mul hk (kt g) h8 hf hu hb
    have m2 := qT_mul hk (kt g) h8 hf ha hv
    have m3 := qT_mul hk (kt g) h8 hf hu hv
    have l1 := hf u b hu hb
    have l2 := hf a v ha hv
    have l3 := hf u v hu hv
    have s1 := qR_swap (M := M2) (x := c u b) (u := c a b) (by omega) (by omega)
    have s2 := qR_swap (M := M2) (x := c a v) (u := c a b) (by omega) (by omega)
    have s3 := qR_swap (M := M2) (x := c u v) (u := c a b) (by omega) (by omega)
    have p := qT_put (M := M2) (v := nI (sw (c u v) (c a b))) tb10 g.1 h8 (sw_lt l1 l0) (sw_lt l2 l0)
    refine ⟨none, _, zup M2 (10 + 1) (8 * sw (c u b) (c a b) + sw (c a v) (c a b)) (nI (sw (c u v) (c a b))), ?_, rfl, ⟨?_, fun q j q1 q2 => ?_⟩, fun u' v' hu' hv' z => ?_⟩
    · simp (disch := omega) [zs_Renamings_buildOther_2, zmeth, xm_en, zret, zretz, zretv, zseq, zst, zinc, zkl, zskip, zk, zi, za, zbin, zdiv, zrem, zgi, zgr, zld, zldr, zlen, zn, zc, zcall, zcallv, zrcv, zdo, zdov, zpf, zpfc, zas, zasc, zmin, zmax, zcmp, zcz, zand_e, zor_e, zite_e, zbite_e, zif_e, znot_e, z_add, z_sub, z_mul, z_and, z_or, z_xor, z_shl, z_shr, zcpy, -List.getElem?_cons_succ, zg_0, zg_1, zg_2, zg_3, zg_4, zg_5, zg_6, zg_7, zg_8, zg_9, zc_lt, zc_le, zc_gt, zc_ge, zc_eq, zc_ne, zc_lt0, zc_ge0, zc_gt0, zc_eq0, zc_ne0, zb_ne, zb_eq, zb_01, z_00, z_01, z_11, zb_f, zb_T, zb_F, zbm1, zbm2, zbm5, zbm6, zbm3, zbm4, nI_clamp, zmod_n, pk_div, nI_ne0, pk_mul, nI_add, nI_1, ztb_tag hk, ztb_tag tb10, m1, m2, m3, s1, s2, s3, p]
    · rw [zup_e, if_neg (by omega)]
      exact g.1
    · rw [zup_e, if_neg (by omega)]
      exact g.2 q j q1 q2
    · rw [zup_e]
      by_cases e : u' = u ∧ v' = v
      · rw [if_pos ⟨rfl, by rw [e.1, e.2]⟩, e.1, e.2]
      · have b1 := sw_lt (hf a v' ha hv') l0
        have b2 := sw_lt l2 l0
        have ne : ¬ (sw (c u' b) (c a b) = sw (c u b) (c a b) ∧ sw (c a v') (c a b) = sw (c a v) (c a b)) := fun w => e ⟨ho.2.2.2.2 _ _ _ hu' hu hb (sw_inj w.1) (Nat.lt_of_lt_of_le (hf u' b hu' hb) h8), ho.2.2.2.1 _ _ _ ha hv' hv (sw_inj w.2) (Nat.lt_of_lt_of_le (hf a v' ha hv') h8)⟩
        rw [if_neg (by omega)]
        exact g2 u' v' hu' hv' (by omega)) [some (Value.ref (k)), some (Value.int (nI a)), some (Value.int (nI b)), some (Value.ref (10)), some (Value.int (nI (c a b))), some (Value.int (nI u)), some (Value.int (nI 0)), none, none] M1 ⟨rfl, h⟩
  obtain ⟨r, ls, M', e1, rfl, rfl, g1⟩ := zwh_inv (c := zc_Renamings_buildOther_1) (s := zs_Renamings_buildOther_1) (fun u ls M' => ls = [some (Value.ref (k)), some (Value.int (nI a)), some (Value.int (nI b)), some (Value.ref (10)), some (Value.int (nI (c a b))), some (Value.int (nI u)), none, none, none] ∧ OF M c n a b u 0 M') (Q := fun r ls M' => r = none ∧ ls = [some (Value.ref (k)), some (Value.int (nI a)), some (Value.int (nI b)), some (Value.ref (10)), some (Value.int (nI (c a b))), some (Value.int (nI n)), none, none, none] ∧ OF M c n a b n 0 M') (n := n) (fun ls M' q => by
    obtain ⟨rfl, q⟩ := q
    have k1 := (kt q.1).1
    exact ⟨by simp (disch := omega) [zc_Renamings_buildOther_1, zmeth, xm_en, zret, zretz, zretv, zseq, zst, zinc, zkl, zskip, zk, zi, za, zbin, zdiv, zrem, zgi, zgr, zld, zldr, zlen, zn, zc, zcall, zcallv, zrcv, zdo, zdov, zpf, zpfc, zas, zasc, zmin, zmax, zcmp, zcz, zand_e, zor_e, zite_e, zbite_e, zif_e, znot_e, z_add, z_sub, z_mul, z_and, z_or, z_xor, z_shl, z_shr, zcpy, -List.getElem?_cons_succ, zg_0, zg_1, zg_2, zg_3, zg_4, zg_5, zg_6, zg_7, zg_8, zg_9, zc_lt, zc_le, zc_gt, zc_ge, zc_eq, zc_ne, zc_lt0, zc_ge0, zc_gt0, zc_eq0, zc_ne0, zb_ne, zb_eq, zb_01, z_00, z_01, z_11, zb_f, zb_T, zb_F, zbm1, zbm2, zbm5, zbm6, zbm3, zbm4, nI_clamp, zmod_n, pk_div, nI_ne0, pk_mul, nI_add, nI_1, ztb_tag hk, k1], rfl, rfl, q⟩) n 0 (by omega) (fun u ls M2 _ hu q => by
    obtain ⟨rfl, q⟩ := q
    have k1 := (kt q.1).1
    refine ⟨by simp (disch := omega) [zc_Renamings_buildOther_1, zmeth, xm_en, zret, zretz, zretv, zseq, zst, zinc, zkl, zskip, zk, zi, za, zbin, zdiv, zrem, zgi, zgr, zld, zldr, zlen, zn, zc, zcall, zcallv, zrcv, zdo, zdov, zpf, zpfc, zas, zasc, zmin, zmax, zcmp, zcz, zand_e, zor_e, zite_e, zbite_e, zif_e, znot_e, z_add, z_sub, z_mul, z_and, z_or, z_xor, z_shl, z_shr, zcpy, -List.getElem?_cons_succ, zg_0, zg_1, zg_2, zg_3, zg_4, zg_5, zg_6, zg_7, zg_8, zg_9, zc_lt, zc_le, zc_gt, zc_ge, zc_eq, zc_ne, zc_lt0, zc_ge0, zc_gt0, zc_eq0, zc_ne0, zb_ne, zb_eq, zb_01, z_00, z_01, z_11, zb_f, zb_T, zb_F, zbm1, zbm2, zbm5, zbm6, zbm3, zbm4, nI_clamp, zmod_n, pk_div, nI_ne0, pk_mul, nI_add, nI_1, ztb_tag hk, k1, hu], ?_⟩
    obtain ⟨r, ls, M3, e3, rfl, rfl, g3⟩ := inner u hu M2 q
    exact ⟨none, _, M3, by simp (disch := omega) [zs_Renamings_buildOther_1, zmeth, xm_en, zret, zretz, zretv, zseq, zst, zinc, zkl, zskip, zk, zi, za, zbin, zdiv, zrem, zgi, zgr, zld, zldr, zlen, zn, zc, zcall, zcallv, zrcv, zdo, zdov, zpf, zpfc, zas, zasc, zmin, zmax, zcmp, zcz, zand_e, zor_e, zite_e, zbite_e, zif_e, znot_e, z_add, z_sub, z_mul, z_and, z_or, z_xor, z_shl, z_shr, zcpy, -List.getElem?_cons_succ, zg_0, zg_1, zg_2, zg_3, zg_4, zg_5, zg_6, zg_7, zg_8, zg_9, zc_lt, zc_le, zc_gt, zc_ge, zc_eq, zc_ne, zc_lt0, zc_ge0, zc_gt0, zc_eq0, zc_ne0, zb_ne, zb_eq, zb_01, z_00, z_01, z_11, zb_f, zb_T, zb_F, zbm1, zbm2, zbm5, zbm6, zbm3, zbm4, nI_clamp, zmod_n, pk_div, nI_ne0, pk_mul, nI_add, nI_1, e3], rfl, g3.1, fun u' v' a1 a2 a3 => g3.2 u' v' a1 a2 (by omega)⟩) [some (Value.ref (k)), some (Value.int (nI a)), some (Value.int (nI b)), some (Value.ref (10)), some (Value.int (nI (c a b))), some (Value.int (nI 0)), none, none, none] (zrs M 10 n n) ⟨rfl, o1, fun u v a1 a2 a3 => by omega⟩
  refine ⟨M', ?_, ⟨g1.1.1, fun x y hx hy => ?_⟩, g1.1.2⟩
  · simp (disch := omega) [zf_Renamings_buildOther, zmeth, xm_en, zret, zretz, zretv, zseq, zst, zinc, zkl, zskip, zk, zi, za, zbin, zdiv, zrem, zgi, zgr, zld, zldr, zlen, zn, zc, zcall, zcallv, zrcv, zdo, zdov, zpf, zpfc, zas, zasc, zmin, zmax, zcmp, zcz, zand_e, zor_e, zite_e, zbite_e, zif_e, znot_e, z_add, z_sub, z_mul, z_and, z_or, z_xor, z_shl, z_shr, zcpy, -List.getElem?_cons_succ, zg_0, zg_1, zg_2, zg_3, zg_4, zg_5, zg_6, zg_7, zg_8, zg_9, ztb_tag hk, ztb_tag tb10, t0, ht.1, rs, e1]
  · have sx := sw_lt hx l0
    have sy := sw_lt hy l0
    have p := tov_ok ho hf hb sx
    have q := tun_ok ho hf ha sy
    have k := g1.2 _ _ p.1 q.1 (Or.inl p.1)
    rw [p.2, q.2, sw_sw, sw_sw] at k
    have o8 := ot_F ho hf ha hb x y hx hy
    rw [zcl_lt (by omega)]
    exact k
theorem qR_threeF {M : zM} {k1 k2 n1 n2 : Nat} {c D : tC} (hk1 : ztb k1) (hk2 : ztb k2) (l1 : k1 < 10) (l2 : k2 < 10) (ht : kT M k1 n1 c) (h2 : kT M k2 n2 D) (ho : tO n1 c) (hD : tO n2 D) (hf : tF n1 c) (hf2 : tF n2 D) : ∃ (b : Bool) (M' : zM), zf_Renamings_areAlikeByThree [.ref 26, .ref k1, .ref k2, .ref 10] M = some (some (zb b), M') ∧ FA M M' ∧ (b = true ↔ n1 = n2 ∧ ∃ a b, a < n1 ∧ b < n1 ∧ AL n1 (c a b) (ri c n1 a b) D) := by
  have b1 := ho.1.1
  have a1 := ho.1.2
  have a2 := hD.1.2
  have z0 := h2.1
  have z0' := ht.1
  by_cases hn : n1 = n2
  · subst hn
    have kt : ∀ {M' : zM}, FA M M' → kT M' k1 n1 c := fun g => ht.same (fun j => g _ _ (by omega) (by omega) (by omega)) (fun j => g _ _ (by unfold ztb at hk1; omega) (by unfold ztb at hk1; omega) (by omega))
    have k2t : ∀ {M' : zM}, FA M M' → kT M' k2 n1 D := fun g => h2.same (fun j => g _ _ (by omega) (by omega) (by omega)) (fun j => g _ _ (by unfold ztb at hk2; omega) (by unfold ztb at hk2; omega) (by omega))
    have inner := fun (a : Nat) (ha : a < n1) (M1 : zM) (h : FA M M1) => zwh_inv (c := zc_Renamings_areAlikeByThree_2) (s := zs_Renamings_areAlikeByThree_2) (fun j ls M' => FA M M' ∧ ls = [some (Value.ref (26)), some (Value.ref (k1)), some (Value.ref (k2)), some (Value.ref (10)), some (Value.int (nI a)), some (Value.int (nI j))] ∧ ∀ b, b < j → ¬ AL n1 (c a b) (ri c n1 a b) D) (Q := fun r ls M' => FA M M' ∧ ((r = none ∧ ls = [some (Value.ref (26)), some (Value.ref (k1)), some (Value.ref (k2)), some (Value.ref (10)), some (Value.int (nI a)), some (Value.int (nI n1))] ∧ ∀ b, b < n1 → ¬ AL n1 (c a b) (ri c n1 a b) D) ∨ (r = some (some (nI 1)) ∧ ∃ b, b < n1 ∧ AL n1 (c a b) (ri c n1 a b) D))) (n := n1) (fun ls M' q => by
      obtain ⟨q, rfl, q2⟩ := q
      have k := (kt q).1
      exact ⟨by simp (disch := omega) [zc_Renamings_areAlikeByThree_2, zmeth, xm_en, zret, zretz, zretv, zseq, zst, zinc, zkl, zskip, zk, zi, za, zbin, zdiv, zrem, zgi, zgr, zld, zldr, zlen, zn, zc, zcall, zcallv, zrcv, zdo, zdov, zpf, zpfc, zas, zasc, zmin, zmax, zcmp, zcz, zand_e, zor_e, zite_e, zbite_e, zif_e, znot_e, z_add, z_sub, z_mul, z_and, z_or, z_xor, z_shl, z_shr, zcpy, -List.getElem?_cons_succ, zg_0, zg_1, zg_2, zg_3, zg_4, zg_5, zg_6, zg_7, zg_8, zg_9, zc_lt, zc_le, zc_gt, zc_ge, zc_eq, zc_ne, zc_lt0, zc_ge0, zc_gt0, zc_eq0, zc_ne0, zb_ne, zb_eq, zb_01, z_00, z_01, z_11, zb_f, zb_T, zb_F, zbm1, zbm2, zbm5, zbm6, zbm3, zbm4, nI_clamp, zmod_n, pk_div, nI_ne0, pk_mul, nI_add, nI_1, ztb_tag hk1, k], q, Or.inl ⟨rfl, rfl, q2⟩⟩) n1 0 (by omega) (fun j ls M' _ hj q => by
      obtain ⟨q, rfl, q2⟩ := q
      have k := (kt q).1
      refine ⟨by simp (disch := omega) [zc_Renamings_areAlikeByThree_2, zmeth, xm_en, zret, zretz, zretv, zseq, zst, zinc, zkl, zskip, zk, zi, za, zbin, zdiv, zrem, zgi, zgr, zld, zldr, zlen, zn, zc, zcall, zcallv, zrcv, zdo, zdov, zpf, zpfc, zas, zasc, zmin, zmax, zcmp, zcz, zand_e, zor_e, zite_e, zbite_e, zif_e, znot_e, z_add, z_sub, z_mul, z_and, z_or, z_xor, z_shl, z_shr, zcpy, -List.getElem?_cons_succ, zg_0, zg_1, zg_2, zg_3, zg_4, zg_5, zg_6, zg_7, zg_8, zg_9, zc_lt, zc_le, zc_gt, zc_ge, zc_eq, zc_ne, zc_lt0, zc_ge0, zc_gt0, zc_eq0, zc_ne0, zb_ne, zb_eq, zb_01, z_00, z_01, z_11, zb_f, zb_T, zb_F, zbm1, zbm2, zbm5, zbm6, zbm3, zbm4, nI_clamp, zmod_n, pk_div, nI_ne0, pk_mul, nI_add, nI_1, ztb_tag hk1, k, hj], ?_⟩
      obtain ⟨M2, e2, o2, g2⟩ := qR_buildF hk1 l1 (kt q) ho hf ha hj
      have h22 : kT M2 k2 n1 D := (k2t q).same (fun j => g2 _ _ (by omega) (by omega)) (fun j => g2 _ _ (by unfold ztb at hk2; omega) (by unfold ztb at hk2; omega))
      obtain ⟨b, M3, e3, g3, i3⟩ := qR_areAlikeF tb10 hk2 o2 h22 b1 a1 a2 (ot_u ho hf ha hj) hD.2.1 (ot_F ho hf ha hj) hf2
      have q3 : FA M M3 := fun q' j' z1 z2 z3 => ((g3 q' j' z3).trans (g2 q' j' z1 z2)).trans (q q' j' z1 z2 z3)
      cases b with
      | false => exact ⟨none, _, M3, by simp (disch := omega) [zs_Renamings_areAlikeByThree_2, zmeth, xm_en, zret, zretz, zretv, zseq, zst, zinc, zkl, zskip, zk, zi, za, zbin, zdiv, zrem, zgi, zgr, zld, zldr, zlen, zn, zc, zcall, zcallv, zrcv, zdo, zdov, zpf, zpfc, zas, zasc, zmin, zmax, zcmp, zcz, zand_e, zor_e, zite_e, zbite_e, zif_e, znot_e, z_add, z_sub, z_mul, z_and, z_or, z_xor, z_shl, z_shr, zcpy, -List.getElem?_cons_succ, zg_0, zg_1, zg_2, zg_3, zg_4, zg_5, zg_6, zg_7, zg_8, zg_9, zt_0, zt_12, zt_20, zt_26, zt_32, zf_0_0, zf_0_1, zf_0_2, zf_0_3, zf_0_4, zf_12_0, zf_12_1, zf_12_2, zf_12_4, zf_12_5, zf_20_1, zf_20_2, zf_20_3, zf_20_4, zf_20_6, zf_26_0, zf_26_1, zf_26_2, zf_26_3, zf_32_0, zf_32_1, zf_32_3, zf_32_4, zf_32_5, zf_32_6, zc_lt, zc_le, zc_gt, zc_ge, zc_eq, zc_ne, zc_lt0, zc_ge0, zc_gt0, zc_eq0, zc_ne0, zb_ne, zb_eq, zb_01, z_00, z_01, z_11, zb_f, zb_T, zb_F, zbm1, zbm2, zbm5, zbm6, zbm3, zbm4, nI_clamp, zmod_n, pk_div, nI_ne0, pk_mul, nI_add, nI_1, e2, e3], q3, rfl, fun b hb z => by
          by_cases e : b = j
          · subst e
            have := i3.mpr ⟨rfl, (AL_ot ho hf ha hj).mpr z⟩
            cases this
          · exact q2 b (by omega) z⟩
      | true => exact ⟨some (some (nI 1)), _, M3, by simp (disch := omega) [zs_Renamings_areAlikeByThree_2, zmeth, xm_en, zret, zretz, zretv, zseq, zst, zinc, zkl, zskip, zk, zi, za, zbin, zdiv, zrem, zgi, zgr, zld, zldr, zlen, zn, zc, zcall, zcallv, zrcv, zdo, zdov, zpf, zpfc, zas, zasc, zmin, zmax, zcmp, zcz, zand_e, zor_e, zite_e, zbite_e, zif_e, znot_e, z_add, z_sub, z_mul, z_and, z_or, z_xor, z_shl, z_shr, zcpy, -List.getElem?_cons_succ, zg_0, zg_1, zg_2, zg_3, zg_4, zg_5, zg_6, zg_7, zg_8, zg_9, zt_0, zt_12, zt_20, zt_26, zt_32, zf_0_0, zf_0_1, zf_0_2, zf_0_3, zf_0_4, zf_12_0, zf_12_1, zf_12_2, zf_12_4, zf_12_5, zf_20_1, zf_20_2, zf_20_3, zf_20_4, zf_20_6, zf_26_0, zf_26_1, zf_26_2, zf_26_3, zf_32_0, zf_32_1, zf_32_3, zf_32_4, zf_32_5, zf_32_6, zc_lt, zc_le, zc_gt, zc_ge, zc_eq, zc_ne, zc_lt0, zc_ge0, zc_gt0, zc_eq0, zc_ne0, zb_ne, zb_eq, zb_01, z_00, z_01, z_11, zb_f, zb_T, zb_F, zbm1, zbm2, zbm5, zbm6, zbm3, zbm4, nI_clamp, zmod_n, pk_div, nI_ne0, pk_mul, nI_add, nI_1, e2, e3]; rfl, q3, Or.inr ⟨rfl, j, hj, (AL_ot ho hf ha hj).mp (i3.mp rfl).2⟩⟩) [some (Value.ref (26)), some (Value.ref (k1)), some (Value.ref (k2)), some (Value.ref (10)), some (Value.int (nI a)), some (Value.int (nI 0))] M1 ⟨h, rfl, fun b hb => absurd hb (Nat.not_lt_zero b)⟩
    obtain ⟨r, ls, M', w1, w2, w3⟩ := zwh_inv (c := zc_Renamings_areAlikeByThree_1) (s := zs_Renamings_areAlikeByThree_1) (fun j ls M' => FA M M' ∧ ls = [some (Value.ref (26)), some (Value.ref (k1)), some (Value.ref (k2)), some (Value.ref (10)), some (Value.int (nI j)), none] ∧ ∀ a b, a < j → b < n1 → ¬ AL n1 (c a b) (ri c n1 a b) D) (Q := fun r ls M' => FA M M' ∧ ((r = none ∧ ls = [some (Value.ref (26)), some (Value.ref (k1)), some (Value.ref (k2)), some (Value.ref (10)), some (Value.int (nI n1)), none] ∧ ∀ a b, a < n1 → b < n1 → ¬ AL n1 (c a b) (ri c n1 a b) D) ∨ (r = some (some (nI 1)) ∧ ∃ a b, a < n1 ∧ b < n1 ∧ AL n1 (c a b) (ri c n1 a b) D))) (n := n1) (fun ls M' q => by
      obtain ⟨q, rfl, q2⟩ := q
      have k := (kt q).1
      exact ⟨by simp (disch := omega) [zc_Renamings_areAlikeByThree_1, zmeth, xm_en, zret, zretz, zretv, zseq, zst, zinc, zkl, zskip, zk, zi, za, zbin, zdiv, zrem, zgi, zgr, zld, zldr, zlen, zn, zc, zcall, zcallv, zrcv, zdo, zdov, zpf, zpfc, zas, zasc, zmin, zmax, zcmp, zcz, zand_e, zor_e, zite_e, zbite_e, zif_e, znot_e, z_add, z_sub, z_mul, z_and, z_or, z_xor, z_shl, z_shr, zcpy, -List.getElem?_cons_succ, zg_0, zg_1, zg_2, zg_3, zg_4, zg_5, zg_6, zg_7, zg_8, zg_9, zc_lt, zc_le, zc_gt, zc_ge, zc_eq, zc_ne, zc_lt0, zc_ge0, zc_gt0, zc_eq0, zc_ne0, zb_ne, zb_eq, zb_01, z_00, z_01, z_11, zb_f, zb_T, zb_F, zbm1, zbm2, zbm5, zbm6, zbm3, zbm4, nI_clamp, zmod_n, pk_div, nI_ne0, pk_mul, nI_add, nI_1, ztb_tag hk1, k], q, Or.inl ⟨rfl, rfl, q2⟩⟩) n1 0 (by omega) (fun j ls M' _ hj q => by
      obtain ⟨q, rfl, q2⟩ := q
      have k := (kt q).1
      refine ⟨by simp (disch := omega) [zc_Renamings_areAlikeByThree_1, zmeth, xm_en, zret, zretz, zretv, zseq, zst, zinc, zkl, zskip, zk, zi, za, zbin, zdiv, zrem, zgi, zgr, zld, zldr, zlen, zn, zc, zcall, zcallv, zrcv, zdo, zdov, zpf, zpfc, zas, zasc, zmin, zmax, zcmp, zcz, zand_e, zor_e, zite_e, zbite_e, zif_e, znot_e, z_add, z_sub, z_mul, z_and, z_or, z_xor, z_shl, z_shr, zcpy, -List.getElem?_cons_succ, zg_0, zg_1, zg_2, zg_3, zg_4, zg_5, zg_6, zg_7, zg_8, zg_9, zc_lt, zc_le, zc_gt, zc_ge, zc_eq, zc_ne, zc_lt0, zc_ge0, zc_gt0, zc_eq0, zc_ne0, zb_ne, zb_eq, zb_01, z_00, z_01, z_11, zb_f, zb_T, zb_F, zbm1, zbm2, zbm5, zbm6, zbm3, zbm4, nI_clamp, zmod_n, pk_div, nI_ne0, pk_mul, nI_add, nI_1, ztb_tag hk1, k, hj], ?_⟩
      obtain ⟨r, ls, M2, e1, g1, ⟨rfl, rfl, g2⟩ | ⟨rfl, b, g2, g3⟩⟩ := inner j hj M' q
      · exact ⟨none, _, M2, by simp (disch := omega) [zs_Renamings_areAlikeByThree_1, zmeth, xm_en, zret, zretz, zretv, zseq, zst, zinc, zkl, zskip, zk, zi, za, zbin, zdiv, zrem, zgi, zgr, zld, zldr, zlen, zn, zc, zcall, zcallv, zrcv, zdo, zdov, zpf, zpfc, zas, zasc, zmin, zmax, zcmp, zcz, zand_e, zor_e, zite_e, zbite_e, zif_e, znot_e, z_add, z_sub, z_mul, z_and, z_or, z_xor, z_shl, z_shr, zcpy, -List.getElem?_cons_succ, zg_0, zg_1, zg_2, zg_3, zg_4, zg_5, zg_6, zg_7, zg_8, zg_9, zc_lt, zc_le, zc_gt, zc_ge, zc_eq, zc_ne, zc_lt0, zc_ge0, zc_gt0, zc_eq0, zc_ne0, zb_ne, zb_eq, zb_01, z_00, z_01, z_11, zb_f, zb_T, zb_F, zbm1, zbm2, zbm5, zbm6, zbm3, zbm4, nI_clamp, zmod_n, pk_div, nI_ne0, pk_mul, nI_add, nI_1, e1], g1, rfl, fun a b ha hb => by
          by_cases e : a = j
          · subst e
            exact g2 b hb
          · exact q2 a b (by omega) hb⟩
      · exact ⟨some (some (nI 1)), _, M2, by simp (disch := omega) [zs_Renamings_areAlikeByThree_1, zmeth, xm_en, zret, zretz, zretv, zseq, zst, zinc, zkl, zskip, zk, zi, za, zbin, zdiv, zrem, zgi, zgr, zld, zldr, zlen, zn, zc, zcall, zcallv, zrcv, zdo, zdov, zpf, zpfc, zas, zasc, zmin, zmax, zcmp, zcz, zand_e, zor_e, zite_e, zbite_e, zif_e, znot_e, z_add, z_sub, z_mul, z_and, z_or, z_xor, z_shl, z_shr, zcpy, -List.getElem?_cons_succ, zg_0, zg_1, zg_2, zg_3, zg_4, zg_5, zg_6, zg_7, zg_8, zg_9, zc_lt, zc_le, zc_gt, zc_ge, zc_eq, zc_ne, zc_lt0, zc_ge0, zc_gt0, zc_eq0, zc_ne0, zb_ne, zb_eq, zb_01, z_00, z_01, z_11, zb_f, zb_T, zb_F, zbm1, zbm2, zbm5, zbm6, zbm3, zbm4, nI_clamp, zmod_n, pk_div, nI_ne0, pk_mul, nI_add, nI_1, e1]; rfl, g1, Or.inr ⟨rfl, j, b, hj, g2, g3⟩⟩) [some (Value.ref (26)), some (Value.ref (k1)), some (Value.ref (k2)), some (Value.ref (10)), some (Value.int (nI 0)), none] M ⟨fun _ _ _ _ _ => rfl, rfl, fun a b ha => absurd ha (Nat.not_lt_zero a)⟩
    rcases w3 with ⟨rfl, rfl, w3⟩ | ⟨rfl, w3⟩
    · exact ⟨false, M', by simp (disch := omega) [zf_Renamings_areAlikeByThree, zmeth, xm_en, zret, zretz, zretv, zseq, zst, zinc, zkl, zskip, zk, zi, za, zbin, zdiv, zrem, zgi, zgr, zld, zldr, zlen, zn, zc, zcall, zcallv, zrcv, zdo, zdov, zpf, zpfc, zas, zasc, zmin, zmax, zcmp, zcz, zand_e, zor_e, zite_e, zbite_e, zif_e, znot_e, z_add, z_sub, z_mul, z_and, z_or, z_xor, z_shl, z_shr, zcpy, -List.getElem?_cons_succ, zg_0, zg_1, zg_2, zg_3, zg_4, zg_5, zg_6, zg_7, zg_8, zg_9, zc_lt, zc_le, zc_gt, zc_ge, zc_eq, zc_ne, zc_lt0, zc_ge0, zc_gt0, zc_eq0, zc_ne0, zb_ne, zb_eq, zb_01, z_00, z_01, z_11, zb_f, zb_T, zb_F, zbm1, zbm2, zbm5, zbm6, zbm3, zbm4, nI_clamp, zmod_n, pk_div, nI_ne0, pk_mul, nI_add, nI_1, ztb_tag hk1, ztb_tag hk2, z0, z0', w1], w2, fun z => by (cases z), fun ⟨_, a, b, x, y, z⟩ => absurd z (w3 a b x y)⟩
    · exact ⟨true, M', by simp (disch := omega) [zf_Renamings_areAlikeByThree, zmeth, xm_en, zret, zretz, zretv, zseq, zst, zinc, zkl, zskip, zk, zi, za, zbin, zdiv, zrem, zgi, zgr, zld, zldr, zlen, zn, zc, zcall, zcallv, zrcv, zdo, zdov, zpf, zpfc, zas, zasc, zmin, zmax, zcmp, zcz, zand_e, zor_e, zite_e, zbite_e, zif_e, znot_e, z_add, z_sub, z_mul, z_and, z_or, z_xor, z_shl, z_shr, zcpy, -List.getElem?_cons_succ, zg_0, zg_1, zg_2, zg_3, zg_4, zg_5, zg_6, zg_7, zg_8, zg_9, zc_lt, zc_le, zc_gt, zc_ge, zc_eq, zc_ne, zc_lt0, zc_ge0, zc_gt0, zc_eq0, zc_ne0, zb_ne, zb_eq, zb_01, z_00, z_01, z_11, zb_f, zb_T, zb_F, zbm1, zbm2, zbm5, zbm6, zbm3, zbm4, nI_clamp, zmod_n, pk_div, nI_ne0, pk_mul, nI_add, nI_1, ztb_tag hk1, ztb_tag hk2, z0, z0', w1], w2, fun _ => ⟨rfl, w3⟩, fun _ => rfl⟩
  · exact ⟨false, M, by simp (disch := omega) [zf_Renamings_areAlikeByThree, zmeth, xm_en, zret, zretz, zretv, zseq, zst, zinc, zkl, zskip, zk, zi, za, zbin, zdiv, zrem, zgi, zgr, zld, zldr, zlen, zn, zc, zcall, zcallv, zrcv, zdo, zdov, zpf, zpfc, zas, zasc, zmin, zmax, zcmp, zcz, zand_e, zor_e, zite_e, zbite_e, zif_e, znot_e, z_add, z_sub, z_mul, z_and, z_or, z_xor, z_shl, z_shr, zcpy, -List.getElem?_cons_succ, zg_0, zg_1, zg_2, zg_3, zg_4, zg_5, zg_6, zg_7, zg_8, zg_9, zc_lt, zc_le, zc_gt, zc_ge, zc_eq, zc_ne, zc_lt0, zc_ge0, zc_gt0, zc_eq0, zc_ne0, zb_ne, zb_eq, zb_01, z_00, z_01, z_11, zb_f, zb_T, zb_F, zbm1, zbm2, zbm5, zbm6, zbm3, zbm4, nI_clamp, zmod_n, pk_div, nI_ne0, pk_mul, nI_add, nI_1, ztb_tag hk1, ztb_tag hk2, z0, z0', hn], fun _ _ _ _ _ => rfl, fun z => by (cases z), fun z => absurd z.1 hn⟩
/-! alike: the reference with its answer -/
def BJ (n u : Nat) (g : Nat → Nat) : Prop := (∀ k, k < n → g k < n) ∧ (∀ k k', k < n → k' < n → g k = g k' → k = k') ∧ g u = 0
def HG (n : Nat) (c D : tC) (g : Nat → Nat) : Prop := ∀ x y, x < n → y < n → g (c x y) = D (g x) (g y)
theorem FRE_bj {n u : Nat} {g : Nat → Nat} (hu : u < n) (h : BJ n u g) : FRE n u g 0 1 := by
  refine ⟨fun k _ hk k0 => ⟨h.1 k hk, ?_⟩, fun k k' _ a _ _ b _ e => h.2.1 k k' a b e⟩
  have : g k ≠ 0 := fun z => k0 (h.2.1 k u hk hu (by rw [z, h.2.2]))
  cases hp : g k with
  | zero => exact absurd hp this
  | succ m =>
    rw [Nat.testBit_succ]
    exact Nat.zero_testBit m
theorem c01 {n : Nat} (h8 : n ≤ 8) : cf 1 0 n = n - 1 := by
  have : ∀ n, n ≤ 8 → cf 1 0 n = n - 1 := by decide
  exact this n h8
theorem rg_1 {n u : Nat} (h8 : n ≤ 8) (hu : u < n) (r : Nat) (hr : r < fa (n - 1)) : ∃ g, BJ n u g ∧ num u g n 0 1 (n - 1) = r ∧ ∀ M, ∃ M', zf_M_renames [.ref 32, .int (nI n), .int (nI u), .int (nI r)] M = some (none, M') ∧ (∀ k, k < n → M' 36 k = nI (g k)) ∧ ∀ q j, q ≠ 36 → M' q j = M q j := by
  obtain ⟨g', a1, a2, a3, a4, a5⟩ := qM_rn3 h8 hu n 0 1 r (n - 1) (fun _ => 0) (by omega) hr (fun k hk => ⟨(show 0 < n by omega), (show Nat.testBit 1 0 = true by decide)⟩) (fun k k' a b _ => by omega) (c01 h8) (by rw [if_neg (by omega)]) (by decide)
  refine ⟨g', ⟨a1, a2, a3 u (Or.inr rfl)⟩, a4, fun M => ?_⟩
  obtain ⟨tk', s', L', M', e1, e2, e3⟩ := a5 r (zup M 36 u (nI 0)) (fun k hk => by
    have : k = u := by omega
    rw [this, zup_e, if_pos ⟨rfl, rfl⟩])
  refine ⟨M', ?_, e2, fun q j hq => (e3 q j hq).trans (by rw [zup_e, if_neg (fun z => hq z.1)])⟩
  have es : nI n - nI 1 = nI (n - 1) := pk_sub (by omega)
  simp only [lsR] at e1
  simp (disch := omega) [zf_M_renames, zmeth, xm_en, zret, zretz, zretv, zseq, zst, zinc, zkl, zskip, zk, zi, za, zbin, zdiv, zrem, zgi, zgr, zld, zldr, zlen, zn, zc, zcall, zcallv, zrcv, zdo, zdov, zpf, zpfc, zas, zasc, zmin, zmax, zcmp, zcz, zand_e, zor_e, zite_e, zbite_e, zif_e, znot_e, z_add, z_sub, z_mul, z_and, z_or, z_xor, z_shl, z_shr, zcpy, -List.getElem?_cons_succ, zg_0, zg_1, zg_2, zg_3, zg_4, zg_5, zg_6, zg_7, zg_8, zg_9, zt_0, zt_12, zt_20, zt_26, zt_32, zf_0_0, zf_0_1, zf_0_2, zf_0_3, zf_0_4, zf_12_0, zf_12_1, zf_12_2, zf_12_4, zf_12_5, zf_20_1, zf_20_2, zf_20_3, zf_20_4, zf_20_6, zf_26_0, zf_26_1, zf_26_2, zf_26_3, zf_32_0, zf_32_1, zf_32_3, zf_32_4, zf_32_5, zf_32_6, nI_clamp, zi_36, es, e1]
theorem num_bj {n u : Nat} {g g' : Nat → Nat} (h8 : n ≤ 8) (hu : u < n) (h : BJ n u g) (h' : BJ n u g') (e : num u g n 0 1 (n - 1) = num u g' n 0 1 (n - 1)) : ∀ k, k < n → g k = g' k := fun k hk => by
  by_cases q : k = u
  · rw [q, h.2.2, h'.2.2]
  · exact num_inj (n := n) n 0 1 (n - 1) (by omega) (c01 h8) (FRE_bj hu h) (FRE_bj hu h') e k (Nat.zero_le k) hk q
theorem HG_c {n : Nat} {c D : tC} {g g' : Nat → Nat} (hf : tF n c) (e : ∀ k, k < n → g k = g' k) (h : HG n c D g) : HG n c D g' := fun x y hx hy => by
  rw [← e _ (hf x y hx hy), ← e x hx, ← e y hy]
  exact h x y hx hy
theorem qM_ag34 {M2 : zM} {t1 t2 n : Nat} {E D : tC} (h1 : t1 < 5) (h2 : t2 < 5) (h8 : n ≤ 8) (r5 : rT M2 5 n E) (r2 : rT M2 t2 n D) (hE : tF n E) (hD : tF n D) : ∃ r ls, zwh zc_M_against_3 zs_M_against_3 [some (Value.ref (32)), some (Value.int (nI t1)), some (Value.int (nI t2)), some (Value.int (nI n)), some (Value.int (nI 0)), none, none] M2 = some (r, ls, M2) ∧ ((r = none ∧ ls = [some (Value.ref (32)), some (Value.int (nI t1)), some (Value.int (nI t2)), some (Value.int (nI n)), some (Value.int (nI n)), none, none] ∧ tq n E D) ∨ ∃ v, r = some (some v) ∧ xe_cd .eq v 0 = false ∧ ¬ tq n E D) := by
  have l4 := fun (a : Nat) (ha : a < n) => zwh_inv (c := zc_M_against_4) (s := zs_M_against_4) (fun b ls M' => M' = M2 ∧ ls = [some (Value.ref (32)), some (Value.int (nI t1)), some (Value.int (nI t2)), some (Value.int (nI n)), some (Value.int (nI a)), some (Value.int (nI b)), none] ∧ ∀ y, y < b → E a y = D a y) (Q := fun r ls M' => M' = M2 ∧ ((r = none ∧ ls = [some (Value.ref (32)), some (Value.int (nI t1)), some (Value.int (nI t2)), some (Value.int (nI n)), some (Value.int (nI a)), some (Value.int (nI n)), none] ∧ ∀ y, y < n → E a y = D a y) ∨ ∃ v, r = some (some v) ∧ xe_cd .eq v 0 = false ∧ ¬ tq n E D)) (n := n) (fun ls M' q => by
      obtain ⟨rfl, rfl, q⟩ := q
      exact ⟨by simp (disch := omega) [zc_M_against_4, zmeth, xm_en, zret, zretz, zretv, zseq, zst, zinc, zkl, zskip, zk, zi, za, zbin, zdiv, zrem, zgi, zgr, zld, zldr, zlen, zn, zc, zcall, zcallv, zrcv, zdo, zdov, zpf, zpfc, zas, zasc, zmin, zmax, zcmp, zcz, zand_e, zor_e, zite_e, zbite_e, zif_e, znot_e, z_add, z_sub, z_mul, z_and, z_or, z_xor, z_shl, z_shr, zcpy, -List.getElem?_cons_succ, zg_0, zg_1, zg_2, zg_3, zg_4, zg_5, zg_6, zg_7, zg_8, zg_9, zc_lt, zc_le, zc_gt, zc_ge, zc_eq, zc_ne, zc_lt0, zc_ge0, zc_gt0, zc_eq0, zc_ne0, zb_ne, zb_eq, zb_01, z_00, z_01, z_11, zb_f, zb_T, zb_F, zbm1, zbm2, zbm5, zbm6, zbm3, zbm4, nI_clamp, zmod_n, pk_div, nI_ne0, pk_mul, nI_add, nI_1], rfl, Or.inl ⟨rfl, rfl, q⟩⟩) n 0 (by omega) (fun b ls M' _ hb q => by
      obtain ⟨rfl, rfl, q⟩ := q
      refine ⟨by simp (disch := omega) [zc_M_against_4, zmeth, xm_en, zret, zretz, zretv, zseq, zst, zinc, zkl, zskip, zk, zi, za, zbin, zdiv, zrem, zgi, zgr, zld, zldr, zlen, zn, zc, zcall, zcallv, zrcv, zdo, zdov, zpf, zpfc, zas, zasc, zmin, zmax, zcmp, zcz, zand_e, zor_e, zite_e, zbite_e, zif_e, znot_e, z_add, z_sub, z_mul, z_and, z_or, z_xor, z_shl, z_shr, zcpy, -List.getElem?_cons_succ, zg_0, zg_1, zg_2, zg_3, zg_4, zg_5, zg_6, zg_7, zg_8, zg_9, zc_lt, zc_le, zc_gt, zc_ge, zc_eq, zc_ne, zc_lt0, zc_ge0, zc_gt0, zc_eq0, zc_ne0, zb_ne, zb_eq, zb_01, z_00, z_01, z_11, zb_f, zb_T, zb_F, zbm1, zbm2, zbm5, zbm6, zbm3, zbm4, nI_clamp, zmod_n, pk_div, nI_ne0, pk_mul, nI_add, nI_1, hb], ?_⟩
      have c1 := qM_mul (show 5 < 6 by omega) r5 h8 hE ha hb
      have c2 := qM_mul (show t2 < 6 by omega) r2 h8 hD ha hb
      have x8 := hE a b ha hb
      have y8 := hD a b ha hb
      have dn := d8_ne (E a b) (by omega) (D a b) (by omega)
      have dl := d8_lt (E a b) (by omega) (D a b) (by omega)
      by_cases g : E a b = D a b
      · rw [decide_eq_true g] at dn
        refine ⟨none, _, M', by simp (disch := omega) [zs_M_against_4, zmeth, xm_en, zret, zretz, zretv, zseq, zst, zinc, zkl, zskip, zk, zi, za, zbin, zdiv, zrem, zgi, zgr, zld, zldr, zlen, zn, zc, zcall, zcallv, zrcv, zdo, zdov, zpf, zpfc, zas, zasc, zmin, zmax, zcmp, zcz, zand_e, zor_e, zite_e, zbite_e, zif_e, znot_e, z_add, z_sub, z_mul, z_and, z_or, z_xor, z_shl, z_shr, zcpy, -List.getElem?_cons_succ, zg_0, zg_1, zg_2, zg_3, zg_4, zg_5, zg_6, zg_7, zg_8, zg_9, zt_0, zt_12, zt_20, zt_26, zt_32, zf_0_0, zf_0_1, zf_0_2, zf_0_3, zf_0_4, zf_12_0, zf_12_1, zf_12_2, zf_12_4, zf_12_5, zf_20_1, zf_20_2, zf_20_3, zf_20_4, zf_20_6, zf_26_0, zf_26_1, zf_26_2, zf_26_3, zf_32_0, zf_32_1, zf_32_3, zf_32_4, zf_32_5, zf_32_6, nI_1, c1, c2, dn], rfl, rfl, fun y z => ?_⟩
        by_cases w : y = b
        · rw [w]
          exact g
        · exact q y (by omega)
      · rw [decide_eq_false g] at dn
        by_cases g2 : E a b < D a b
        · rw [decide_eq_true g2] at dl
          exact ⟨some (some (-1)), _, M', by simp (disch := omega) [zs_M_against_4, zmeth, xm_en, zret, zretz, zretv, zseq, zst, zinc, zkl, zskip, zk, zi, za, zbin, zdiv, zrem, zgi, zgr, zld, zldr, zlen, zn, zc, zcall, zcallv, zrcv, zdo, zdov, zpf, zpfc, zas, zasc, zmin, zmax, zcmp, zcz, zand_e, zor_e, zite_e, zbite_e, zif_e, znot_e, z_add, z_sub, z_mul, z_and, z_or, z_xor, z_shl, z_shr, zcpy, -List.getElem?_cons_succ, zg_0, zg_1, zg_2, zg_3, zg_4, zg_5, zg_6, zg_7, zg_8, zg_9, zt_0, zt_12, zt_20, zt_26, zt_32, zf_0_0, zf_0_1, zf_0_2, zf_0_3, zf_0_4, zf_12_0, zf_12_1, zf_12_2, zf_12_4, zf_12_5, zf_20_1, zf_20_2, zf_20_3, zf_20_4, zf_20_6, zf_26_0, zf_26_1, zf_26_2, zf_26_3, zf_32_0, zf_32_1, zf_32_3, zf_32_4, zf_32_5, zf_32_6, nI_1, c1, c2, dn, dl]; rfl, rfl, Or.inr ⟨_, rfl, by decide, fun w => g (w a b ha hb)⟩⟩
        · rw [decide_eq_false g2] at dl
          exact ⟨some (some (nI 1)), _, M', by simp (disch := omega) [zs_M_against_4, zmeth, xm_en, zret, zretz, zretv, zseq, zst, zinc, zkl, zskip, zk, zi, za, zbin, zdiv, zrem, zgi, zgr, zld, zldr, zlen, zn, zc, zcall, zcallv, zrcv, zdo, zdov, zpf, zpfc, zas, zasc, zmin, zmax, zcmp, zcz, zand_e, zor_e, zite_e, zbite_e, zif_e, znot_e, z_add, z_sub, z_mul, z_and, z_or, z_xor, z_shl, z_shr, zcpy, -List.getElem?_cons_succ, zg_0, zg_1, zg_2, zg_3, zg_4, zg_5, zg_6, zg_7, zg_8, zg_9, zt_0, zt_12, zt_20, zt_26, zt_32, zf_0_0, zf_0_1, zf_0_2, zf_0_3, zf_0_4, zf_12_0, zf_12_1, zf_12_2, zf_12_4, zf_12_5, zf_20_1, zf_20_2, zf_20_3, zf_20_4, zf_20_6, zf_26_0, zf_26_1, zf_26_2, zf_26_3, zf_32_0, zf_32_1, zf_32_3, zf_32_4, zf_32_5, zf_32_6, nI_1, c1, c2, dn, dl]; rfl, rfl, Or.inr ⟨_, rfl, by decide, fun w => g (w a b ha hb)⟩⟩) [some (Value.ref (32)), some (Value.int (nI t1)), some (Value.int (nI t2)), some (Value.int (nI n)), some (Value.int (nI a)), some (Value.int (nI 0)), none] M2 ⟨rfl, rfl, fun y z => absurd z (Nat.not_lt_zero y)⟩
  obtain ⟨r, ls, M3, w1, rfl, w2⟩ := zwh_inv (c := zc_M_against_3) (s := zs_M_against_3) (fun a ls M' => M' = M2 ∧ ls = [some (Value.ref (32)), some (Value.int (nI t1)), some (Value.int (nI t2)), some (Value.int (nI n)), some (Value.int (nI a)), none, none] ∧ ∀ x y, x < a → y < n → E x y = D x y) (Q := fun r ls M' => M' = M2 ∧ ((r = none ∧ ls = [some (Value.ref (32)), some (Value.int (nI t1)), some (Value.int (nI t2)), some (Value.int (nI n)), some (Value.int (nI n)), none, none] ∧ tq n E D) ∨ ∃ v, r = some (some v) ∧ xe_cd .eq v 0 = false ∧ ¬ tq n E D)) (n := n) (fun ls M' q => by
      obtain ⟨rfl, rfl, q⟩ := q
      exact ⟨by simp (disch := omega) [zc_M_against_3, zmeth, xm_en, zret, zretz, zretv, zseq, zst, zinc, zkl, zskip, zk, zi, za, zbin, zdiv, zrem, zgi, zgr, zld, zldr, zlen, zn, zc, zcall, zcallv, zrcv, zdo, zdov, zpf, zpfc, zas, zasc, zmin, zmax, zcmp, zcz, zand_e, zor_e, zite_e, zbite_e, zif_e, znot_e, z_add, z_sub, z_mul, z_and, z_or, z_xor, z_shl, z_shr, zcpy, -List.getElem?_cons_succ, zg_0, zg_1, zg_2, zg_3, zg_4, zg_5, zg_6, zg_7, zg_8, zg_9, zc_lt, zc_le, zc_gt, zc_ge, zc_eq, zc_ne, zc_lt0, zc_ge0, zc_gt0, zc_eq0, zc_ne0, zb_ne, zb_eq, zb_01, z_00, z_01, z_11, zb_f, zb_T, zb_F, zbm1, zbm2, zbm5, zbm6, zbm3, zbm4, nI_clamp, zmod_n, pk_div, nI_ne0, pk_mul, nI_add, nI_1], rfl, Or.inl ⟨rfl, rfl, q⟩⟩) n 0 (by omega) (fun a ls M' _ ha q => by
      obtain ⟨rfl, rfl, q⟩ := q
      refine ⟨by simp (disch := omega) [zc_M_against_3, zmeth, xm_en, zret, zretz, zretv, zseq, zst, zinc, zkl, zskip, zk, zi, za, zbin, zdiv, zrem, zgi, zgr, zld, zldr, zlen, zn, zc, zcall, zcallv, zrcv, zdo, zdov, zpf, zpfc, zas, zasc, zmin, zmax, zcmp, zcz, zand_e, zor_e, zite_e, zbite_e, zif_e, znot_e, z_add, z_sub, z_mul, z_and, z_or, z_xor, z_shl, z_shr, zcpy, -List.getElem?_cons_succ, zg_0, zg_1, zg_2, zg_3, zg_4, zg_5, zg_6, zg_7, zg_8, zg_9, zc_lt, zc_le, zc_gt, zc_ge, zc_eq, zc_ne, zc_lt0, zc_ge0, zc_gt0, zc_eq0, zc_ne0, zb_ne, zb_eq, zb_01, z_00, z_01, z_11, zb_f, zb_T, zb_F, zbm1, zbm2, zbm5, zbm6, zbm3, zbm4, nI_clamp, zmod_n, pk_div, nI_ne0, pk_mul, nI_add, nI_1, ha], ?_⟩
      obtain ⟨r, ls, M4, e4, rfl, ⟨rfl, rfl, q4⟩ | ⟨v, rfl, q4⟩⟩ := l4 a ha
      · refine ⟨none, _, M4, by simp (disch := omega) [zs_M_against_3, zmeth, xm_en, zret, zretz, zretv, zseq, zst, zinc, zkl, zskip, zk, zi, za, zbin, zdiv, zrem, zgi, zgr, zld, zldr, zlen, zn, zc, zcall, zcallv, zrcv, zdo, zdov, zpf, zpfc, zas, zasc, zmin, zmax, zcmp, zcz, zand_e, zor_e, zite_e, zbite_e, zif_e, znot_e, z_add, z_sub, z_mul, z_and, z_or, z_xor, z_shl, z_shr, zcpy, -List.getElem?_cons_succ, zg_0, zg_1, zg_2, zg_3, zg_4, zg_5, zg_6, zg_7, zg_8, zg_9, zc_lt, zc_le, zc_gt, zc_ge, zc_eq, zc_ne, zc_lt0, zc_ge0, zc_gt0, zc_eq0, zc_ne0, zb_ne, zb_eq, zb_01, z_00, z_01, z_11, zb_f, zb_T, zb_F, zbm1, zbm2, zbm5, zbm6, zbm3, zbm4, nI_clamp, zmod_n, pk_div, nI_ne0, pk_mul, nI_add, nI_1, e4], rfl, rfl, fun x y hx hy => ?_⟩
        by_cases w : x = a
        · rw [w]
          exact q4 y hy
        · exact q x y (by omega) hy
      · exact ⟨some (some v), _, M4, by simp (disch := omega) [zs_M_against_3, zmeth, xm_en, zret, zretz, zretv, zseq, zst, zinc, zkl, zskip, zk, zi, za, zbin, zdiv, zrem, zgi, zgr, zld, zldr, zlen, zn, zc, zcall, zcallv, zrcv, zdo, zdov, zpf, zpfc, zas, zasc, zmin, zmax, zcmp, zcz, zand_e, zor_e, zite_e, zbite_e, zif_e, znot_e, z_add, z_sub, z_mul, z_and, z_or, z_xor, z_shl, z_shr, zcpy, -List.getElem?_cons_succ, zg_0, zg_1, zg_2, zg_3, zg_4, zg_5, zg_6, zg_7, zg_8, zg_9, zc_lt, zc_le, zc_gt, zc_ge, zc_eq, zc_ne, zc_lt0, zc_ge0, zc_gt0, zc_eq0, zc_ne0, zb_ne, zb_eq, zb_01, z_00, z_01, z_11, zb_f, zb_T, zb_F, zbm1, zbm2, zbm5, zbm6, zbm3, zbm4, nI_clamp, zmod_n, pk_div, nI_ne0, pk_mul, nI_add, nI_1, e4]; rfl, rfl, Or.inr ⟨v, rfl, q4⟩⟩) [some (Value.ref (32)), some (Value.int (nI t1)), some (Value.int (nI t2)), some (Value.int (nI n)), some (Value.int (nI 0)), none, none] M2 ⟨rfl, rfl, fun x y hx => absurd hx (Nat.not_lt_zero x)⟩
  exact ⟨r, ls, w1, w2⟩
theorem qM_agq {M : zM} {t1 t2 n u : Nat} {c D : tC} {g : Nat → Nat} (h1 : t1 < 5) (h2 : t2 < 5) (h8 : n ≤ 8) (hr : rT M t1 n c) (hf : tF n c) (hb : BJ n u g) (hg : ∀ k, k < n → M 36 k = nI (g k)) (hr2 : rT M t2 n D) (hD : tF n D) : ∃ v M', zf_M_against [.ref 32, .int (nI t1), .int (nI t2)] M = some (some v, M') ∧ F5 M M' ∧ ((xe_cd .eq v 0 = true ∧ HG n c D g) ∨ (xe_cd .eq v 0 = false ∧ ¬ HG n c D g)) := by
  obtain ⟨M1, e1, g1, k1⟩ := qM_ak1 (t2 := t2) h1 h2 hr hf h8 (fun k hk => ⟨hg k hk, hb.1 k hk⟩) hb.2.1
  have gA : ∀ k, k < n → gd ((List.range n).map g) k = g k := fun k hk => by
    rw [gd_map g (by rw [List.length_range]; exact hk), gd_rg hk]
  have lA : ((List.range n).map g).length = n := by rw [List.length_map, List.length_range]
  have nA : ((List.range n).map g).Nodup := nd_gd (fun i j a b e => by
    rw [lA] at a b
    rw [gA i a, gA j b] at e
    exact hb.2.1 i j a b e)
  have mA : ∀ x, x < n → x ∈ (List.range n).map g := fun x hx => nd_all nA lA (fun y hy => by
    obtain ⟨k, q1, q2⟩ := List.mem_map.mp hy
    rw [← q2]
    exact hb.1 k (List.mem_range.mp q1)) hx
  have iA : ∀ x, x < n → px ((List.range n).map g) x < n ∧ g (px ((List.range n).map g) x) = x := fun x hx => by
    obtain ⟨a, b⟩ := px_mem (mA x hx)
    rw [lA] at a
    rw [gA _ a] at b
    exact ⟨a, b⟩
  have jA : ∀ x, x < n → px ((List.range n).map g) (g x) = x := fun x hx => by
    have := px_get (l := (List.range n).map g) (i := x) nA (by rw [lA]; exact hx)
    rw [gA x hx] at this
    exact this
  generalize (List.range n).map g = A at iA jA
  have g2 : F5 M (zup M1 33 5 (nI n)) := fun q j z1 z2 => by
    rw [zup_e, if_neg z1]
    exact g1 q j z1 z2
  have hE : tF n (fun a b => g (c (px A a) (px A b))) := fun a b ha hb' => hb.1 _ (hf _ _ (iA a ha).1 (iA b hb').1)
  have r5 : rT (zup M1 33 5 (nI n)) 5 n (fun a b => g (c (px A a) (px A b))) := ⟨by rw [zup_e, if_pos ⟨rfl, rfl⟩], fun a b ha hb' => by
    have k := k1 _ _ (iA a ha).1 (iA b hb').1 (Or.inl (iA a ha).1)
    rw [(iA a ha).2, (iA b hb').2] at k
    have f8 : g (c (px A a) (px A b)) < n := hE a b ha hb'
    show _ = zcl (-4) (g (c (px A a) (px A b)))
    rw [zup_e, if_neg (by omega), zcl_lt (by omega)]
    exact k⟩
  have r2 := g2.rT h2 h8 hr2
  have iff : tq n (fun a b => g (c (px A a) (px A b))) D ↔ HG n c D g := by
    constructor
    · intro h x y hx hy
      have := h _ _ (hb.1 x hx) (hb.1 y hy)
      simp only [jA x hx, jA y hy] at this
      exact this
    · intro h a b ha hb'
      have := h _ _ (iA a ha).1 (iA b hb').1
      rw [(iA a ha).2, (iA b hb').2] at this
      exact this
  obtain ⟨r, ls, w1, w2⟩ := qM_ag34 (t1 := t1) h1 h2 h8 r5 r2 hE hD
  have zn1 := hr.1
  rcases w2 with ⟨rfl, rfl, w2⟩ | ⟨v, rfl, w3, w2⟩
  · exact ⟨nI 0, _, by simp (disch := omega) [zf_M_against, zmeth, xm_en, zret, zretz, zretv, zseq, zst, zinc, zkl, zskip, zk, zi, za, zbin, zdiv, zrem, zgi, zgr, zld, zldr, zlen, zn, zc, zcall, zcallv, zrcv, zdo, zdov, zpf, zpfc, zas, zasc, zmin, zmax, zcmp, zcz, zand_e, zor_e, zite_e, zbite_e, zif_e, znot_e, z_add, z_sub, z_mul, z_and, z_or, z_xor, z_shl, z_shr, zcpy, -List.getElem?_cons_succ, zg_0, zg_1, zg_2, zg_3, zg_4, zg_5, zg_6, zg_7, zg_8, zg_9, zt_0, zt_12, zt_20, zt_26, zt_32, zf_0_0, zf_0_1, zf_0_2, zf_0_3, zf_0_4, zf_12_0, zf_12_1, zf_12_2, zf_12_4, zf_12_5, zf_20_1, zf_20_2, zf_20_3, zf_20_4, zf_20_6, zf_26_0, zf_26_1, zf_26_2, zf_26_3, zf_32_0, zf_32_1, zf_32_3, zf_32_4, zf_32_5, zf_32_6, zi_33, nI_clamp, zn1, e1, w1], g2, Or.inl ⟨by decide, iff.mp w2⟩⟩
  · exact ⟨v, _, by simp (disch := omega) [zf_M_against, zmeth, xm_en, zret, zretz, zretv, zseq, zst, zinc, zkl, zskip, zk, zi, za, zbin, zdiv, zrem, zgi, zgr, zld, zldr, zlen, zn, zc, zcall, zcallv, zrcv, zdo, zdov, zpf, zpfc, zas, zasc, zmin, zmax, zcmp, zcz, zand_e, zor_e, zite_e, zbite_e, zif_e, znot_e, z_add, z_sub, z_mul, z_and, z_or, z_xor, z_shl, z_shr, zcpy, -List.getElem?_cons_succ, zg_0, zg_1, zg_2, zg_3, zg_4, zg_5, zg_6, zg_7, zg_8, zg_9, zt_0, zt_12, zt_20, zt_26, zt_32, zf_0_0, zf_0_1, zf_0_2, zf_0_3, zf_0_4, zf_12_0, zf_12_1, zf_12_2, zf_12_4, zf_12_5, zf_20_1, zf_20_2, zf_20_3, zf_20_4, zf_20_6, zf_26_0, zf_26_1, zf_26_2, zf_26_3, zf_32_0, zf_32_1, zf_32_3, zf_32_4, zf_32_5, zf_32_6, zi_33, nI_clamp, zn1, e1, w1], g2, Or.inr ⟨w3, fun z => w2 (iff.mpr z)⟩⟩
theorem qM_isAlikeF {M : zM} {t1 t2 n u : Nat} {c D : tC} (h1 : t1 < 5) (h2 : t2 < 5) (hr : rT M t1 n c) (hf : tF n c) (hr2 : rT M t2 n D) (hD : tF n D) (h8 : n ≤ 8) (hu : u < n) : ∃ (b : Bool) (M' : zM), zf_M_isAlike [.ref 32, .int (nI t1), .int (nI u), .int (nI t2)] M = some (some (zb b), M') ∧ F6 M M' ∧ (b = true ↔ AL n u c D) := by
  have es : nI n - nI 1 = nI (n - 1) := pk_sub (by omega)
  have fb := fa_le (n - 1) (by omega)
  have fc : ∀ M', zf_M_factorial [.int (nI (n - 1))] M' = some (some (nI (fa (n - 1))), M') := fun M' => qM_factorial (by omega)
  obtain ⟨r, ls, M', w1, w2, w3⟩ := zwh_inv (c := zc_M_isAlike_1) (s := zs_M_isAlike_1) (fun k ls M' => F6 M M' ∧ ls = [some (Value.ref (32)), some (Value.int (nI t1)), some (Value.int (nI u)), some (Value.int (nI t2)), some (Value.int (nI k))] ∧ ∀ g, BJ n u g → num u g n 0 1 (n - 1) < k → ¬ HG n c D g) (Q := fun r ls M' => F6 M M' ∧ ((r = none ∧ ls = [some (Value.ref (32)), some (Value.int (nI t1)), some (Value.int (nI u)), some (Value.int (nI t2)), some (Value.int (nI (fa (n - 1))))] ∧ ∀ g, BJ n u g → num u g n 0 1 (n - 1) < fa (n - 1) → ¬ HG n c D g) ∨ (r = some (some (nI 1)) ∧ ∃ g, BJ n u g ∧ HG n c D g))) (n := fa (n - 1)) (fun ls M' q => by
      obtain ⟨q, rfl, q2⟩ := q
      have z := (q.rT h1 h8 hr).1
      exact ⟨by simp (disch := omega) [zc_M_isAlike_1, zmeth, xm_en, zret, zretz, zretv, zseq, zst, zinc, zkl, zskip, zk, zi, za, zbin, zdiv, zrem, zgi, zgr, zld, zldr, zlen, zn, zc, zcall, zcallv, zrcv, zdo, zdov, zpf, zpfc, zas, zasc, zmin, zmax, zcmp, zcz, zand_e, zor_e, zite_e, zbite_e, zif_e, znot_e, z_add, z_sub, z_mul, z_and, z_or, z_xor, z_shl, z_shr, zcpy, -List.getElem?_cons_succ, zg_0, zg_1, zg_2, zg_3, zg_4, zg_5, zg_6, zg_7, zg_8, zg_9, zc_lt, zc_le, zc_gt, zc_ge, zc_eq, zc_ne, zc_lt0, zc_ge0, zc_gt0, zc_eq0, zc_ne0, zb_ne, zb_eq, zb_01, z_00, z_01, z_11, zb_f, zb_T, zb_F, zbm1, zbm2, zbm5, zbm6, zbm3, zbm4, nI_clamp, zmod_n, pk_div, nI_ne0, pk_mul, nI_add, nI_1, zt_0, zt_12, zt_20, zt_26, zt_32, zf_0_0, zf_0_1, zf_0_2, zf_0_3, zf_0_4, zf_12_0, zf_12_1, zf_12_2, zf_12_4, zf_12_5, zf_20_1, zf_20_2, zf_20_3, zf_20_4, zf_20_6, zf_26_0, zf_26_1, zf_26_2, zf_26_3, zf_32_0, zf_32_1, zf_32_3, zf_32_4, zf_32_5, zf_32_6, zi_33, z, es, fc], q, Or.inl ⟨rfl, rfl, q2⟩⟩) (fa (n - 1)) 0 (by omega) (fun k ls M' _ hk q => by
      obtain ⟨q, rfl, q2⟩ := q
      have z := q.rT h1 h8 hr
      have z1 := z.1
      refine ⟨by simp (disch := omega) [zc_M_isAlike_1, zmeth, xm_en, zret, zretz, zretv, zseq, zst, zinc, zkl, zskip, zk, zi, za, zbin, zdiv, zrem, zgi, zgr, zld, zldr, zlen, zn, zc, zcall, zcallv, zrcv, zdo, zdov, zpf, zpfc, zas, zasc, zmin, zmax, zcmp, zcz, zand_e, zor_e, zite_e, zbite_e, zif_e, znot_e, z_add, z_sub, z_mul, z_and, z_or, z_xor, z_shl, z_shr, zcpy, -List.getElem?_cons_succ, zg_0, zg_1, zg_2, zg_3, zg_4, zg_5, zg_6, zg_7, zg_8, zg_9, zc_lt, zc_le, zc_gt, zc_ge, zc_eq, zc_ne, zc_lt0, zc_ge0, zc_gt0, zc_eq0, zc_ne0, zb_ne, zb_eq, zb_01, z_00, z_01, z_11, zb_f, zb_T, zb_F, zbm1, zbm2, zbm5, zbm6, zbm3, zbm4, nI_clamp, zmod_n, pk_div, nI_ne0, pk_mul, nI_add, nI_1, zt_0, zt_12, zt_20, zt_26, zt_32, zf_0_0, zf_0_1, zf_0_2, zf_0_3, zf_0_4, zf_12_0, zf_12_1, zf_12_2, zf_12_4, zf_12_5, zf_20_1, zf_20_2, zf_20_3, zf_20_4, zf_20_6, zf_26_0, zf_26_1, zf_26_2, zf_26_3, zf_32_0, zf_32_1, zf_32_3, zf_32_4, zf_32_5, zf_32_6, zi_33, z1, es, fc, hk], ?_⟩
      obtain ⟨g, gb, gn, gr⟩ := rg_1 h8 hu k hk
      obtain ⟨M1, e1, i1, s1⟩ := gr M'
      have q1 : F6 M M1 := fun q' j a b d => (s1 q' j a).trans (q q' j a b d)
      obtain ⟨v, M2, e2, f2, o2⟩ := qM_agq (t2 := t2) h1 h2 h8 (q1.rT h1 h8 hr) hf gb i1 (q1.rT h2 h8 hr2) hD
      have q3 : F6 M M2 := fun q' j a b d => (f2 q' j b d).trans (q1 q' j a b d)
      rcases o2 with ⟨hb, o⟩ | ⟨hb, o⟩
      · exact ⟨some (some (nI 1)), _, M2, by simp (disch := omega) [zs_M_isAlike_1, zmeth, xm_en, zret, zretz, zretv, zseq, zst, zinc, zkl, zskip, zk, zi, za, zbin, zdiv, zrem, zgi, zgr, zld, zldr, zlen, zn, zc, zcall, zcallv, zrcv, zdo, zdov, zpf, zpfc, zas, zasc, zmin, zmax, zcmp, zcz, zand_e, zor_e, zite_e, zbite_e, zif_e, znot_e, z_add, z_sub, z_mul, z_and, z_or, z_xor, z_shl, z_shr, zcpy, -List.getElem?_cons_succ, zg_0, zg_1, zg_2, zg_3, zg_4, zg_5, zg_6, zg_7, zg_8, zg_9, nI_1, nI_clamp, zt_0, zt_12, zt_20, zt_26, zt_32, zf_0_0, zf_0_1, zf_0_2, zf_0_3, zf_0_4, zf_12_0, zf_12_1, zf_12_2, zf_12_4, zf_12_5, zf_20_1, zf_20_2, zf_20_3, zf_20_4, zf_20_6, zf_26_0, zf_26_1, zf_26_2, zf_26_3, zf_32_0, zf_32_1, zf_32_3, zf_32_4, zf_32_5, zf_32_6, zi_33, z1, e1, e2, hb]; rfl, q3, Or.inr ⟨rfl, g, gb, o⟩⟩
      · exact ⟨none, _, M2, by simp (disch := omega) [zs_M_isAlike_1, zmeth, xm_en, zret, zretz, zretv, zseq, zst, zinc, zkl, zskip, zk, zi, za, zbin, zdiv, zrem, zgi, zgr, zld, zldr, zlen, zn, zc, zcall, zcallv, zrcv, zdo, zdov, zpf, zpfc, zas, zasc, zmin, zmax, zcmp, zcz, zand_e, zor_e, zite_e, zbite_e, zif_e, znot_e, z_add, z_sub, z_mul, z_and, z_or, z_xor, z_shl, z_shr, zcpy, -List.getElem?_cons_succ, zg_0, zg_1, zg_2, zg_3, zg_4, zg_5, zg_6, zg_7, zg_8, zg_9, nI_1, nI_clamp, zt_0, zt_12, zt_20, zt_26, zt_32, zf_0_0, zf_0_1, zf_0_2, zf_0_3, zf_0_4, zf_12_0, zf_12_1, zf_12_2, zf_12_4, zf_12_5, zf_20_1, zf_20_2, zf_20_3, zf_20_4, zf_20_6, zf_26_0, zf_26_1, zf_26_2, zf_26_3, zf_32_0, zf_32_1, zf_32_3, zf_32_4, zf_32_5, zf_32_6, zi_33, z1, e1, e2, hb], q3, rfl, fun g' b' n' w => by
          by_cases e : num u g' n 0 1 (n - 1) = k
          · exact o (HG_c hf (num_bj h8 hu b' gb (e.trans gn.symm)) w)
          · exact q2 g' b' (by omega) w⟩) [some (Value.ref (32)), some (Value.int (nI t1)), some (Value.int (nI u)), some (Value.int (nI t2)), some (Value.int (nI 0))] M ⟨fun _ _ _ _ _ => rfl, rfl, fun g _ z => absurd z (Nat.not_lt_zero _)⟩
  rcases w3 with ⟨rfl, rfl, w3⟩ | ⟨rfl, g, g1, g2⟩
  · exact ⟨false, M', by simp (disch := omega) [zf_M_isAlike, zmeth, xm_en, zret, zretz, zretv, zseq, zst, zinc, zkl, zskip, zk, zi, za, zbin, zdiv, zrem, zgi, zgr, zld, zldr, zlen, zn, zc, zcall, zcallv, zrcv, zdo, zdov, zpf, zpfc, zas, zasc, zmin, zmax, zcmp, zcz, zand_e, zor_e, zite_e, zbite_e, zif_e, znot_e, z_add, z_sub, z_mul, z_and, z_or, z_xor, z_shl, z_shr, zcpy, -List.getElem?_cons_succ, zg_0, zg_1, zg_2, zg_3, zg_4, zg_5, zg_6, zg_7, zg_8, zg_9, w1]; rfl, w2, fun z => by (cases z), fun ⟨g, a, b, d, e⟩ => absurd e (w3 g ⟨a, b, d⟩ (num_lt (n := n) n 0 1 (n - 1) (by omega) (c01 h8) (FRE_bj hu ⟨a, b, d⟩)))⟩
  · exact ⟨true, M', by simp (disch := omega) [zf_M_isAlike, zmeth, xm_en, zret, zretz, zretv, zseq, zst, zinc, zkl, zskip, zk, zi, za, zbin, zdiv, zrem, zgi, zgr, zld, zldr, zlen, zn, zc, zcall, zcallv, zrcv, zdo, zdov, zpf, zpfc, zas, zasc, zmin, zmax, zcmp, zcz, zand_e, zor_e, zite_e, zbite_e, zif_e, znot_e, z_add, z_sub, z_mul, z_and, z_or, z_xor, z_shl, z_shr, zcpy, -List.getElem?_cons_succ, zg_0, zg_1, zg_2, zg_3, zg_4, zg_5, zg_6, zg_7, zg_8, zg_9, w1]; rfl, w2, fun _ => ⟨g, g1.1, g1.2.1, g1.2.2, g2⟩, fun _ => rfl⟩
theorem qM_al2F {M0 M : zM} {z : Int32} {s t n a : Nat} {c D : tC} (hs : s < 4) (ht : t < 4) (hr : rT M0 s n c) (ho : tO n c) (hf : tF n c) (hr2 : rT M0 t n D) (hD : tF n D) (h8 : n ≤ 8) (ha : a < n) (h : F7 M0 M) : ∃ r ls M', zwh zc_M_alike_2 zs_M_alike_2 [some (Value.ref (32)), some (Value.int (nI s)), some (Value.int (nI t)), some (Value.int (z)), some (Value.int (nI n)), some (Value.int (nI a)), some (Value.int (nI 0)), none, none] M = some (r, ls, M') ∧ F7 M0 M' ∧ ((r = none ∧ ls = [some (Value.ref (32)), some (Value.int (nI s)), some (Value.int (nI t)), some (Value.int (z)), some (Value.int (nI n)), some (Value.int (nI a)), some (Value.int (nI n)), none, none] ∧ ∀ b, b < n → ¬ AL n (c a b) (ri c n a b) D) ∨ (r = some (some (nI 1)) ∧ ∃ b, b < n ∧ AL n (c a b) (ri c n a b) D)) :=
  zwh_inv (c := zc_M_alike_2) (s := zs_M_alike_2) (fun b ls M' => F7 M0 M' ∧ ls = [some (Value.ref (32)), some (Value.int (nI s)), some (Value.int (nI t)), some (Value.int (z)), some (Value.int (nI n)), some (Value.int (nI a)), some (Value.int (nI b)), none, none] ∧ ∀ b', b' < b → ¬ AL n (c a b') (ri c n a b') D) (Q := fun r ls M' => F7 M0 M' ∧ ((r = none ∧ ls = [some (Value.ref (32)), some (Value.int (nI s)), some (Value.int (nI t)), some (Value.int (z)), some (Value.int (nI n)), some (Value.int (nI a)), some (Value.int (nI n)), none, none] ∧ ∀ b, b < n → ¬ AL n (c a b) (ri c n a b) D) ∨ (r = some (some (nI 1)) ∧ ∃ b, b < n ∧ AL n (c a b) (ri c n a b) D))) (n := n) (fun ls M' q => by
      obtain ⟨q, rfl, q2⟩ := q
      exact ⟨by simp (disch := omega) [zc_M_alike_2, zmeth, xm_en, zret, zretz, zretv, zseq, zst, zinc, zkl, zskip, zk, zi, za, zbin, zdiv, zrem, zgi, zgr, zld, zldr, zlen, zn, zc, zcall, zcallv, zrcv, zdo, zdov, zpf, zpfc, zas, zasc, zmin, zmax, zcmp, zcz, zand_e, zor_e, zite_e, zbite_e, zif_e, znot_e, z_add, z_sub, z_mul, z_and, z_or, z_xor, z_shl, z_shr, zcpy, -List.getElem?_cons_succ, zg_0, zg_1, zg_2, zg_3, zg_4, zg_5, zg_6, zg_7, zg_8, zg_9, zc_lt, zc_le, zc_gt, zc_ge, zc_eq, zc_ne, zc_lt0, zc_ge0, zc_gt0, zc_eq0, zc_ne0, zb_ne, zb_eq, zb_01, z_00, z_01, z_11, zb_f, zb_T, zb_F, zbm1, zbm2, zbm5, zbm6, zbm3, zbm4, nI_clamp, zmod_n, pk_div, nI_ne0, pk_mul, nI_add, nI_1], q, Or.inl ⟨rfl, rfl, q2⟩⟩) n 0 (by omega) (fun b ls M' _ hb q => by
      obtain ⟨q, rfl, q2⟩ := q
      refine ⟨by simp (disch := omega) [zc_M_alike_2, zmeth, xm_en, zret, zretz, zretv, zseq, zst, zinc, zkl, zskip, zk, zi, za, zbin, zdiv, zrem, zgi, zgr, zld, zldr, zlen, zn, zc, zcall, zcallv, zrcv, zdo, zdov, zpf, zpfc, zas, zasc, zmin, zmax, zcmp, zcz, zand_e, zor_e, zite_e, zbite_e, zif_e, znot_e, z_add, z_sub, z_mul, z_and, z_or, z_xor, z_shl, z_shr, zcpy, -List.getElem?_cons_succ, zg_0, zg_1, zg_2, zg_3, zg_4, zg_5, zg_6, zg_7, zg_8, zg_9, zc_lt, zc_le, zc_gt, zc_ge, zc_eq, zc_ne, zc_lt0, zc_ge0, zc_gt0, zc_eq0, zc_ne0, zb_ne, zb_eq, zb_01, z_00, z_01, z_11, zb_f, zb_T, zb_F, zbm1, zbm2, zbm5, zbm6, zbm3, zbm4, nI_clamp, zmod_n, pk_div, nI_ne0, pk_mul, nI_add, nI_1, hb], ?_⟩
      have g0 : G4 M0 c n a b 0 0 (zup M' 33 4 (nI n)) := ⟨fun q' j a1 a2 a3 => by
        rw [zup_e, if_neg (by omega)]
        exact q q' j a1 a2 a3, by rw [zup_e, if_pos ⟨rfl, rfl⟩], fun x' y' _ _ a3 => by omega⟩
      obtain ⟨M2, e2, f2, r2⟩ := qM_al3 (z := z) (t := t) hs hr ho hf h8 ha hb g0
      have m := qM_mul (show s < 6 by omega) (f2.rT hs h8 hr) h8 hf ha hb
      obtain ⟨v, M3, e3, f3, i3⟩ := qM_isAlikeF (t2 := t) (u := c a b) (show 4 < 5 by omega) (by omega) r2 (ri_F ho hf ha hb) (f2.rT ht h8 hr2) hD h8 (hf a b ha hb)
      have q3 : F7 M0 M3 := fun q' j a1 a2 a3 => (f3 q' j a1 (by omega) (by omega)).trans (f2 q' j a1 a2 a3)
      cases v with
      | false => exact ⟨none, _, M3, by simp (disch := omega) [zs_M_alike_2, zmeth, xm_en, zret, zretz, zretv, zseq, zst, zinc, zkl, zskip, zk, zi, za, zbin, zdiv, zrem, zgi, zgr, zld, zldr, zlen, zn, zc, zcall, zcallv, zrcv, zdo, zdov, zpf, zpfc, zas, zasc, zmin, zmax, zcmp, zcz, zand_e, zor_e, zite_e, zbite_e, zif_e, znot_e, z_add, z_sub, z_mul, z_and, z_or, z_xor, z_shl, z_shr, zcpy, -List.getElem?_cons_succ, zg_0, zg_1, zg_2, zg_3, zg_4, zg_5, zg_6, zg_7, zg_8, zg_9, zc_lt, zc_le, zc_gt, zc_ge, zc_eq, zc_ne, zc_lt0, zc_ge0, zc_gt0, zc_eq0, zc_ne0, zb_ne, zb_eq, zb_01, z_00, z_01, z_11, zb_f, zb_T, zb_F, zbm1, zbm2, zbm5, zbm6, zbm3, zbm4, nI_clamp, zmod_n, pk_div, nI_ne0, pk_mul, nI_add, nI_1, zt_0, zt_12, zt_20, zt_26, zt_32, zf_0_0, zf_0_1, zf_0_2, zf_0_3, zf_0_4, zf_12_0, zf_12_1, zf_12_2, zf_12_4, zf_12_5, zf_20_1, zf_20_2, zf_20_3, zf_20_4, zf_20_6, zf_26_0, zf_26_1, zf_26_2, zf_26_3, zf_32_0, zf_32_1, zf_32_3, zf_32_4, zf_32_5, zf_32_6, zi_33, e2, m, e3], q3, rfl, fun b' hb' w => by
          by_cases e : b' = b
          · subst e
            have := i3.mpr w
            cases this
          · exact q2 b' (by omega) w⟩
      | true => exact ⟨some (some (nI 1)), _, M3, by simp (disch := omega) [zs_M_alike_2, zmeth, xm_en, zret, zretz, zretv, zseq, zst, zinc, zkl, zskip, zk, zi, za, zbin, zdiv, zrem, zgi, zgr, zld, zldr, zlen, zn, zc, zcall, zcallv, zrcv, zdo, zdov, zpf, zpfc, zas, zasc, zmin, zmax, zcmp, zcz, zand_e, zor_e, zite_e, zbite_e, zif_e, znot_e, z_add, z_sub, z_mul, z_and, z_or, z_xor, z_shl, z_shr, zcpy, -List.getElem?_cons_succ, zg_0, zg_1, zg_2, zg_3, zg_4, zg_5, zg_6, zg_7, zg_8, zg_9, zc_lt, zc_le, zc_gt, zc_ge, zc_eq, zc_ne, zc_lt0, zc_ge0, zc_gt0, zc_eq0, zc_ne0, zb_ne, zb_eq, zb_01, z_00, z_01, z_11, zb_f, zb_T, zb_F, zbm1, zbm2, zbm5, zbm6, zbm3, zbm4, nI_clamp, zmod_n, pk_div, nI_ne0, pk_mul, nI_add, nI_1, zt_0, zt_12, zt_20, zt_26, zt_32, zf_0_0, zf_0_1, zf_0_2, zf_0_3, zf_0_4, zf_12_0, zf_12_1, zf_12_2, zf_12_4, zf_12_5, zf_20_1, zf_20_2, zf_20_3, zf_20_4, zf_20_6, zf_26_0, zf_26_1, zf_26_2, zf_26_3, zf_32_0, zf_32_1, zf_32_3, zf_32_4, zf_32_5, zf_32_6, zi_33, e2, m, e3]; rfl, q3, Or.inr ⟨rfl, b, hb, i3.mp rfl⟩⟩) _ M ⟨h, rfl, fun b' hb' => absurd hb' (Nat.not_lt_zero b')⟩
theorem qM_al1F {M0 : zM} {z : Int32} {s t n : Nat} {c D : tC} (hs : s < 4) (ht : t < 4) (hr : rT M0 s n c) (ho : tO n c) (hf : tF n c) (hr2 : rT M0 t n D) (hD : tF n D) (h8 : n ≤ 8) : ∃ r ls M', zwh zc_M_alike_1 zs_M_alike_1 [some (Value.ref (32)), some (Value.int (nI s)), some (Value.int (nI t)), some (Value.int (z)), some (Value.int (nI n)), some (Value.int (nI 0)), none, none, none] M0 = some (r, ls, M') ∧ F7 M0 M' ∧ ((r = none ∧ ls = [some (Value.ref (32)), some (Value.int (nI s)), some (Value.int (nI t)), some (Value.int (z)), some (Value.int (nI n)), some (Value.int (nI n)), none, none, none] ∧ ∀ a b, a < n → b < n → ¬ AL n (c a b) (ri c n a b) D) ∨ (r = some (some (nI 1)) ∧ ∃ a b, a < n ∧ b < n ∧ AL n (c a b) (ri c n a b) D)) :=
  zwh_inv (c := zc_M_alike_1) (s := zs_M_alike_1) (fun b ls M' => F7 M0 M' ∧ ls = [some (Value.ref (32)), some (Value.int (nI s)), some (Value.int (nI t)), some (Value.int (z)), some (Value.int (nI n)), some (Value.int (nI b)), none, none, none] ∧ ∀ a b', a < b → b' < n → ¬ AL n (c a b') (ri c n a b') D) (Q := fun r ls M' => F7 M0 M' ∧ ((r = none ∧ ls = [some (Value.ref (32)), some (Value.int (nI s)), some (Value.int (nI t)), some (Value.int (z)), some (Value.int (nI n)), some (Value.int (nI n)), none, none, none] ∧ ∀ a b, a < n → b < n → ¬ AL n (c a b) (ri c n a b) D) ∨ (r = some (some (nI 1)) ∧ ∃ a b, a < n ∧ b < n ∧ AL n (c a b) (ri c n a b) D))) (n := n) (fun ls M' q => by
      obtain ⟨q, rfl, q2⟩ := q
      exact ⟨by simp (disch := omega) [zc_M_alike_1, zmeth, xm_en, zret, zretz, zretv, zseq, zst, zinc, zkl, zskip, zk, zi, za, zbin, zdiv, zrem, zgi, zgr, zld, zldr, zlen, zn, zc, zcall, zcallv, zrcv, zdo, zdov, zpf, zpfc, zas, zasc, zmin, zmax, zcmp, zcz, zand_e, zor_e, zite_e, zbite_e, zif_e, znot_e, z_add, z_sub, z_mul, z_and, z_or, z_xor, z_shl, z_shr, zcpy, -List.getElem?_cons_succ, zg_0, zg_1, zg_2, zg_3, zg_4, zg_5, zg_6, zg_7, zg_8, zg_9, zc_lt, zc_le, zc_gt, zc_ge, zc_eq, zc_ne, zc_lt0, zc_ge0, zc_gt0, zc_eq0, zc_ne0, zb_ne, zb_eq, zb_01, z_00, z_01, z_11, zb_f, zb_T, zb_F, zbm1, zbm2, zbm5, zbm6, zbm3, zbm4, nI_clamp, zmod_n, pk_div, nI_ne0, pk_mul, nI_add, nI_1], q, Or.inl ⟨rfl, rfl, q2⟩⟩) n 0 (by omega) (fun b ls M' _ hb q => by
      obtain ⟨q, rfl, q2⟩ := q
      refine ⟨by simp (disch := omega) [zc_M_alike_1, zmeth, xm_en, zret, zretz, zretv, zseq, zst, zinc, zkl, zskip, zk, zi, za, zbin, zdiv, zrem, zgi, zgr, zld, zldr, zlen, zn, zc, zcall, zcallv, zrcv, zdo, zdov, zpf, zpfc, zas, zasc, zmin, zmax, zcmp, zcz, zand_e, zor_e, zite_e, zbite_e, zif_e, znot_e, z_add, z_sub, z_mul, z_and, z_or, z_xor, z_shl, z_shr, zcpy, -List.getElem?_cons_succ, zg_0, zg_1, zg_2, zg_3, zg_4, zg_5, zg_6, zg_7, zg_8, zg_9, zc_lt, zc_le, zc_gt, zc_ge, zc_eq, zc_ne, zc_lt0, zc_ge0, zc_gt0, zc_eq0, zc_ne0, zb_ne, zb_eq, zb_01, z_00, z_01, z_11, zb_f, zb_T, zb_F, zbm1, zbm2, zbm5, zbm6, zbm3, zbm4, nI_clamp, zmod_n, pk_div, nI_ne0, pk_mul, nI_add, nI_1, hb], ?_⟩
      obtain ⟨r, ls, M2, e2, f2, ⟨rfl, rfl, o⟩ | ⟨rfl, b', o1, o2⟩⟩ := qM_al2F (z := z) hs ht hr ho hf hr2 hD h8 hb q
      · exact ⟨none, _, M2, by simp (disch := omega) [zs_M_alike_1, zmeth, xm_en, zret, zretz, zretv, zseq, zst, zinc, zkl, zskip, zk, zi, za, zbin, zdiv, zrem, zgi, zgr, zld, zldr, zlen, zn, zc, zcall, zcallv, zrcv, zdo, zdov, zpf, zpfc, zas, zasc, zmin, zmax, zcmp, zcz, zand_e, zor_e, zite_e, zbite_e, zif_e, znot_e, z_add, z_sub, z_mul, z_and, z_or, z_xor, z_shl, z_shr, zcpy, -List.getElem?_cons_succ, zg_0, zg_1, zg_2, zg_3, zg_4, zg_5, zg_6, zg_7, zg_8, zg_9, zc_lt, zc_le, zc_gt, zc_ge, zc_eq, zc_ne, zc_lt0, zc_ge0, zc_gt0, zc_eq0, zc_ne0, zb_ne, zb_eq, zb_01, z_00, z_01, z_11, zb_f, zb_T, zb_F, zbm1, zbm2, zbm5, zbm6, zbm3, zbm4, nI_clamp, zmod_n, pk_div, nI_ne0, pk_mul, nI_add, nI_1, e2], f2, rfl, fun a b' ha hb' => by
          by_cases e : a = b
          · subst e
            exact o b' hb'
          · exact q2 a b' (by omega) hb'⟩
      · exact ⟨some (some (nI 1)), _, M2, by simp (disch := omega) [zs_M_alike_1, zmeth, xm_en, zret, zretz, zretv, zseq, zst, zinc, zkl, zskip, zk, zi, za, zbin, zdiv, zrem, zgi, zgr, zld, zldr, zlen, zn, zc, zcall, zcallv, zrcv, zdo, zdov, zpf, zpfc, zas, zasc, zmin, zmax, zcmp, zcz, zand_e, zor_e, zite_e, zbite_e, zif_e, znot_e, z_add, z_sub, z_mul, z_and, z_or, z_xor, z_shl, z_shr, zcpy, -List.getElem?_cons_succ, zg_0, zg_1, zg_2, zg_3, zg_4, zg_5, zg_6, zg_7, zg_8, zg_9, zc_lt, zc_le, zc_gt, zc_ge, zc_eq, zc_ne, zc_lt0, zc_ge0, zc_gt0, zc_eq0, zc_ne0, zb_ne, zb_eq, zb_01, z_00, z_01, z_11, zb_f, zb_T, zb_F, zbm1, zbm2, zbm5, zbm6, zbm3, zbm4, nI_clamp, zmod_n, pk_div, nI_ne0, pk_mul, nI_add, nI_1, e2]; rfl, f2, Or.inr ⟨rfl, b, b', hb, o1, o2⟩⟩) _ M0 ⟨fun _ _ _ _ _ => rfl, rfl, fun a b' ha => absurd ha (Nat.not_lt_zero a)⟩
/-! alike: both answers -/
noncomputable def dP (p : Prop) : Bool := @decide p (Classical.propDecidable p)
theorem dP_b {b : Bool} {p : Prop} (h : b = true ↔ p) : b = dP p := by
  unfold dP
  cases b with
  | false => exact (@decide_eq_false p (Classical.propDecidable p) (fun z => by have := h.mpr z; cases this)).symm
  | true => exact (@decide_eq_true p (Classical.propDecidable p) (h.mp rfl)).symm
/-- D is c under three namings -/
def AL3 (n : Nat) (c D : tC) : Prop := ∃ a b, a < n ∧ b < n ∧ AL n (c a b) (ri c n a b) D
noncomputable def aAk (T : tS) (x y z : Int32) : Int32 := bif zlt x 4 && zlt y 4 then (bif tB (T x.toNatClampNeg).1 (T x.toNatClampNeg).2 && tB (T y.toNatClampNeg).1 (T y.toNatClampNeg).2 then (bif xe_cd .ne z 0 && (decide (6 < (T x.toNatClampNeg).1) || decide (6 < (T y.toNatClampNeg).1)) then -2 else (bif decide ((T x.toNatClampNeg).1 = (T y.toNatClampNeg).1) then (bif xe_cd .ne z 0 then zb (dP (AL3 (T x.toNatClampNeg).1 (T x.toNatClampNeg).2 (T y.toNatClampNeg).2)) else zb (dP (AL (T x.toNatClampNeg).1 0 (T x.toNatClampNeg).2 (T y.toNatClampNeg).2))) else nI 0)) else -2) else -1
theorem qL_alikeF {T : tS} {M : zM} (x y z : Int32) (hC : CS T M) (hT : TO T) : ∃ M', zf_L_alike [.ref 0, .int x, .int y, .int z] M = some (some (aAk T x y z), M') ∧ zsc M M' := by
  rcases z3 x (n := 4) (by decide) with h | ⟨s, hs, rfl⟩
  · refine ⟨M, ?_, zsc.refl M⟩
    simp [zf_L_alike, zmeth, xm_en, zret, zretz, zretv, zseq, zst, zinc, zkl, zskip, zk, zi, za, zbin, zdiv, zrem, zgi, zgr, zld, zldr, zlen, zn, zc, zcall, zcallv, zrcv, zdo, zdov, zpf, zpfc, zas, zasc, zmin, zmax, zcmp, zcz, zand_e, zor_e, zite_e, zbite_e, zif_e, znot_e, z_add, z_sub, z_mul, z_and, z_or, z_xor, z_shl, z_shr, zcpy, -List.getElem?_cons_succ, zg_0, zg_1, zg_2, zg_3, zg_4, zg_5, zg_6, zg_7, zg_8, zg_9, qL_isTable, zb_ne, h, aAk]
  · have e := zlt_y hs (by decide)
    rcases z3 y (n := 4) (by decide) with h | ⟨t, ht, rfl⟩
    · refine ⟨M, ?_, zsc.refl M⟩
      simp [zf_L_alike, zmeth, xm_en, zret, zretz, zretv, zseq, zst, zinc, zkl, zskip, zk, zi, za, zbin, zdiv, zrem, zgi, zgr, zld, zldr, zlen, zn, zc, zcall, zcallv, zrcv, zdo, zdov, zpf, zpfc, zas, zasc, zmin, zmax, zcmp, zcz, zand_e, zor_e, zite_e, zbite_e, zif_e, znot_e, z_add, z_sub, z_mul, z_and, z_or, z_xor, z_shl, z_shr, zcpy, -List.getElem?_cons_succ, zg_0, zg_1, zg_2, zg_3, zg_4, zg_5, zg_6, zg_7, zg_8, zg_9, qL_isTable, zb_ne, e, h, aAk]
    · have e2 := zlt_y ht (by decide)
      have ct : (nI t).toNatClampNeg = t := nI_clamp (by omega)
      have cs : (nI s).toNatClampNeg = s := nI_clamp (by omega)
      have fs := qT_isFull (tb4 hs) (hC s hs) (hT s hs)
      have ft := qT_isFull (tb4 ht) (hC t ht) (hT t ht)
      have s8 := (hT s hs).1
      have t8 := (hT t ht).1
      have n1 := (hC s hs).1
      have n2 := (hC t ht).1
      cases hb : tB (T s).1 (T s).2 with
      | false =>
        rw [hb] at fs
        refine ⟨M, ?_, zsc.refl M⟩
        simp (disch := omega) [zf_L_alike, zmeth, xm_en, zret, zretz, zretv, zseq, zst, zinc, zkl, zskip, zk, zi, za, zbin, zdiv, zrem, zgi, zgr, zld, zldr, zlen, zn, zc, zcall, zcallv, zrcv, zdo, zdov, zpf, zpfc, zas, zasc, zmin, zmax, zcmp, zcz, zand_e, zor_e, zite_e, zbite_e, zif_e, znot_e, z_add, z_sub, z_mul, z_and, z_or, z_xor, z_shl, z_shr, zcpy, -List.getElem?_cons_succ, zg_0, zg_1, zg_2, zg_3, zg_4, zg_5, zg_6, zg_7, zg_8, zg_9, zt_0, zt_12, zt_20, zt_26, zt_32, zf_0_0, zf_0_1, zf_0_2, zf_0_3, zf_0_4, zf_12_0, zf_12_1, zf_12_2, zf_12_4, zf_12_5, zf_20_1, zf_20_2, zf_20_3, zf_20_4, zf_20_6, zf_26_0, zf_26_1, zf_26_2, zf_26_3, zf_32_0, zf_32_1, zf_32_3, zf_32_4, zf_32_5, zf_32_6, qL_isTable, zb_ne, e, e2, zi_1, zf_1, ct, cs, ztb_tag (tb4 ht), ztb_tag (tb4 hs), fs, aAk, hb]
      | true =>
        rw [hb] at fs
        cases hb2 : tB (T t).1 (T t).2 with
        | false =>
          rw [hb2] at ft
          refine ⟨M, ?_, zsc.refl M⟩
          simp (disch := omega) [zf_L_alike, zmeth, xm_en, zret, zretz, zretv, zseq, zst, zinc, zkl, zskip, zk, zi, za, zbin, zdiv, zrem, zgi, zgr, zld, zldr, zlen, zn, zc, zcall, zcallv, zrcv, zdo, zdov, zpf, zpfc, zas, zasc, zmin, zmax, zcmp, zcz, zand_e, zor_e, zite_e, zbite_e, zif_e, znot_e, z_add, z_sub, z_mul, z_and, z_or, z_xor, z_shl, z_shr, zcpy, -List.getElem?_cons_succ, zg_0, zg_1, zg_2, zg_3, zg_4, zg_5, zg_6, zg_7, zg_8, zg_9, zt_0, zt_12, zt_20, zt_26, zt_32, zf_0_0, zf_0_1, zf_0_2, zf_0_3, zf_0_4, zf_12_0, zf_12_1, zf_12_2, zf_12_4, zf_12_5, zf_20_1, zf_20_2, zf_20_3, zf_20_4, zf_20_6, zf_26_0, zf_26_1, zf_26_2, zf_26_3, zf_32_0, zf_32_1, zf_32_3, zf_32_4, zf_32_5, zf_32_6, qL_isTable, zb_ne, e, e2, zi_1, zf_1, ct, cs, ztb_tag (tb4 ht), ztb_tag (tb4 hs), fs, ft, aAk, hb, hb2]
        | true =>
          rw [hb2] at ft
          have hf := (tB_iff (hT s hs)).mp hb
          have hf2 := (tB_iff (hT t ht)).mp hb2
          cases hz : xe_cd .ne z 0 with
          | false =>
            obtain ⟨b, M1, e1, g1, i1⟩ := qR_areAlikeF (tb4 hs) (tb4 ht) (hC s hs) (hC t ht) s8.1 s8.2 t8.2 (hT s hs).2.1 (hT t ht).2.1 hf hf2
            have ea : aAk T (nI s) (nI t) z = zb b := by
              by_cases hn : (T s).1 = (T t).1
              · have : b = dP (AL (T s).1 0 (T s).2 (T t).2) := dP_b (i1.trans ⟨fun q => q.2, fun q => ⟨hn, q⟩⟩)
                rw [this]
                unfold aAk
                rw [ct, cs, e, e2, hb, hb2, hz, decide_eq_true hn]
                rfl
              · have : b = false := by
                  cases b with
                  | false => rfl
                  | true => exact absurd (i1.mp rfl).1 hn
                simp [aAk, e, e2, ct, cs, hb, hb2, hz, hn, this]
                rfl
            refine ⟨M1, ?_, fun q j hq => g1 q j (by omega)⟩
            rw [ea]
            simp (disch := omega) [zf_L_alike, zmeth, xm_en, zret, zretz, zretv, zseq, zst, zinc, zkl, zskip, zk, zi, za, zbin, zdiv, zrem, zgi, zgr, zld, zldr, zlen, zn, zc, zcall, zcallv, zrcv, zdo, zdov, zpf, zpfc, zas, zasc, zmin, zmax, zcmp, zcz, zand_e, zor_e, zite_e, zbite_e, zif_e, znot_e, z_add, z_sub, z_mul, z_and, z_or, z_xor, z_shl, z_shr, zcpy, -List.getElem?_cons_succ, zg_0, zg_1, zg_2, zg_3, zg_4, zg_5, zg_6, zg_7, zg_8, zg_9, zt_0, zt_12, zt_20, zt_26, zt_32, zf_0_0, zf_0_1, zf_0_2, zf_0_3, zf_0_4, zf_12_0, zf_12_1, zf_12_2, zf_12_4, zf_12_5, zf_20_1, zf_20_2, zf_20_3, zf_20_4, zf_20_6, zf_26_0, zf_26_1, zf_26_2, zf_26_3, zf_32_0, zf_32_1, zf_32_3, zf_32_4, zf_32_5, zf_32_6, qL_isTable, zb_ne, e, e2, zi_1, zf_1, ct, cs, ztb_tag (tb4 ht), ztb_tag (tb4 hs), fs, ft, hz, e1, zb_01]
            cases b <;> rfl
          | true =>
            by_cases h6 : 6 < (T s).1 ∨ 6 < (T t).1
            · refine ⟨M, ?_, zsc.refl M⟩
              have ea : aAk T (nI s) (nI t) z = -2 := by
                rcases h6 with h6 | h6 <;> simp [aAk, e, e2, ct, cs, hb, hb2, hz, h6]
              rw [ea]
              have mx : xe_cd .gt (if nI (T s).1 < nI (T t).1 then nI (T t).1 else nI (T s).1) (nI 6) = true := by
                by_cases q : (T s).1 < (T t).1
                · rw [if_pos ((nI_ltI (by omega) (by omega)).mpr q), zc_gt (by omega) (by omega), decide_eq_true_eq]
                  omega
                · rw [if_neg (fun w => q ((nI_ltI (by omega) (by omega)).mp w)), zc_gt (by omega) (by omega), decide_eq_true_eq]
                  omega
              simp (disch := omega) [zf_L_alike, zmeth, xm_en, zret, zretz, zretv, zseq, zst, zinc, zkl, zskip, zk, zi, za, zbin, zdiv, zrem, zgi, zgr, zld, zldr, zlen, zn, zc, zcall, zcallv, zrcv, zdo, zdov, zpf, zpfc, zas, zasc, zmin, zmax, zcmp, zcz, zand_e, zor_e, zite_e, zbite_e, zif_e, znot_e, z_add, z_sub, z_mul, z_and, z_or, z_xor, z_shl, z_shr, zcpy, -List.getElem?_cons_succ, zg_0, zg_1, zg_2, zg_3, zg_4, zg_5, zg_6, zg_7, zg_8, zg_9, zt_0, zt_12, zt_20, zt_26, zt_32, zf_0_0, zf_0_1, zf_0_2, zf_0_3, zf_0_4, zf_12_0, zf_12_1, zf_12_2, zf_12_4, zf_12_5, zf_20_1, zf_20_2, zf_20_3, zf_20_4, zf_20_6, zf_26_0, zf_26_1, zf_26_2, zf_26_3, zf_32_0, zf_32_1, zf_32_3, zf_32_4, zf_32_5, zf_32_6, qL_isTable, zb_ne, e, e2, zi_1, zf_1, ct, cs, ztb_tag (tb4 ht), ztb_tag (tb4 hs), fs, ft, hz, n1, n2, mx]
            · have mx : xe_cd .gt (if nI (T s).1 < nI (T t).1 then nI (T t).1 else nI (T s).1) (nI 6) = false := by
                by_cases q : (T s).1 < (T t).1
                · rw [if_pos ((nI_ltI (by omega) (by omega)).mpr q), zc_gt (by omega) (by omega), decide_eq_false_iff_not]
                  omega
                · rw [if_neg (fun w => q ((nI_ltI (by omega) (by omega)).mp w)), zc_gt (by omega) (by omega), decide_eq_false_iff_not]
                  omega
              have h6a : ¬ 6 < (T s).1 := by omega
              have h6b : ¬ 6 < (T t).1 := by omega
              obtain ⟨b, M1, e1, g1, i1⟩ := qR_threeF (tb4 hs) (tb4 ht) (by omega) (by omega) (hC s hs) (hC t ht) (hT s hs) (hT t ht) hf hf2
              have ea : aAk T (nI s) (nI t) z = zb b := by
                by_cases hn : (T s).1 = (T t).1
                · have : b = dP (AL3 (T s).1 (T s).2 (T t).2) := dP_b (i1.trans ⟨fun q => q.2, fun q => ⟨hn, q⟩⟩)
                  rw [this]
                  unfold aAk
                  rw [ct, cs, e, e2, hb, hb2, hz, decide_eq_true hn, decide_eq_false h6a, decide_eq_false h6b]
                  rfl
                · have : b = false := by
                    cases b with
                    | false => rfl
                    | true => exact absurd (i1.mp rfl).1 hn
                  simp [aAk, e, e2, ct, cs, hb, hb2, hz, hn, h6a, h6b, this]
                  rfl
              refine ⟨M1, ?_, fun q j hq => g1 q j (by omega) (by omega) (by omega)⟩
              rw [ea]
              simp (disch := omega) [zf_L_alike, zmeth, xm_en, zret, zretz, zretv, zseq, zst, zinc, zkl, zskip, zk, zi, za, zbin, zdiv, zrem, zgi, zgr, zld, zldr, zlen, zn, zc, zcall, zcallv, zrcv, zdo, zdov, zpf, zpfc, zas, zasc, zmin, zmax, zcmp, zcz, zand_e, zor_e, zite_e, zbite_e, zif_e, znot_e, z_add, z_sub, z_mul, z_and, z_or, z_xor, z_shl, z_shr, zcpy, -List.getElem?_cons_succ, zg_0, zg_1, zg_2, zg_3, zg_4, zg_5, zg_6, zg_7, zg_8, zg_9, zt_0, zt_12, zt_20, zt_26, zt_32, zf_0_0, zf_0_1, zf_0_2, zf_0_3, zf_0_4, zf_12_0, zf_12_1, zf_12_2, zf_12_4, zf_12_5, zf_20_1, zf_20_2, zf_20_3, zf_20_4, zf_20_6, zf_26_0, zf_26_1, zf_26_2, zf_26_3, zf_32_0, zf_32_1, zf_32_3, zf_32_4, zf_32_5, zf_32_6, qL_isTable, zb_ne, e, e2, zi_1, zf_1, ct, cs, ztb_tag (tb4 ht), ztb_tag (tb4 hs), fs, ft, hz, n1, n2, mx, e1, zb_01]
              cases b <;> rfl
theorem qM_alikeF {T : tS} {M : zM} (x y z : Int32) (hR : RS T M) (hT : TO T) : ∃ M', zf_M_alike [.ref 32, .int x, .int y, .int z] M = some (some (aAk T x y z), M') ∧ zsr M M' := by
  rcases z3 x (n := 4) (by decide) with h | ⟨s, hs, rfl⟩
  · refine ⟨M, ?_, zsr.refl M⟩
    simp [zf_M_alike, zmeth, xm_en, zret, zretz, zretv, zseq, zst, zinc, zkl, zskip, zk, zi, za, zbin, zdiv, zrem, zgi, zgr, zld, zldr, zlen, zn, zc, zcall, zcallv, zrcv, zdo, zdov, zpf, zpfc, zas, zasc, zmin, zmax, zcmp, zcz, zand_e, zor_e, zite_e, zbite_e, zif_e, znot_e, z_add, z_sub, z_mul, z_and, z_or, z_xor, z_shl, z_shr, zcpy, -List.getElem?_cons_succ, zg_0, zg_1, zg_2, zg_3, zg_4, zg_5, zg_6, zg_7, zg_8, zg_9, qM_isTable, zb_ne, h, aAk]
  · have e := zlt_y hs (by decide)
    rcases z3 y (n := 4) (by decide) with h | ⟨t, ht, rfl⟩
    · refine ⟨M, ?_, zsr.refl M⟩
      simp [zf_M_alike, zmeth, xm_en, zret, zretz, zretv, zseq, zst, zinc, zkl, zskip, zk, zi, za, zbin, zdiv, zrem, zgi, zgr, zld, zldr, zlen, zn, zc, zcall, zcallv, zrcv, zdo, zdov, zpf, zpfc, zas, zasc, zmin, zmax, zcmp, zcz, zand_e, zor_e, zite_e, zbite_e, zif_e, znot_e, z_add, z_sub, z_mul, z_and, z_or, z_xor, z_shl, z_shr, zcpy, -List.getElem?_cons_succ, zg_0, zg_1, zg_2, zg_3, zg_4, zg_5, zg_6, zg_7, zg_8, zg_9, qM_isTable, zb_ne, e, h, aAk]
    · have e2 := zlt_y ht (by decide)
      have ct : (nI t).toNatClampNeg = t := nI_clamp (by omega)
      have cs : (nI s).toNatClampNeg = s := nI_clamp (by omega)
      have s8 := (hT s hs).1
      have t8 := (hT t ht).1
      have fs := qM_isFull (show s < 6 by omega) (hR s hs) s8.2
      have ft := qM_isFull (show t < 6 by omega) (hR t ht) t8.2
      cases hb : tB (T s).1 (T s).2 with
      | false =>
        rw [hb] at fs
        refine ⟨M, ?_, zsr.refl M⟩
        simp (disch := omega) [zf_M_alike, zmeth, xm_en, zret, zretz, zretv, zseq, zst, zinc, zkl, zskip, zk, zi, za, zbin, zdiv, zrem, zgi, zgr, zld, zldr, zlen, zn, zc, zcall, zcallv, zrcv, zdo, zdov, zpf, zpfc, zas, zasc, zmin, zmax, zcmp, zcz, zand_e, zor_e, zite_e, zbite_e, zif_e, znot_e, z_add, z_sub, z_mul, z_and, z_or, z_xor, z_shl, z_shr, zcpy, -List.getElem?_cons_succ, zg_0, zg_1, zg_2, zg_3, zg_4, zg_5, zg_6, zg_7, zg_8, zg_9, zt_0, zt_12, zt_20, zt_26, zt_32, zf_0_0, zf_0_1, zf_0_2, zf_0_3, zf_0_4, zf_12_0, zf_12_1, zf_12_2, zf_12_4, zf_12_5, zf_20_1, zf_20_2, zf_20_3, zf_20_4, zf_20_6, zf_26_0, zf_26_1, zf_26_2, zf_26_3, zf_32_0, zf_32_1, zf_32_3, zf_32_4, zf_32_5, zf_32_6, qM_isTable, zb_ne, e, e2, fs, aAk, cs, ct, hb]
      | true =>
        rw [hb] at fs
        cases hb2 : tB (T t).1 (T t).2 with
        | false =>
          rw [hb2] at ft
          refine ⟨M, ?_, zsr.refl M⟩
          simp (disch := omega) [zf_M_alike, zmeth, xm_en, zret, zretz, zretv, zseq, zst, zinc, zkl, zskip, zk, zi, za, zbin, zdiv, zrem, zgi, zgr, zld, zldr, zlen, zn, zc, zcall, zcallv, zrcv, zdo, zdov, zpf, zpfc, zas, zasc, zmin, zmax, zcmp, zcz, zand_e, zor_e, zite_e, zbite_e, zif_e, znot_e, z_add, z_sub, z_mul, z_and, z_or, z_xor, z_shl, z_shr, zcpy, -List.getElem?_cons_succ, zg_0, zg_1, zg_2, zg_3, zg_4, zg_5, zg_6, zg_7, zg_8, zg_9, zt_0, zt_12, zt_20, zt_26, zt_32, zf_0_0, zf_0_1, zf_0_2, zf_0_3, zf_0_4, zf_12_0, zf_12_1, zf_12_2, zf_12_4, zf_12_5, zf_20_1, zf_20_2, zf_20_3, zf_20_4, zf_20_6, zf_26_0, zf_26_1, zf_26_2, zf_26_3, zf_32_0, zf_32_1, zf_32_3, zf_32_4, zf_32_5, zf_32_6, qM_isTable, zb_ne, e, e2, fs, ft, aAk, cs, ct, hb, hb2]
        | true =>
          rw [hb2] at ft
          have hf := (tB_iff (hT s hs)).mp hb
          have hf2 := (tB_iff (hT t ht)).mp hb2
          have z1 := (hR s hs).1
          have z2 := (hR t ht).1
          cases hz : xe_cd .ne z 0 with
          | false =>
            by_cases hn : (T s).1 = (T t).1
            · have hr2 := hR t ht
              have hf2' := hf2
              rw [← hn] at hr2 hf2'
              obtain ⟨v, M1, e1, g1, i1⟩ := qM_isAlikeF (t2 := t) (u := 0) (show s < 5 by omega) (by omega) (hR s hs) hf hr2 hf2' s8.2 (by omega)
              have ea : aAk T (nI s) (nI t) z = zb v := by
                rw [dP_b i1]
                unfold aAk
                rw [ct, cs, e, e2, hb, hb2, hz, decide_eq_true hn]
                rfl
              refine ⟨M1, ?_, g1.sr⟩
              rw [ea]
              simp (disch := omega) [zf_M_alike, zmeth, xm_en, zret, zretz, zretv, zseq, zst, zinc, zkl, zskip, zk, zi, za, zbin, zdiv, zrem, zgi, zgr, zld, zldr, zlen, zn, zc, zcall, zcallv, zrcv, zdo, zdov, zpf, zpfc, zas, zasc, zmin, zmax, zcmp, zcz, zand_e, zor_e, zite_e, zbite_e, zif_e, znot_e, z_add, z_sub, z_mul, z_and, z_or, z_xor, z_shl, z_shr, zcpy, -List.getElem?_cons_succ, zg_0, zg_1, zg_2, zg_3, zg_4, zg_5, zg_6, zg_7, zg_8, zg_9, zt_0, zt_12, zt_20, zt_26, zt_32, zf_0_0, zf_0_1, zf_0_2, zf_0_3, zf_0_4, zf_12_0, zf_12_1, zf_12_2, zf_12_4, zf_12_5, zf_20_1, zf_20_2, zf_20_3, zf_20_4, zf_20_6, zf_26_0, zf_26_1, zf_26_2, zf_26_3, zf_32_0, zf_32_1, zf_32_3, zf_32_4, zf_32_5, zf_32_6, qM_isTable, zb_ne, e, e2, fs, ft, hz, zi_33, nI_clamp, z1, z2, zc_ne, hn, e1]
              cases v <;> rfl
            · refine ⟨M, ?_, zsr.refl M⟩
              have ea : aAk T (nI s) (nI t) z = nI 0 := by simp [aAk, e, e2, ct, cs, hb, hb2, hz, hn]
              rw [ea]
              simp (disch := omega) [zf_M_alike, zmeth, xm_en, zret, zretz, zretv, zseq, zst, zinc, zkl, zskip, zk, zi, za, zbin, zdiv, zrem, zgi, zgr, zld, zldr, zlen, zn, zc, zcall, zcallv, zrcv, zdo, zdov, zpf, zpfc, zas, zasc, zmin, zmax, zcmp, zcz, zand_e, zor_e, zite_e, zbite_e, zif_e, znot_e, z_add, z_sub, z_mul, z_and, z_or, z_xor, z_shl, z_shr, zcpy, -List.getElem?_cons_succ, zg_0, zg_1, zg_2, zg_3, zg_4, zg_5, zg_6, zg_7, zg_8, zg_9, zt_0, zt_12, zt_20, zt_26, zt_32, zf_0_0, zf_0_1, zf_0_2, zf_0_3, zf_0_4, zf_12_0, zf_12_1, zf_12_2, zf_12_4, zf_12_5, zf_20_1, zf_20_2, zf_20_3, zf_20_4, zf_20_6, zf_26_0, zf_26_1, zf_26_2, zf_26_3, zf_32_0, zf_32_1, zf_32_3, zf_32_4, zf_32_5, zf_32_6, qM_isTable, zb_ne, e, e2, fs, ft, hz, zi_33, nI_clamp, z1, z2, zc_ne, hn]
          | true =>
            by_cases h6 : 6 < (T s).1
            · refine ⟨M, ?_, zsr.refl M⟩
              have ea : aAk T (nI s) (nI t) z = -2 := by simp [aAk, e, e2, ct, cs, hb, hb2, hz, h6]
              rw [ea]
              simp (disch := omega) [zf_M_alike, zmeth, xm_en, zret, zretz, zretv, zseq, zst, zinc, zkl, zskip, zk, zi, za, zbin, zdiv, zrem, zgi, zgr, zld, zldr, zlen, zn, zc, zcall, zcallv, zrcv, zdo, zdov, zpf, zpfc, zas, zasc, zmin, zmax, zcmp, zcz, zand_e, zor_e, zite_e, zbite_e, zif_e, znot_e, z_add, z_sub, z_mul, z_and, z_or, z_xor, z_shl, z_shr, zcpy, -List.getElem?_cons_succ, zg_0, zg_1, zg_2, zg_3, zg_4, zg_5, zg_6, zg_7, zg_8, zg_9, zt_0, zt_12, zt_20, zt_26, zt_32, zf_0_0, zf_0_1, zf_0_2, zf_0_3, zf_0_4, zf_12_0, zf_12_1, zf_12_2, zf_12_4, zf_12_5, zf_20_1, zf_20_2, zf_20_3, zf_20_4, zf_20_6, zf_26_0, zf_26_1, zf_26_2, zf_26_3, zf_32_0, zf_32_1, zf_32_3, zf_32_4, zf_32_5, zf_32_6, qM_isTable, zb_ne, e, e2, fs, ft, hz, zi_33, nI_clamp, z1, z2, zc_gt, h6]
            · by_cases h7 : 6 < (T t).1
              · refine ⟨M, ?_, zsr.refl M⟩
                have ea : aAk T (nI s) (nI t) z = -2 := by simp [aAk, e, e2, ct, cs, hb, hb2, hz, h7]
                rw [ea]
                simp (disch := omega) [zf_M_alike, zmeth, xm_en, zret, zretz, zretv, zseq, zst, zinc, zkl, zskip, zk, zi, za, zbin, zdiv, zrem, zgi, zgr, zld, zldr, zlen, zn, zc, zcall, zcallv, zrcv, zdo, zdov, zpf, zpfc, zas, zasc, zmin, zmax, zcmp, zcz, zand_e, zor_e, zite_e, zbite_e, zif_e, znot_e, z_add, z_sub, z_mul, z_and, z_or, z_xor, z_shl, z_shr, zcpy, -List.getElem?_cons_succ, zg_0, zg_1, zg_2, zg_3, zg_4, zg_5, zg_6, zg_7, zg_8, zg_9, zt_0, zt_12, zt_20, zt_26, zt_32, zf_0_0, zf_0_1, zf_0_2, zf_0_3, zf_0_4, zf_12_0, zf_12_1, zf_12_2, zf_12_4, zf_12_5, zf_20_1, zf_20_2, zf_20_3, zf_20_4, zf_20_6, zf_26_0, zf_26_1, zf_26_2, zf_26_3, zf_32_0, zf_32_1, zf_32_3, zf_32_4, zf_32_5, zf_32_6, qM_isTable, zb_ne, e, e2, fs, ft, hz, zi_33, nI_clamp, z1, z2, zc_gt, h6, h7]
              · by_cases hn : (T s).1 = (T t).1
                · have hr2 := hR t ht
                  have hf2' := hf2
                  rw [← hn] at hr2 hf2'
                  obtain ⟨r, ls, M1, e1, f1, q⟩ := qM_al1F (z := z) hs ht (hR s hs) (hT s hs) hf hr2 hf2' s8.2
                  have ea : ∀ v : Bool, (v = true ↔ AL3 (T s).1 (T s).2 (T t).2) → aAk T (nI s) (nI t) z = zb v := fun v i => by
                    rw [dP_b i]
                    unfold aAk
                    rw [ct, cs, e, e2, hb, hb2, hz, decide_eq_true hn, decide_eq_false h6, decide_eq_false h7]
                    rfl
                  rcases q with ⟨rfl, rfl, o⟩ | ⟨rfl, o⟩
                  · refine ⟨M1, ?_, f1.sr⟩
                    rw [ea false ⟨fun q => by (cases q), fun ⟨a, b, p1, p2, p3⟩ => absurd p3 (o a b p1 p2)⟩]
                    rw [hn] at e1
                    simp (disch := omega) [zf_M_alike, zmeth, xm_en, zret, zretz, zretv, zseq, zst, zinc, zkl, zskip, zk, zi, za, zbin, zdiv, zrem, zgi, zgr, zld, zldr, zlen, zn, zc, zcall, zcallv, zrcv, zdo, zdov, zpf, zpfc, zas, zasc, zmin, zmax, zcmp, zcz, zand_e, zor_e, zite_e, zbite_e, zif_e, znot_e, z_add, z_sub, z_mul, z_and, z_or, z_xor, z_shl, z_shr, zcpy, -List.getElem?_cons_succ, zg_0, zg_1, zg_2, zg_3, zg_4, zg_5, zg_6, zg_7, zg_8, zg_9, zt_0, zt_12, zt_20, zt_26, zt_32, zf_0_0, zf_0_1, zf_0_2, zf_0_3, zf_0_4, zf_12_0, zf_12_1, zf_12_2, zf_12_4, zf_12_5, zf_20_1, zf_20_2, zf_20_3, zf_20_4, zf_20_6, zf_26_0, zf_26_1, zf_26_2, zf_26_3, zf_32_0, zf_32_1, zf_32_3, zf_32_4, zf_32_5, zf_32_6, qM_isTable, zb_ne, e, e2, fs, ft, hz, zi_33, nI_clamp, z1, z2, zc_gt, zc_ne, hn, h7, e1]
                    rfl
                  · refine ⟨M1, ?_, f1.sr⟩
                    rw [ea true ⟨fun _ => o, fun _ => rfl⟩]
                    rw [hn] at e1
                    simp (disch := omega) [zf_M_alike, zmeth, xm_en, zret, zretz, zretv, zseq, zst, zinc, zkl, zskip, zk, zi, za, zbin, zdiv, zrem, zgi, zgr, zld, zldr, zlen, zn, zc, zcall, zcallv, zrcv, zdo, zdov, zpf, zpfc, zas, zasc, zmin, zmax, zcmp, zcz, zand_e, zor_e, zite_e, zbite_e, zif_e, znot_e, z_add, z_sub, z_mul, z_and, z_or, z_xor, z_shl, z_shr, zcpy, -List.getElem?_cons_succ, zg_0, zg_1, zg_2, zg_3, zg_4, zg_5, zg_6, zg_7, zg_8, zg_9, zt_0, zt_12, zt_20, zt_26, zt_32, zf_0_0, zf_0_1, zf_0_2, zf_0_3, zf_0_4, zf_12_0, zf_12_1, zf_12_2, zf_12_4, zf_12_5, zf_20_1, zf_20_2, zf_20_3, zf_20_4, zf_20_6, zf_26_0, zf_26_1, zf_26_2, zf_26_3, zf_32_0, zf_32_1, zf_32_3, zf_32_4, zf_32_5, zf_32_6, qM_isTable, zb_ne, e, e2, fs, ft, hz, zi_33, nI_clamp, z1, z2, zc_gt, zc_ne, hn, h7, e1]
                    rfl
                · refine ⟨M, ?_, zsr.refl M⟩
                  have ea : aAk T (nI s) (nI t) z = nI 0 := by simp [aAk, e, e2, ct, cs, hb, hb2, hz, hn, h6, h7]
                  rw [ea]
                  simp (disch := omega) [zf_M_alike, zmeth, xm_en, zret, zretz, zretv, zseq, zst, zinc, zkl, zskip, zk, zi, za, zbin, zdiv, zrem, zgi, zgr, zld, zldr, zlen, zn, zc, zcall, zcallv, zrcv, zdo, zdov, zpf, zpfc, zas, zasc, zmin, zmax, zcmp, zcz, zand_e, zor_e, zite_e, zbite_e, zif_e, znot_e, z_add, z_sub, z_mul, z_and, z_or, z_xor, z_shl, z_shr, zcpy, -List.getElem?_cons_succ, zg_0, zg_1, zg_2, zg_3, zg_4, zg_5, zg_6, zg_7, zg_8, zg_9, zt_0, zt_12, zt_20, zt_26, zt_32, zf_0_0, zf_0_1, zf_0_2, zf_0_3, zf_0_4, zf_12_0, zf_12_1, zf_12_2, zf_12_4, zf_12_5, zf_20_1, zf_20_2, zf_20_3, zf_20_4, zf_20_6, zf_26_0, zf_26_1, zf_26_2, zf_26_3, zf_32_0, zf_32_1, zf_32_3, zf_32_4, zf_32_5, zf_32_6, qM_isTable, zb_ne, e, e2, fs, ft, hz, zi_33, nI_clamp, z1, z2, zc_gt, zc_ne, h6, h7, hn]
