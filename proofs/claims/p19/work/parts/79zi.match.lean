/-! alike: the class's agrees and match with their answers -/
/-- the images of x and y agree with the products, as far as images are given -/
def ft (c D : tC) (l : List Nat) (x y : Nat) : Prop := (c x y < l.length → gd l (c x y) = D (gd l x) (gd l y)) ∧ (¬ c x y < l.length → D (gd l x) (gd l y) ∉ l)
/-- what is given of the images, and which are taken -/
def IMx (M : zM) (l : List Nat) : Prop := ∀ i, i < l.length → M 29 i = nI (gd l i)
def TK (tk : Nat) (l : List Nat) : Prop := tk < 256 ∧ ∀ v, tk.testBit v = true ↔ v ∈ l
theorem qR_ag2F {M : zM} {k1 k2 n x tk : Nat} {c D : tC} {l : List Nat} (hk1 : ztb k1) (hk2 : ztb k2) (h1 : kT M k1 n c) (h2 : kT M k2 n D) (hf1 : tF n c) (hf2 : tF n D) (h8 : n ≤ 8) (hl : PP n l) (hM : IMx M l) (ht : TK tk l) (hx1 : 1 ≤ x) (hx : x < l.length) : ∃ r ls, zwh zc_Renamings_agrees_2 zs_Renamings_agrees_2 [some (Value.ref (26)), some (Value.ref (k1)), some (Value.ref (k2)), some (Value.int (nI (l.length - 1))), some (Value.int (nI tk)), some (Value.int (nI x)), some (Value.int (nI 1)), none, none, none] M = some (r, ls, M) ∧ ((r = none ∧ ls = [some (Value.ref (26)), some (Value.ref (k1)), some (Value.ref (k2)), some (Value.int (nI (l.length - 1))), some (Value.int (nI tk)), some (Value.int (nI x)), some (Value.int (nI l.length)), none, none, none] ∧ ∀ y, 1 ≤ y → y < l.length → ft c D l x y) ∨ (r = some (some (nI 0)) ∧ ∃ y, 1 ≤ y ∧ y < l.length ∧ ¬ ft c D l x y)) := by
  have hl1 := hl.1
  obtain ⟨r, ls, M', w1, rfl, w2⟩ := zwh_inv (c := zc_Renamings_agrees_2) (s := zs_Renamings_agrees_2) (fun j ls M' => M' = M ∧ ls = [some (Value.ref (26)), some (Value.ref (k1)), some (Value.ref (k2)), some (Value.int (nI (l.length - 1))), some (Value.int (nI tk)), some (Value.int (nI x)), some (Value.int (nI j)), none, none, none] ∧ ∀ y, 1 ≤ y → y < j → ft c D l x y) (Q := fun r ls M' => M' = M ∧ ((r = none ∧ ls = [some (Value.ref (26)), some (Value.ref (k1)), some (Value.ref (k2)), some (Value.int (nI (l.length - 1))), some (Value.int (nI tk)), some (Value.int (nI x)), some (Value.int (nI l.length)), none, none, none] ∧ ∀ y, 1 ≤ y → y < l.length → ft c D l x y) ∨ (r = some (some (nI 0)) ∧ ∃ y, 1 ≤ y ∧ y < l.length ∧ ¬ ft c D l x y))) (n := l.length) (fun ls M' q => by
      obtain ⟨rfl, rfl, q⟩ := q
      have g : ¬ l.length ≤ l.length - 1 := by omega
      exact ⟨by simp (disch := omega) [zc_Renamings_agrees_2, zmeth, xm_en, zret, zretz, zretv, zseq, zst, zinc, zkl, zskip, zk, zi, za, zbin, zdiv, zrem, zgi, zgr, zld, zldr, zlen, zn, zc, zcall, zcallv, zrcv, zdo, zdov, zpf, zpfc, zas, zasc, zmin, zmax, zcmp, zcz, zand_e, zor_e, zite_e, zbite_e, zif_e, znot_e, z_add, z_sub, z_mul, z_and, z_or, z_xor, z_shl, z_shr, zcpy, -List.getElem?_cons_succ, zg_0, zg_1, zg_2, zg_3, zg_4, zg_5, zg_6, zg_7, zg_8, zg_9, zc_lt, zc_le, zc_gt, zc_ge, zc_eq, zc_ne, zc_lt0, zc_ge0, zc_gt0, zc_eq0, zc_ne0, zb_ne, zb_eq, zb_01, z_00, z_01, z_11, zb_f, zb_T, zb_F, zbm1, zbm2, zbm5, zbm6, zbm3, zbm4, nI_clamp, zmod_n, pk_div, nI_ne0, pk_mul, nI_add, nI_1, g], rfl, Or.inl ⟨rfl, rfl, q⟩⟩) (l.length - 1) 1 (by omega) (fun j ls M' hj1 hj q => by
      obtain ⟨rfl, rfl, q⟩ := q
      have hj2 : j ≤ l.length - 1 := by omega
      refine ⟨by simp (disch := omega) [zc_Renamings_agrees_2, zmeth, xm_en, zret, zretz, zretv, zseq, zst, zinc, zkl, zskip, zk, zi, za, zbin, zdiv, zrem, zgi, zgr, zld, zldr, zlen, zn, zc, zcall, zcallv, zrcv, zdo, zdov, zpf, zpfc, zas, zasc, zmin, zmax, zcmp, zcz, zand_e, zor_e, zite_e, zbite_e, zif_e, znot_e, z_add, z_sub, z_mul, z_and, z_or, z_xor, z_shl, z_shr, zcpy, -List.getElem?_cons_succ, zg_0, zg_1, zg_2, zg_3, zg_4, zg_5, zg_6, zg_7, zg_8, zg_9, zc_lt, zc_le, zc_gt, zc_ge, zc_eq, zc_ne, zc_lt0, zc_ge0, zc_gt0, zc_eq0, zc_ne0, zb_ne, zb_eq, zb_01, z_00, z_01, z_11, zb_f, zb_T, zb_F, zbm1, zbm2, zbm5, zbm6, zbm3, zbm4, nI_clamp, zmod_n, pk_div, nI_ne0, pk_mul, nI_add, nI_1, hj2], ?_⟩
      have ix := hM x hx
      have ij := hM j hj
      have gx := hl.gl hx
      have gj := hl.gl hj
      have t1 := qT_mul hk1 h1 h8 hf1 (show x < n by omega) (show j < n by omega)
      have t2 := qT_mul hk2 h2 h8 hf2 gx gj
      have f1 := hf1 x j (by omega) (by omega)
      have f2 := hf2 _ _ gx gj
      have nx : nI (l.length - 1) + nI 1 = nI l.length := by
        have : nI (l.length - 1) + nI 1 = nI (l.length - 1 + 1) := nI_1 _
        rw [this]
        congr 1
        omega
      have more : ft c D l x j → ∀ y, 1 ≤ y → y < j + 1 → ft c D l x y := fun h y a b => by
        by_cases e : y = j
        · rw [e]
          exact h
        · exact q y a (by omega)
      by_cases hb : c x j < l.length
      · have ib := hM _ hb
        have gb := hl.gl hb
        have z := zlt_y hb (show l.length < 2 ^ 31 by omega)
        by_cases hc : gd l (c x j) = D (gd l x) (gd l j)
        · exact ⟨none, _, M', by simp (disch := omega) [zs_Renamings_agrees_2, zmeth, xm_en, zret, zretz, zretv, zseq, zst, zinc, zkl, zskip, zk, zi, za, zbin, zdiv, zrem, zgi, zgr, zld, zldr, zlen, zn, zc, zcall, zcallv, zrcv, zdo, zdov, zpf, zpfc, zas, zasc, zmin, zmax, zcmp, zcz, zand_e, zor_e, zite_e, zbite_e, zif_e, znot_e, z_add, z_sub, z_mul, z_and, z_or, z_xor, z_shl, z_shr, zcpy, -List.getElem?_cons_succ, zg_0, zg_1, zg_2, zg_3, zg_4, zg_5, zg_6, zg_7, zg_8, zg_9, zt_0, zt_12, zt_20, zt_26, zt_32, zf_0_0, zf_0_1, zf_0_2, zf_0_3, zf_0_4, zf_12_0, zf_12_1, zf_12_2, zf_12_4, zf_12_5, zf_20_1, zf_20_2, zf_20_3, zf_20_4, zf_20_6, zf_26_0, zf_26_1, zf_26_2, zf_26_3, zf_32_0, zf_32_1, zf_32_3, zf_32_4, zf_32_5, zf_32_6, zc_lt, zc_le, zc_gt, zc_ge, zc_eq, zc_ne, zc_lt0, zc_ge0, zc_gt0, zc_eq0, zc_ne0, zb_ne, zb_eq, zb_01, z_00, z_01, z_11, zb_f, zb_T, zb_F, zbm1, zbm2, zbm5, zbm6, zbm3, zbm4, nI_clamp, zmod_n, pk_div, nI_ne0, pk_mul, nI_add, nI_1, zi_29, ztb_tag hk1, ztb_tag hk2, ix, ij, t1, t2, qL_isBelow, nx, z, ib, hc], rfl, rfl, more ⟨fun _ => hc, fun w => absurd hb w⟩⟩
        · exact ⟨some (some (nI 0)), _, M', by simp (disch := omega) [zs_Renamings_agrees_2, zmeth, xm_en, zret, zretz, zretv, zseq, zst, zinc, zkl, zskip, zk, zi, za, zbin, zdiv, zrem, zgi, zgr, zld, zldr, zlen, zn, zc, zcall, zcallv, zrcv, zdo, zdov, zpf, zpfc, zas, zasc, zmin, zmax, zcmp, zcz, zand_e, zor_e, zite_e, zbite_e, zif_e, znot_e, z_add, z_sub, z_mul, z_and, z_or, z_xor, z_shl, z_shr, zcpy, -List.getElem?_cons_succ, zg_0, zg_1, zg_2, zg_3, zg_4, zg_5, zg_6, zg_7, zg_8, zg_9, zt_0, zt_12, zt_20, zt_26, zt_32, zf_0_0, zf_0_1, zf_0_2, zf_0_3, zf_0_4, zf_12_0, zf_12_1, zf_12_2, zf_12_4, zf_12_5, zf_20_1, zf_20_2, zf_20_3, zf_20_4, zf_20_6, zf_26_0, zf_26_1, zf_26_2, zf_26_3, zf_32_0, zf_32_1, zf_32_3, zf_32_4, zf_32_5, zf_32_6, zc_lt, zc_le, zc_gt, zc_ge, zc_eq, zc_ne, zc_lt0, zc_ge0, zc_gt0, zc_eq0, zc_ne0, zb_ne, zb_eq, zb_01, z_00, z_01, z_11, zb_f, zb_T, zb_F, zbm1, zbm2, zbm5, zbm6, zbm3, zbm4, nI_clamp, zmod_n, pk_div, nI_ne0, pk_mul, nI_add, nI_1, zi_29, ztb_tag hk1, ztb_tag hk2, ix, ij, t1, t2, qL_isBelow, nx, z, ib, hc]; rfl, rfl, Or.inr ⟨rfl, j, hj1, hj, fun w => hc (w.1 hb)⟩⟩
      · have z : zlt (nI (c x j)) l.length = false := by
          rw [zlt_nI (by omega) (by omega)]
          exact decide_eq_false hb
        have bt := nI_bit (n := tk) (v := D (gd l x) (gd l j)) (by have := ht.1; omega) (by omega)
        cases hc : tk.testBit (D (gd l x) (gd l j)) with
        | false =>
          rw [hc] at bt
          have nm : D (gd l x) (gd l j) ∉ l := fun w => by
            rw [(ht.2 _).mpr w] at hc
            cases hc
          exact ⟨none, _, M', by simp (disch := omega) [zs_Renamings_agrees_2, zmeth, xm_en, zret, zretz, zretv, zseq, zst, zinc, zkl, zskip, zk, zi, za, zbin, zdiv, zrem, zgi, zgr, zld, zldr, zlen, zn, zc, zcall, zcallv, zrcv, zdo, zdov, zpf, zpfc, zas, zasc, zmin, zmax, zcmp, zcz, zand_e, zor_e, zite_e, zbite_e, zif_e, znot_e, z_add, z_sub, z_mul, z_and, z_or, z_xor, z_shl, z_shr, zcpy, -List.getElem?_cons_succ, zg_0, zg_1, zg_2, zg_3, zg_4, zg_5, zg_6, zg_7, zg_8, zg_9, zt_0, zt_12, zt_20, zt_26, zt_32, zf_0_0, zf_0_1, zf_0_2, zf_0_3, zf_0_4, zf_12_0, zf_12_1, zf_12_2, zf_12_4, zf_12_5, zf_20_1, zf_20_2, zf_20_3, zf_20_4, zf_20_6, zf_26_0, zf_26_1, zf_26_2, zf_26_3, zf_32_0, zf_32_1, zf_32_3, zf_32_4, zf_32_5, zf_32_6, zc_lt, zc_le, zc_gt, zc_ge, zc_eq, zc_ne, zc_lt0, zc_ge0, zc_gt0, zc_eq0, zc_ne0, zb_ne, zb_eq, zb_01, z_00, z_01, z_11, zb_f, zb_T, zb_F, zbm1, zbm2, zbm5, zbm6, zbm3, zbm4, nI_clamp, zmod_n, pk_div, nI_ne0, pk_mul, nI_add, nI_1, zi_29, ztb_tag hk1, ztb_tag hk2, ix, ij, t1, t2, qL_isBelow, nx, z, bt], rfl, rfl, more ⟨fun w => absurd w hb, fun _ => nm⟩⟩
        | true =>
          rw [hc] at bt
          have nm : D (gd l x) (gd l j) ∈ l := (ht.2 _).mp hc
          exact ⟨some (some (nI 0)), _, M', by simp (disch := omega) [zs_Renamings_agrees_2, zmeth, xm_en, zret, zretz, zretv, zseq, zst, zinc, zkl, zskip, zk, zi, za, zbin, zdiv, zrem, zgi, zgr, zld, zldr, zlen, zn, zc, zcall, zcallv, zrcv, zdo, zdov, zpf, zpfc, zas, zasc, zmin, zmax, zcmp, zcz, zand_e, zor_e, zite_e, zbite_e, zif_e, znot_e, z_add, z_sub, z_mul, z_and, z_or, z_xor, z_shl, z_shr, zcpy, -List.getElem?_cons_succ, zg_0, zg_1, zg_2, zg_3, zg_4, zg_5, zg_6, zg_7, zg_8, zg_9, zt_0, zt_12, zt_20, zt_26, zt_32, zf_0_0, zf_0_1, zf_0_2, zf_0_3, zf_0_4, zf_12_0, zf_12_1, zf_12_2, zf_12_4, zf_12_5, zf_20_1, zf_20_2, zf_20_3, zf_20_4, zf_20_6, zf_26_0, zf_26_1, zf_26_2, zf_26_3, zf_32_0, zf_32_1, zf_32_3, zf_32_4, zf_32_5, zf_32_6, zc_lt, zc_le, zc_gt, zc_ge, zc_eq, zc_ne, zc_lt0, zc_ge0, zc_gt0, zc_eq0, zc_ne0, zb_ne, zb_eq, zb_01, z_00, z_01, z_11, zb_f, zb_T, zb_F, zbm1, zbm2, zbm5, zbm6, zbm3, zbm4, nI_clamp, zmod_n, pk_div, nI_ne0, pk_mul, nI_add, nI_1, zi_29, ztb_tag hk1, ztb_tag hk2, ix, ij, t1, t2, qL_isBelow, nx, z, bt]; rfl, rfl, Or.inr ⟨rfl, j, hj1, hj, fun w => w.2 hb nm⟩⟩) _ M ⟨rfl, rfl, fun y a b => by omega⟩
  exact ⟨r, ls, w1, w2⟩
theorem qR_agreesF {M : zM} {k1 k2 n tk : Nat} {c D : tC} {l : List Nat} (hk1 : ztb k1) (hk2 : ztb k2) (h1 : kT M k1 n c) (h2 : kT M k2 n D) (hf1 : tF n c) (hf2 : tF n D) (h8 : n ≤ 8) (hl : PP n l) (hM : IMx M l) (ht : TK tk l) (hz : 2 ≤ l.length) : ∃ b : Bool, zf_Renamings_agrees [.ref 26, .ref k1, .ref k2, .int (nI (l.length - 1)), .int (nI tk)] M = some (some (zb b), M) ∧ (b = true → ∀ x y, 1 ≤ x → x < l.length → 1 ≤ y → y < l.length → ft c D l x y) ∧ (b = false → ∃ x y, 1 ≤ x ∧ x < l.length ∧ 1 ≤ y ∧ y < l.length ∧ ¬ ft c D l x y) := by
  have hl1 := hl.1
  obtain ⟨r, ls, M', w1, rfl, w2⟩ := zwh_inv (c := zc_Renamings_agrees_1) (s := zs_Renamings_agrees_1) (fun j ls M' => M' = M ∧ ls = [some (Value.ref (26)), some (Value.ref (k1)), some (Value.ref (k2)), some (Value.int (nI (l.length - 1))), some (Value.int (nI tk)), some (Value.int (nI j)), none, none, none, none] ∧ ∀ x y, 1 ≤ x → x < j → 1 ≤ y → y < l.length → ft c D l x y) (Q := fun r ls M' => M' = M ∧ ((r = none ∧ ls = [some (Value.ref (26)), some (Value.ref (k1)), some (Value.ref (k2)), some (Value.int (nI (l.length - 1))), some (Value.int (nI tk)), some (Value.int (nI l.length)), none, none, none, none] ∧ ∀ x y, 1 ≤ x → x < l.length → 1 ≤ y → y < l.length → ft c D l x y) ∨ (r = some (some (nI 0)) ∧ ∃ x y, 1 ≤ x ∧ x < l.length ∧ 1 ≤ y ∧ y < l.length ∧ ¬ ft c D l x y))) (n := l.length) (fun ls M' q => by
      obtain ⟨rfl, rfl, q⟩ := q
      have g : ¬ l.length ≤ l.length - 1 := by omega
      exact ⟨by simp (disch := omega) [zc_Renamings_agrees_1, zmeth, xm_en, zret, zretz, zretv, zseq, zst, zinc, zkl, zskip, zk, zi, za, zbin, zdiv, zrem, zgi, zgr, zld, zldr, zlen, zn, zc, zcall, zcallv, zrcv, zdo, zdov, zpf, zpfc, zas, zasc, zmin, zmax, zcmp, zcz, zand_e, zor_e, zite_e, zbite_e, zif_e, znot_e, z_add, z_sub, z_mul, z_and, z_or, z_xor, z_shl, z_shr, zcpy, -List.getElem?_cons_succ, zg_0, zg_1, zg_2, zg_3, zg_4, zg_5, zg_6, zg_7, zg_8, zg_9, zc_lt, zc_le, zc_gt, zc_ge, zc_eq, zc_ne, zc_lt0, zc_ge0, zc_gt0, zc_eq0, zc_ne0, zb_ne, zb_eq, zb_01, z_00, z_01, z_11, zb_f, zb_T, zb_F, zbm1, zbm2, zbm5, zbm6, zbm3, zbm4, nI_clamp, zmod_n, pk_div, nI_ne0, pk_mul, nI_add, nI_1, g], rfl, Or.inl ⟨rfl, rfl, q⟩⟩) (l.length - 1) 1 (by omega) (fun j ls M' hj1 hj q => by
      obtain ⟨rfl, rfl, q⟩ := q
      have hj2 : j ≤ l.length - 1 := by omega
      refine ⟨by simp (disch := omega) [zc_Renamings_agrees_1, zmeth, xm_en, zret, zretz, zretv, zseq, zst, zinc, zkl, zskip, zk, zi, za, zbin, zdiv, zrem, zgi, zgr, zld, zldr, zlen, zn, zc, zcall, zcallv, zrcv, zdo, zdov, zpf, zpfc, zas, zasc, zmin, zmax, zcmp, zcz, zand_e, zor_e, zite_e, zbite_e, zif_e, znot_e, z_add, z_sub, z_mul, z_and, z_or, z_xor, z_shl, z_shr, zcpy, -List.getElem?_cons_succ, zg_0, zg_1, zg_2, zg_3, zg_4, zg_5, zg_6, zg_7, zg_8, zg_9, zc_lt, zc_le, zc_gt, zc_ge, zc_eq, zc_ne, zc_lt0, zc_ge0, zc_gt0, zc_eq0, zc_ne0, zb_ne, zb_eq, zb_01, z_00, z_01, z_11, zb_f, zb_T, zb_F, zbm1, zbm2, zbm5, zbm6, zbm3, zbm4, nI_clamp, zmod_n, pk_div, nI_ne0, pk_mul, nI_add, nI_1, hj2], ?_⟩
      obtain ⟨r, ls, e1, ⟨rfl, rfl, e2⟩ | ⟨rfl, y, y1, y2, y3⟩⟩ := qR_ag2F hk1 hk2 h1 h2 hf1 hf2 h8 hl hM ht hj1 hj
      · refine ⟨none, _, M', by simp (disch := omega) [zs_Renamings_agrees_1, zmeth, xm_en, zret, zretz, zretv, zseq, zst, zinc, zkl, zskip, zk, zi, za, zbin, zdiv, zrem, zgi, zgr, zld, zldr, zlen, zn, zc, zcall, zcallv, zrcv, zdo, zdov, zpf, zpfc, zas, zasc, zmin, zmax, zcmp, zcz, zand_e, zor_e, zite_e, zbite_e, zif_e, znot_e, z_add, z_sub, z_mul, z_and, z_or, z_xor, z_shl, z_shr, zcpy, -List.getElem?_cons_succ, zg_0, zg_1, zg_2, zg_3, zg_4, zg_5, zg_6, zg_7, zg_8, zg_9, zc_lt, zc_le, zc_gt, zc_ge, zc_eq, zc_ne, zc_lt0, zc_ge0, zc_gt0, zc_eq0, zc_ne0, zb_ne, zb_eq, zb_01, z_00, z_01, z_11, zb_f, zb_T, zb_F, zbm1, zbm2, zbm5, zbm6, zbm3, zbm4, nI_clamp, zmod_n, pk_div, nI_ne0, pk_mul, nI_add, nI_1, e1], rfl, rfl, fun x y a b d e => ?_⟩
        by_cases z : x = j
        · rw [z]
          exact e2 y d e
        · exact q x y a (by omega) d e
      · exact ⟨some (some (nI 0)), _, M', by simp (disch := omega) [zs_Renamings_agrees_1, zmeth, xm_en, zret, zretz, zretv, zseq, zst, zinc, zkl, zskip, zk, zi, za, zbin, zdiv, zrem, zgi, zgr, zld, zldr, zlen, zn, zc, zcall, zcallv, zrcv, zdo, zdov, zpf, zpfc, zas, zasc, zmin, zmax, zcmp, zcz, zand_e, zor_e, zite_e, zbite_e, zif_e, znot_e, z_add, z_sub, z_mul, z_and, z_or, z_xor, z_shl, z_shr, zcpy, -List.getElem?_cons_succ, zg_0, zg_1, zg_2, zg_3, zg_4, zg_5, zg_6, zg_7, zg_8, zg_9, zc_lt, zc_le, zc_gt, zc_ge, zc_eq, zc_ne, zc_lt0, zc_ge0, zc_gt0, zc_eq0, zc_ne0, zb_ne, zb_eq, zb_01, z_00, z_01, z_11, zb_f, zb_T, zb_F, zbm1, zbm2, zbm5, zbm6, zbm3, zbm4, nI_clamp, zmod_n, pk_div, nI_ne0, pk_mul, nI_add, nI_1, e1]; rfl, rfl, Or.inr ⟨rfl, j, y, hj1, hj, y1, y2, y3⟩⟩) _ M ⟨rfl, rfl, fun x y a b => by omega⟩
  rcases w2 with ⟨rfl, rfl, w2⟩ | ⟨rfl, w2⟩
  · exact ⟨true, by simp (disch := omega) [zf_Renamings_agrees, zmeth, xm_en, zret, zretz, zretv, zseq, zst, zinc, zkl, zskip, zk, zi, za, zbin, zdiv, zrem, zgi, zgr, zld, zldr, zlen, zn, zc, zcall, zcallv, zrcv, zdo, zdov, zpf, zpfc, zas, zasc, zmin, zmax, zcmp, zcz, zand_e, zor_e, zite_e, zbite_e, zif_e, znot_e, z_add, z_sub, z_mul, z_and, z_or, z_xor, z_shl, z_shr, zcpy, -List.getElem?_cons_succ, zg_0, zg_1, zg_2, zg_3, zg_4, zg_5, zg_6, zg_7, zg_8, zg_9, w1, zb_01]; rfl, fun _ => w2, fun h => by cases h⟩
  · exact ⟨false, by simp (disch := omega) [zf_Renamings_agrees, zmeth, xm_en, zret, zretz, zretv, zseq, zst, zinc, zkl, zskip, zk, zi, za, zbin, zdiv, zrem, zgi, zgr, zld, zldr, zlen, zn, zc, zcall, zcallv, zrcv, zdo, zdov, zpf, zpfc, zas, zasc, zmin, zmax, zcmp, zcz, zand_e, zor_e, zite_e, zbite_e, zif_e, znot_e, z_add, z_sub, z_mul, z_and, z_or, z_xor, z_shl, z_shr, zcpy, -List.getElem?_cons_succ, zg_0, zg_1, zg_2, zg_3, zg_4, zg_5, zg_6, zg_7, zg_8, zg_9, w1]; rfl, fun h => by (cases h), fun _ => w2⟩
/-- l takes products to products -/
def HM (n : Nat) (c D : tC) (l : List Nat) : Prop := ∀ x y, x < n → y < n → gd l (c x y) = D (gd l x) (gd l y)
theorem ft_no {n x y : Nat} {c D : tC} {l l' : List Nat} (hf : tF n c) (hl : PP n l) (h' : PL n l') (he : ex l l') (hm : HM n c D l') (hx : x < l.length) (hy : y < l.length) : ft c D l x y := by
  have hl1 := hl.1
  obtain ⟨m, rfl⟩ := he
  have e := hm x y (by omega) (by omega)
  rw [gd_app hx, gd_app hy] at e
  refine ⟨fun q => ?_, fun q z => ?_⟩
  · rw [gd_app q] at e
    exact e
  · obtain ⟨p1, p2⟩ := px_mem z
    have e3 : gd (l ++ m) (c x y) = gd (l ++ m) (px l (D (gd l x) (gd l y))) := by rw [e, gd_app p1, p2]
    have f := hf x y (by omega) (by omega)
    have a := h'.pg f
    have b := h'.pg (i := px l (D (gd l x) (gd l y))) (by omega)
    rw [e3, b] at a
    omega
theorem HM_of {n : Nat} {c D : tC} {l : List Nat} (hc : ∀ a, a < n → c 0 a = a ∧ c a 0 = a) (hD : ∀ a, a < n → D 0 a = a ∧ D a 0 = a) (hf : tF n c) (hl : PL n l) (h : ∀ x y, 1 ≤ x → x < l.length → 1 ≤ y → y < l.length → ft c D l x y) : HM n c D l := by
  intro x y hx hy
  have h0 := hl.2.2.2
  by_cases x0 : x = 0
  · subst x0
    rw [(hc y hy).1, h0, (hD _ (hl.gl hy)).1]
  · by_cases y0 : y = 0
    · subst y0
      rw [(hc x hx).2, h0, (hD _ (hl.gl hx)).2]
    · have e := hl.1
      exact (h x y (by omega) (by omega) (by omega) (by omega)).1 (by rw [e]; exact hf x y hx hy)
/-- the frame of a search -/
def MF (M0 M : zM) (l : List Nat) : Prop := IMx M l ∧ ∀ q j, q ≠ 29 → M q j = M0 q j
theorem qR_matchF {M0 : zM} {k1 k2 n : Nat} {c D : tC} (hk1 : ztb k1) (hk2 : ztb k2) (h1 : kT M0 k1 n c) (h2 : kT M0 k2 n D) (h8 : n ≤ 8) (hc : ∀ a, a < n → c 0 a = a ∧ c a 0 = a) (hD : ∀ a, a < n → D 0 a = a ∧ D a 0 = a) (hf1 : tF n c) (hf2 : tF n D) : ∀ (d f : Nat) (l : List Nat) (tk : Nat) (M : zM), d < f → l.length + d = n → PP n l → TK tk l → MF M0 M l → (l.length = n → HM n c D l) → ∃ (b : Bool) (M' : zM), zf_Renamings_match f [.ref 26, .ref k1, .ref k2, .int (nI l.length), .int (nI tk)] M = some (some (zb b), M') ∧ MF M0 M' l ∧ (b = true ↔ ∃ l', PL n l' ∧ ex l l' ∧ HM n c D l') := by
  have z1 : k1 ≠ 29 ∧ k1 + 1 ≠ 29 := by unfold ztb at hk1; omega
  have z2 : k2 ≠ 29 ∧ k2 + 1 ≠ 29 := by unfold ztb at hk2; omega
  have r1 : ∀ {l : List Nat} {M : zM}, MF M0 M l → kT M k1 n c := fun g => h1.same (fun j => g.2 _ _ z1.1) (fun j => g.2 _ _ z1.2)
  have r2 : ∀ {l : List Nat} {M : zM}, MF M0 M l → kT M k2 n D := fun g => h2.same (fun j => g.2 _ _ z2.1) (fun j => g.2 _ _ z2.2)
  intro d
  induction d with
  | zero =>
    intro f l tk M hd e hl ht h hm
    obtain ⟨f, rfl⟩ : ∃ g, f = g + 1 := ⟨f - 1, by omega⟩
    have e : l.length = n := by omega
    have k := (r1 h).1
    refine ⟨true, M, ?_, h, fun _ => ⟨l, hl.full e, ⟨[], (List.append_nil l).symm⟩, hm e⟩, fun _ => rfl⟩
    rw [match_S, e]
    simp (disch := omega) [zmeth, xm_en, zret, zretz, zretv, zseq, zst, zinc, zkl, zskip, zk, zi, za, zbin, zdiv, zrem, zgi, zgr, zld, zldr, zlen, zn, zc, zcall, zcallv, zrcv, zdo, zdov, zpf, zpfc, zas, zasc, zmin, zmax, zcmp, zcz, zand_e, zor_e, zite_e, zbite_e, zif_e, znot_e, z_add, z_sub, z_mul, z_and, z_or, z_xor, z_shl, z_shr, zcpy, -List.getElem?_cons_succ, zg_0, zg_1, zg_2, zg_3, zg_4, zg_5, zg_6, zg_7, zg_8, zg_9, zc_lt, zc_le, zc_gt, zc_ge, zc_eq, zc_ne, zc_lt0, zc_ge0, zc_gt0, zc_eq0, zc_ne0, zb_ne, zb_eq, zb_01, z_00, z_01, z_11, zb_f, zb_T, zb_F, zbm1, zbm2, zbm5, zbm6, zbm3, zbm4, nI_clamp, zmod_n, pk_div, nI_ne0, pk_mul, nI_add, nI_1, ztb_tag hk1, k]
  | succ d ih =>
    intro f l tk M hd e hl ht h hm
    obtain ⟨f, rfl⟩ : ∃ g, f = g + 1 := ⟨f - 1, by omega⟩
    have hl1 := hl.1
    have hn : ¬ n ≤ l.length := by omega
    have n8 : ¬ 8 ≤ l.length := by omega
    have nx : nI l.length + nI 1 = nI (l.length + 1) := nI_1 _
    have t31 : tk < 2 ^ 31 := by have := ht.1; omega
    obtain ⟨r, ls, M', w1, w2, w3⟩ := zwh_inv (c := zc_Renamings_match_1 (zf_Renamings_match f)) (s := zs_Renamings_match_1 (zf_Renamings_match f)) (fun j ls M' => MF M0 M' l ∧ ls = [some (Value.ref (26)), some (Value.ref (k1)), some (Value.ref (k2)), some (Value.int (nI l.length)), some (Value.int (nI tk)), some (Value.int (nI j)), none] ∧ ∀ v, 1 ≤ v → v < j → v ∉ l → ¬ ∃ l', PL n l' ∧ ex (l ++ [v]) l' ∧ HM n c D l') (Q := fun r ls M' => MF M0 M' l ∧ ((r = none ∧ ls = [some (Value.ref (26)), some (Value.ref (k1)), some (Value.ref (k2)), some (Value.int (nI l.length)), some (Value.int (nI tk)), some (Value.int (nI n)), none] ∧ ∀ v, 1 ≤ v → v < n → v ∉ l → ¬ ∃ l', PL n l' ∧ ex (l ++ [v]) l' ∧ HM n c D l') ∨ (r = some (some (nI 1)) ∧ ∃ l', PL n l' ∧ ex l l' ∧ HM n c D l'))) (n := n) (fun ls M' q => by
        obtain ⟨q, rfl, q2⟩ := q
        have k := (r2 q).1
        exact ⟨by simp (disch := omega) [zc_Renamings_match_1, zmeth, xm_en, zret, zretz, zretv, zseq, zst, zinc, zkl, zskip, zk, zi, za, zbin, zdiv, zrem, zgi, zgr, zld, zldr, zlen, zn, zc, zcall, zcallv, zrcv, zdo, zdov, zpf, zpfc, zas, zasc, zmin, zmax, zcmp, zcz, zand_e, zor_e, zite_e, zbite_e, zif_e, znot_e, z_add, z_sub, z_mul, z_and, z_or, z_xor, z_shl, z_shr, zcpy, -List.getElem?_cons_succ, zg_0, zg_1, zg_2, zg_3, zg_4, zg_5, zg_6, zg_7, zg_8, zg_9, zc_lt, zc_le, zc_gt, zc_ge, zc_eq, zc_ne, zc_lt0, zc_ge0, zc_gt0, zc_eq0, zc_ne0, zb_ne, zb_eq, zb_01, z_00, z_01, z_11, zb_f, zb_T, zb_F, zbm1, zbm2, zbm5, zbm6, zbm3, zbm4, nI_clamp, zmod_n, pk_div, nI_ne0, pk_mul, nI_add, nI_1, ztb_tag hk2, k], q, Or.inl ⟨rfl, rfl, q2⟩⟩) (n - 1) 1 (by omega) (fun j ls M1 hj1 hj q => by
        obtain ⟨q, rfl, q2⟩ := q
        have k := (r2 q).1
        refine ⟨by simp (disch := omega) [zc_Renamings_match_1, zmeth, xm_en, zret, zretz, zretv, zseq, zst, zinc, zkl, zskip, zk, zi, za, zbin, zdiv, zrem, zgi, zgr, zld, zldr, zlen, zn, zc, zcall, zcallv, zrcv, zdo, zdov, zpf, zpfc, zas, zasc, zmin, zmax, zcmp, zcz, zand_e, zor_e, zite_e, zbite_e, zif_e, znot_e, z_add, z_sub, z_mul, z_and, z_or, z_xor, z_shl, z_shr, zcpy, -List.getElem?_cons_succ, zg_0, zg_1, zg_2, zg_3, zg_4, zg_5, zg_6, zg_7, zg_8, zg_9, zc_lt, zc_le, zc_gt, zc_ge, zc_eq, zc_ne, zc_lt0, zc_ge0, zc_gt0, zc_eq0, zc_ne0, zb_ne, zb_eq, zb_01, z_00, z_01, z_11, zb_f, zb_T, zb_F, zbm1, zbm2, zbm5, zbm6, zbm3, zbm4, nI_clamp, zmod_n, pk_div, nI_ne0, pk_mul, nI_add, nI_1, ztb_tag hk2, k, hj], ?_⟩
        have bt := nI_bit (n := tk) (v := j) t31 (by omega)
        by_cases hin : j ∈ l
        · rw [(ht.2 j).mpr hin] at bt
          exact ⟨none, _, M1, by simp (disch := omega) [zs_Renamings_match_1, zmeth, xm_en, zret, zretz, zretv, zseq, zst, zinc, zkl, zskip, zk, zi, za, zbin, zdiv, zrem, zgi, zgr, zld, zldr, zlen, zn, zc, zcall, zcallv, zrcv, zdo, zdov, zpf, zpfc, zas, zasc, zmin, zmax, zcmp, zcz, zand_e, zor_e, zite_e, zbite_e, zif_e, znot_e, z_add, z_sub, z_mul, z_and, z_or, z_xor, z_shl, z_shr, zcpy, -List.getElem?_cons_succ, zg_0, zg_1, zg_2, zg_3, zg_4, zg_5, zg_6, zg_7, zg_8, zg_9, zc_lt, zc_le, zc_gt, zc_ge, zc_eq, zc_ne, zc_lt0, zc_ge0, zc_gt0, zc_eq0, zc_ne0, zb_ne, zb_eq, zb_01, z_00, z_01, z_11, zb_f, zb_T, zb_F, zbm1, zbm2, zbm5, zbm6, zbm3, zbm4, nI_clamp, zmod_n, pk_div, nI_ne0, pk_mul, nI_add, nI_1, bt], q, rfl, fun v a b hv => by
            by_cases z : v = j
            · exact absurd (z ▸ hin) hv
            · exact q2 v a (by omega) hv⟩
        · have bf : tk.testBit j = false := by
            cases hb : tk.testBit j with
            | false => rfl
            | true => exact absurd ((ht.2 j).mp hb) hin
          rw [bf] at bt
          have hl2 : PP n (l ++ [j]) := hl.up (by omega) hj hin
          have len : (l ++ [j]).length = l.length + 1 := by rw [List.length_append, List.length_singleton]
          have lm : (l ++ [j]).length - 1 = l.length := by rw [len]; rfl
          have t2 : TK (tk ||| 2 ^ j) (l ++ [j]) := ⟨Nat.or_lt_two_pow (n := 8) ht.1 (Nat.pow_lt_pow_right (by decide) (by omega)), fun v => by
            rw [Nat.testBit_or, Nat.testBit_two_pow, Bool.or_eq_true, ht.2 v, decide_eq_true_eq, List.mem_append, List.mem_singleton]
            exact ⟨fun z => z.elim Or.inl (fun z => Or.inr z.symm), fun z => z.elim Or.inl (fun z => Or.inr z.symm)⟩⟩
          have q1 : MF M0 (zup M1 29 l.length (nI j)) (l ++ [j]) := ⟨fun i hi => by
            rw [len] at hi
            rw [zup_e]
            by_cases z : i = l.length
            · rw [if_pos ⟨rfl, z⟩, z, gd_new]
            · rw [if_neg (fun w => z w.2), gd_app (by omega)]
              exact q.1 i (by omega), fun q' j' hq => by
            rw [zup_e, if_neg (fun w => hq w.1)]
            exact q.2 q' j' hq⟩
          obtain ⟨b1, e1, bT, bF⟩ := qR_agreesF hk1 hk2 (r1 q1) (r2 q1) hf1 hf2 h8 hl2 q1.1 t2 (by omega)
          rw [lm] at e1
          have back : ∀ {M2 : zM}, MF M0 M2 (l ++ [j]) → MF M0 M2 l := fun g => ⟨fun i hi => by
            rw [g.1 i (by omega), gd_app hi], g.2⟩
          have more : (¬ ∃ l', PL n l' ∧ ex (l ++ [j]) l' ∧ HM n c D l') → ∀ v, 1 ≤ v → v < j + 1 → v ∉ l → ¬ ∃ l', PL n l' ∧ ex (l ++ [v]) l' ∧ HM n c D l' := fun no v a b hv => by
            by_cases z : v = j
            · rw [z]
              exact no
            · exact q2 v a (by omega) hv
          have up : (∃ l', PL n l' ∧ ex (l ++ [j]) l' ∧ HM n c D l') → ∃ l', PL n l' ∧ ex l l' ∧ HM n c D l' := fun ⟨l', a, ⟨m, b⟩, g⟩ => ⟨l', a, ⟨j :: m, by rw [b, List.append_assoc]; rfl⟩, g⟩
          cases b1 with
          | false =>
            have no : ¬ ∃ l', PL n l' ∧ ex (l ++ [j]) l' ∧ HM n c D l' := fun ⟨l', a, b, g⟩ => by
              obtain ⟨x, y, x1, x2, y1, y2, z⟩ := bF rfl
              exact z (ft_no hf1 hl2 a b g x2 y2)
            exact ⟨none, _, _, by simp (disch := omega) [zs_Renamings_match_1, zmeth, xm_en, zret, zretz, zretv, zseq, zst, zinc, zkl, zskip, zk, zi, za, zbin, zdiv, zrem, zgi, zgr, zld, zldr, zlen, zn, zc, zcall, zcallv, zrcv, zdo, zdov, zpf, zpfc, zas, zasc, zmin, zmax, zcmp, zcz, zand_e, zor_e, zite_e, zbite_e, zif_e, znot_e, z_add, z_sub, z_mul, z_and, z_or, z_xor, z_shl, z_shr, zcpy, -List.getElem?_cons_succ, zg_0, zg_1, zg_2, zg_3, zg_4, zg_5, zg_6, zg_7, zg_8, zg_9, zt_0, zt_12, zt_20, zt_26, zt_32, zf_0_0, zf_0_1, zf_0_2, zf_0_3, zf_0_4, zf_12_0, zf_12_1, zf_12_2, zf_12_4, zf_12_5, zf_20_1, zf_20_2, zf_20_3, zf_20_4, zf_20_6, zf_26_0, zf_26_1, zf_26_2, zf_26_3, zf_32_0, zf_32_1, zf_32_3, zf_32_4, zf_32_5, zf_32_6, zc_lt, zc_le, zc_gt, zc_ge, zc_eq, zc_ne, zc_lt0, zc_ge0, zc_gt0, zc_eq0, zc_ne0, zb_ne, zb_eq, zb_01, z_00, z_01, z_11, zb_f, zb_T, zb_F, zbm1, zbm2, zbm5, zbm6, zbm3, zbm4, nI_clamp, zmod_n, pk_div, nI_ne0, pk_mul, nI_add, nI_1, nI_or, nI_shl1, nI_bit, zb_eq1, zi_29, bt, e1], back q1, rfl, more no⟩
          | true =>
            obtain ⟨b2, M2, e2, q3, iff⟩ := ih f (l ++ [j]) (tk ||| 2 ^ j) _ (by omega) (by omega) hl2 t2 q1 (fun z => HM_of hc hD hf1 (hl2.full z) (bT rfl))
            rw [len] at e2
            cases b2 with
            | false => exact ⟨none, _, M2, by simp (disch := omega) [zs_Renamings_match_1, zmeth, xm_en, zret, zretz, zretv, zseq, zst, zinc, zkl, zskip, zk, zi, za, zbin, zdiv, zrem, zgi, zgr, zld, zldr, zlen, zn, zc, zcall, zcallv, zrcv, zdo, zdov, zpf, zpfc, zas, zasc, zmin, zmax, zcmp, zcz, zand_e, zor_e, zite_e, zbite_e, zif_e, znot_e, z_add, z_sub, z_mul, z_and, z_or, z_xor, z_shl, z_shr, zcpy, -List.getElem?_cons_succ, zg_0, zg_1, zg_2, zg_3, zg_4, zg_5, zg_6, zg_7, zg_8, zg_9, zt_0, zt_12, zt_20, zt_26, zt_32, zf_0_0, zf_0_1, zf_0_2, zf_0_3, zf_0_4, zf_12_0, zf_12_1, zf_12_2, zf_12_4, zf_12_5, zf_20_1, zf_20_2, zf_20_3, zf_20_4, zf_20_6, zf_26_0, zf_26_1, zf_26_2, zf_26_3, zf_32_0, zf_32_1, zf_32_3, zf_32_4, zf_32_5, zf_32_6, zc_lt, zc_le, zc_gt, zc_ge, zc_eq, zc_ne, zc_lt0, zc_ge0, zc_gt0, zc_eq0, zc_ne0, zb_ne, zb_eq, zb_01, z_00, z_01, z_11, zb_f, zb_T, zb_F, zbm1, zbm2, zbm5, zbm6, zbm3, zbm4, nI_clamp, zmod_n, pk_div, nI_ne0, pk_mul, nI_add, nI_1, nI_or, nI_shl1, nI_bit, zb_eq1, zi_29, bt, nx, e1, e2], back q3, rfl, more (fun z => by have := iff.mpr z; cases this)⟩
            | true => exact ⟨some (some (nI 1)), _, M2, by simp (disch := omega) [zs_Renamings_match_1, zmeth, xm_en, zret, zretz, zretv, zseq, zst, zinc, zkl, zskip, zk, zi, za, zbin, zdiv, zrem, zgi, zgr, zld, zldr, zlen, zn, zc, zcall, zcallv, zrcv, zdo, zdov, zpf, zpfc, zas, zasc, zmin, zmax, zcmp, zcz, zand_e, zor_e, zite_e, zbite_e, zif_e, znot_e, z_add, z_sub, z_mul, z_and, z_or, z_xor, z_shl, z_shr, zcpy, -List.getElem?_cons_succ, zg_0, zg_1, zg_2, zg_3, zg_4, zg_5, zg_6, zg_7, zg_8, zg_9, zt_0, zt_12, zt_20, zt_26, zt_32, zf_0_0, zf_0_1, zf_0_2, zf_0_3, zf_0_4, zf_12_0, zf_12_1, zf_12_2, zf_12_4, zf_12_5, zf_20_1, zf_20_2, zf_20_3, zf_20_4, zf_20_6, zf_26_0, zf_26_1, zf_26_2, zf_26_3, zf_32_0, zf_32_1, zf_32_3, zf_32_4, zf_32_5, zf_32_6, zc_lt, zc_le, zc_gt, zc_ge, zc_eq, zc_ne, zc_lt0, zc_ge0, zc_gt0, zc_eq0, zc_ne0, zb_ne, zb_eq, zb_01, z_00, z_01, z_11, zb_f, zb_T, zb_F, zbm1, zbm2, zbm5, zbm6, zbm3, zbm4, nI_clamp, zmod_n, pk_div, nI_ne0, pk_mul, nI_add, nI_1, nI_or, nI_shl1, nI_bit, zb_eq1, zi_29, bt, nx, e1, e2]; rfl, back q3, Or.inr ⟨rfl, up (iff.mp rfl)⟩⟩) _ M ⟨h, rfl, fun v a b => by omega⟩
    have k := (r1 h).1
    rcases w3 with ⟨rfl, rfl, w3⟩ | ⟨rfl, w3⟩
    · refine ⟨false, M', by rw [match_S]; simp (disch := omega) [zmeth, xm_en, zret, zretz, zretv, zseq, zst, zinc, zkl, zskip, zk, zi, za, zbin, zdiv, zrem, zgi, zgr, zld, zldr, zlen, zn, zc, zcall, zcallv, zrcv, zdo, zdov, zpf, zpfc, zas, zasc, zmin, zmax, zcmp, zcz, zand_e, zor_e, zite_e, zbite_e, zif_e, znot_e, z_add, z_sub, z_mul, z_and, z_or, z_xor, z_shl, z_shr, zcpy, -List.getElem?_cons_succ, zg_0, zg_1, zg_2, zg_3, zg_4, zg_5, zg_6, zg_7, zg_8, zg_9, zc_lt, zc_le, zc_gt, zc_ge, zc_eq, zc_ne, zc_lt0, zc_ge0, zc_gt0, zc_eq0, zc_ne0, zb_ne, zb_eq, zb_01, z_00, z_01, z_11, zb_f, zb_T, zb_F, zbm1, zbm2, zbm5, zbm6, zbm3, zbm4, nI_clamp, zmod_n, pk_div, nI_ne0, pk_mul, nI_add, nI_1, ztb_tag hk1, k, hn, n8, w1], w2, fun z => by (cases z), fun ⟨l', a, ⟨m, b⟩, g⟩ => ?_⟩
      match m, b with
      | [], b =>
        have := a.1
        rw [b, List.append_nil] at this
        omega
      | v :: m, b =>
        have vm : v ∈ l' := by rw [b]; exact List.mem_append.mpr (Or.inr (List.mem_cons_self ..))
        have nd := a.2.1
        rw [b] at nd
        have vl : v ∉ l := fun z => (List.nodup_append.mp nd).2.2 v z v (List.mem_cons_self ..) rfl
        have v0 : v ≠ 0 := fun z => vl (z ▸ hl.mem0)
        exact absurd ⟨l', a, ⟨m, by rw [b, List.append_assoc]; rfl⟩, g⟩ (w3 v (by omega) (a.2.2.1 v vm) vl)
    · exact ⟨true, M', by rw [match_S]; simp (disch := omega) [zmeth, xm_en, zret, zretz, zretv, zseq, zst, zinc, zkl, zskip, zk, zi, za, zbin, zdiv, zrem, zgi, zgr, zld, zldr, zlen, zn, zc, zcall, zcallv, zrcv, zdo, zdov, zpf, zpfc, zas, zasc, zmin, zmax, zcmp, zcz, zand_e, zor_e, zite_e, zbite_e, zif_e, znot_e, z_add, z_sub, z_mul, z_and, z_or, z_xor, z_shl, z_shr, zcpy, -List.getElem?_cons_succ, zg_0, zg_1, zg_2, zg_3, zg_4, zg_5, zg_6, zg_7, zg_8, zg_9, zc_lt, zc_le, zc_gt, zc_ge, zc_eq, zc_ne, zc_lt0, zc_ge0, zc_gt0, zc_eq0, zc_ne0, zb_ne, zb_eq, zb_01, z_00, z_01, z_11, zb_f, zb_T, zb_F, zbm1, zbm2, zbm5, zbm6, zbm3, zbm4, nI_clamp, zmod_n, pk_div, nI_ne0, pk_mul, nI_add, nI_1, ztb_tag hk1, k, hn, n8, w1], w2, fun _ => w3, fun _ => rfl⟩
