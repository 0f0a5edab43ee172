/-! THE REFERENCE's tables: filled, copied, searched -/
theorem zcl_ne4 {v w : Nat} (hw : w < 8) : xe_cd .ne (zcl (-4) v) (nI w) = !decide (v = w) := by
  have := zcl_eq4 (v := v) hw
  show (!decide (zcl (-4) v = nI w)) = _
  rw [show decide (zcl (-4) v = nI w) = decide (v = w) from this]
theorem qM_behind {M : zM} {t n a w : Nat} {c : tC} (ht : t < 6) (h : rT M t n c) (h8 : n ≤ 8) (ha : a < n) (hw : w < 8) (hx : zidx (fun b => decide (c a b = w)) 0 n < n) : zf_M_behind [.ref 32, .int (nI t), .int (nI a), .int (nI w)] M = some (some (nI (zidx (fun b => decide (c a b = w)) 0 n)), M) := by
  have hno : ∀ j, j < zidx (fun b => decide (c a b = w)) 0 n → ¬ c a j = w := fun j hj => by
    have := zidx_no (p := fun b => decide (c a b = w)) n 0 j (by omega) hj
    simpa using this
  have hyes : c a (zidx (fun b => decide (c a b = w)) 0 n) = w := by
    have := zidx_lt (p := fun b => decide (c a b = w)) n 0 (by omega)
    simpa using this
  have R := zwh_up (c := zc_M_behind_1) (s := zs_M_behind_1) (fun j => [some (Value.ref (32)), some (Value.int (nI t)), some (Value.int (nI a)), some (Value.int (nI w)), some (Value.int (nI j))]) (fun _ => M) (n := zidx (fun b => decide (c a b = w)) 0 n) (zidx (fun b => decide (c a b = w)) 0 n) 0 (by omega) ?_ ?_ ?_
  · simp (disch := omega) [zf_M_behind, zmeth, xm_en, zret, zretz, zretv, zseq, zst, zinc, zkl, zskip, zk, zi, za, zbin, zdiv, zrem, zgi, zgr, zld, zldr, zlen, zn, zc, zcall, zcallv, zrcv, zdo, zdov, zpf, zpfc, zas, zasc, zmin, zmax, zcmp, zcz, zand_e, zor_e, zite_e, zbite_e, zif_e, znot_e, z_add, z_sub, z_mul, z_and, z_or, z_xor, z_shl, z_shr, zcpy, -List.getElem?_cons_succ, zg_0, zg_1, zg_2, zg_3, zg_4, zg_5, zg_6, zg_7, zg_8, zg_9, R]
  · intro j _ h2
    simp (disch := omega) [zc_M_behind_1, zmeth, xm_en, zret, zretz, zretv, zseq, zst, zinc, zkl, zskip, zk, zi, za, zbin, zdiv, zrem, zgi, zgr, zld, zldr, zlen, zn, zc, zcall, zcallv, zrcv, zdo, zdov, zpf, zpfc, zas, zasc, zmin, zmax, zcmp, zcz, zand_e, zor_e, zite_e, zbite_e, zif_e, znot_e, z_add, z_sub, z_mul, z_and, z_or, z_xor, z_shl, z_shr, zcpy, -List.getElem?_cons_succ, zg_0, zg_1, zg_2, zg_3, zg_4, zg_5, zg_6, zg_7, zg_8, zg_9, zc_lt, zc_le, zc_gt, zc_ge, zc_eq, zc_ne, zc_lt0, zc_ge0, zc_gt0, zc_eq0, zc_ne0, zb_ne, zb_eq, zb_01, z_00, z_01, z_11, zb_f, zb_T, zb_F, zbm1, zbm2, zbm5, zbm6, zbm3, zbm4, nI_clamp, zmod_n, pk_div, nI_ne0, pk_mul, nI_add, nI_1, zt_0, zt_12, zt_20, zt_26, zt_32, zf_0_0, zf_0_1, zf_0_2, zf_0_3, zf_0_4, zf_12_0, zf_12_1, zf_12_2, zf_12_4, zf_12_5, zf_20_1, zf_20_2, zf_20_3, zf_20_4, zf_20_6, zf_26_0, zf_26_1, zf_26_2, zf_26_3, zf_32_0, zf_32_1, zf_32_3, zf_32_4, zf_32_5, zf_32_6, qM_rcell ht h h8 ha (show j < n by omega), zcl_ne4 hw, hno j h2]
  · intro j _ h2
    simp (disch := omega) [zs_M_behind_1, zmeth, xm_en, zret, zretz, zretv, zseq, zst, zinc, zkl, zskip, zk, zi, za, zbin, zdiv, zrem, zgi, zgr, zld, zldr, zlen, zn, zc, zcall, zcallv, zrcv, zdo, zdov, zpf, zpfc, zas, zasc, zmin, zmax, zcmp, zcz, zand_e, zor_e, zite_e, zbite_e, zif_e, znot_e, z_add, z_sub, z_mul, z_and, z_or, z_xor, z_shl, z_shr, zcpy, -List.getElem?_cons_succ, zg_0, zg_1, zg_2, zg_3, zg_4, zg_5, zg_6, zg_7, zg_8, zg_9, zc_lt, zc_le, zc_gt, zc_ge, zc_eq, zc_ne, zc_lt0, zc_ge0, zc_gt0, zc_eq0, zc_ne0, zb_ne, zb_eq, zb_01, z_00, z_01, z_11, zb_f, zb_T, zb_F, zbm1, zbm2, zbm5, zbm6, zbm3, zbm4, nI_clamp, zmod_n, pk_div, nI_ne0, pk_mul, nI_add, nI_1]
  · simp (disch := omega) [zc_M_behind_1, zmeth, xm_en, zret, zretz, zretv, zseq, zst, zinc, zkl, zskip, zk, zi, za, zbin, zdiv, zrem, zgi, zgr, zld, zldr, zlen, zn, zc, zcall, zcallv, zrcv, zdo, zdov, zpf, zpfc, zas, zasc, zmin, zmax, zcmp, zcz, zand_e, zor_e, zite_e, zbite_e, zif_e, znot_e, z_add, z_sub, z_mul, z_and, z_or, z_xor, z_shl, z_shr, zcpy, -List.getElem?_cons_succ, zg_0, zg_1, zg_2, zg_3, zg_4, zg_5, zg_6, zg_7, zg_8, zg_9, zc_lt, zc_le, zc_gt, zc_ge, zc_eq, zc_ne, zc_lt0, zc_ge0, zc_gt0, zc_eq0, zc_ne0, zb_ne, zb_eq, zb_01, z_00, z_01, z_11, zb_f, zb_T, zb_F, zbm1, zbm2, zbm5, zbm6, zbm3, zbm4, nI_clamp, zmod_n, pk_div, nI_ne0, pk_mul, nI_add, nI_1, zt_0, zt_12, zt_20, zt_26, zt_32, zf_0_0, zf_0_1, zf_0_2, zf_0_3, zf_0_4, zf_12_0, zf_12_1, zf_12_2, zf_12_4, zf_12_5, zf_20_1, zf_20_2, zf_20_3, zf_20_4, zf_20_6, zf_26_0, zf_26_1, zf_26_2, zf_26_3, zf_32_0, zf_32_1, zf_32_3, zf_32_4, zf_32_5, zf_32_6, qM_rcell ht h h8 ha hx, zcl_ne4 hw, hyes]
theorem qM_ahead {M : zM} {t n b w : Nat} {c : tC} (ht : t < 6) (h : rT M t n c) (h8 : n ≤ 8) (hb : b < n) (hw : w < 8) (hx : zidx (fun a => decide (c a b = w)) 0 n < n) : zf_M_ahead [.ref 32, .int (nI t), .int (nI w), .int (nI b)] M = some (some (nI (zidx (fun a => decide (c a b = w)) 0 n)), M) := by
  have hno : ∀ j, j < zidx (fun a => decide (c a b = w)) 0 n → ¬ c j b = w := fun j hj => by
    have := zidx_no (p := fun a => decide (c a b = w)) n 0 j (by omega) hj
    simpa using this
  have hyes : c (zidx (fun a => decide (c a b = w)) 0 n) b = w := by
    have := zidx_lt (p := fun a => decide (c a b = w)) n 0 (by omega)
    simpa using this
  have R := zwh_up (c := zc_M_ahead_1) (s := zs_M_ahead_1) (fun j => [some (Value.ref (32)), some (Value.int (nI t)), some (Value.int (nI w)), some (Value.int (nI b)), some (Value.int (nI j))]) (fun _ => M) (n := zidx (fun a => decide (c a b = w)) 0 n) (zidx (fun a => decide (c a b = w)) 0 n) 0 (by omega) ?_ ?_ ?_
  · simp (disch := omega) [zf_M_ahead, zmeth, xm_en, zret, zretz, zretv, zseq, zst, zinc, zkl, zskip, zk, zi, za, zbin, zdiv, zrem, zgi, zgr, zld, zldr, zlen, zn, zc, zcall, zcallv, zrcv, zdo, zdov, zpf, zpfc, zas, zasc, zmin, zmax, zcmp, zcz, zand_e, zor_e, zite_e, zbite_e, zif_e, znot_e, z_add, z_sub, z_mul, z_and, z_or, z_xor, z_shl, z_shr, zcpy, -List.getElem?_cons_succ, zg_0, zg_1, zg_2, zg_3, zg_4, zg_5, zg_6, zg_7, zg_8, zg_9, R]
  · intro j _ h2
    simp (disch := omega) [zc_M_ahead_1, zmeth, xm_en, zret, zretz, zretv, zseq, zst, zinc, zkl, zskip, zk, zi, za, zbin, zdiv, zrem, zgi, zgr, zld, zldr, zlen, zn, zc, zcall, zcallv, zrcv, zdo, zdov, zpf, zpfc, zas, zasc, zmin, zmax, zcmp, zcz, zand_e, zor_e, zite_e, zbite_e, zif_e, znot_e, z_add, z_sub, z_mul, z_and, z_or, z_xor, z_shl, z_shr, zcpy, -List.getElem?_cons_succ, zg_0, zg_1, zg_2, zg_3, zg_4, zg_5, zg_6, zg_7, zg_8, zg_9, zc_lt, zc_le, zc_gt, zc_ge, zc_eq, zc_ne, zc_lt0, zc_ge0, zc_gt0, zc_eq0, zc_ne0, zb_ne, zb_eq, zb_01, z_00, z_01, z_11, zb_f, zb_T, zb_F, zbm1, zbm2, zbm5, zbm6, zbm3, zbm4, nI_clamp, zmod_n, pk_div, nI_ne0, pk_mul, nI_add, nI_1, zt_0, zt_12, zt_20, zt_26, zt_32, zf_0_0, zf_0_1, zf_0_2, zf_0_3, zf_0_4, zf_12_0, zf_12_1, zf_12_2, zf_12_4, zf_12_5, zf_20_1, zf_20_2, zf_20_3, zf_20_4, zf_20_6, zf_26_0, zf_26_1, zf_26_2, zf_26_3, zf_32_0, zf_32_1, zf_32_3, zf_32_4, zf_32_5, zf_32_6, qM_rcell ht h h8 (show j < n by omega) hb, zcl_ne4 hw, hno j h2]
  · intro j _ h2
    simp (disch := omega) [zs_M_ahead_1, zmeth, xm_en, zret, zretz, zretv, zseq, zst, zinc, zkl, zskip, zk, zi, za, zbin, zdiv, zrem, zgi, zgr, zld, zldr, zlen, zn, zc, zcall, zcallv, zrcv, zdo, zdov, zpf, zpfc, zas, zasc, zmin, zmax, zcmp, zcz, zand_e, zor_e, zite_e, zbite_e, zif_e, znot_e, z_add, z_sub, z_mul, z_and, z_or, z_xor, z_shl, z_shr, zcpy, -List.getElem?_cons_succ, zg_0, zg_1, zg_2, zg_3, zg_4, zg_5, zg_6, zg_7, zg_8, zg_9, zc_lt, zc_le, zc_gt, zc_ge, zc_eq, zc_ne, zc_lt0, zc_ge0, zc_gt0, zc_eq0, zc_ne0, zb_ne, zb_eq, zb_01, z_00, z_01, z_11, zb_f, zb_T, zb_F, zbm1, zbm2, zbm5, zbm6, zbm3, zbm4, nI_clamp, zmod_n, pk_div, nI_ne0, pk_mul, nI_add, nI_1]
  · simp (disch := omega) [zc_M_ahead_1, zmeth, xm_en, zret, zretz, zretv, zseq, zst, zinc, zkl, zskip, zk, zi, za, zbin, zdiv, zrem, zgi, zgr, zld, zldr, zlen, zn, zc, zcall, zcallv, zrcv, zdo, zdov, zpf, zpfc, zas, zasc, zmin, zmax, zcmp, zcz, zand_e, zor_e, zite_e, zbite_e, zif_e, znot_e, z_add, z_sub, z_mul, z_and, z_or, z_xor, z_shl, z_shr, zcpy, -List.getElem?_cons_succ, zg_0, zg_1, zg_2, zg_3, zg_4, zg_5, zg_6, zg_7, zg_8, zg_9, zc_lt, zc_le, zc_gt, zc_ge, zc_eq, zc_ne, zc_lt0, zc_ge0, zc_gt0, zc_eq0, zc_ne0, zb_ne, zb_eq, zb_01, z_00, z_01, z_11, zb_f, zb_T, zb_F, zbm1, zbm2, zbm5, zbm6, zbm3, zbm4, nI_clamp, zmod_n, pk_div, nI_ne0, pk_mul, nI_add, nI_1, zt_0, zt_12, zt_20, zt_26, zt_32, zf_0_0, zf_0_1, zf_0_2, zf_0_3, zf_0_4, zf_12_0, zf_12_1, zf_12_2, zf_12_4, zf_12_5, zf_20_1, zf_20_2, zf_20_3, zf_20_4, zf_20_6, zf_26_0, zf_26_1, zf_26_2, zf_26_3, zf_32_0, zf_32_1, zf_32_3, zf_32_4, zf_32_5, zf_32_6, qM_rcell ht h h8 hx hb, zcl_ne4 hw, hyes]
/-- rows below a, and of row a the columns below b, of table t are c's -/
def zft (M : zM) (t n : Nat) (c : tC) (a b : Nat) : zM := fun q j => if q = 34 ∧ 64 * t ≤ j ∧ j < 64 * t + 64 ∧ (j - 64 * t) % 8 < n ∧ ((j - 64 * t) / 8 < a ∨ ((j - 64 * t) / 8 = a ∧ (j - 64 * t) % 8 < b)) then zcl (-4) (c ((j - 64 * t) / 8) ((j - 64 * t) % 8)) else M q j
theorem zft_0 {M : zM} {t n : Nat} {c : tC} : zft M t n c 0 0 = M := by
  funext q j
  unfold zft
  rw [if_neg (by omega)]
theorem zft_r {M : zM} {t n a : Nat} {c : tC} : zft M t n c a n = zft M t n c (a + 1) 0 := by
  funext q j
  unfold zft
  have : (q = 34 ∧ 64 * t ≤ j ∧ j < 64 * t + 64 ∧ (j - 64 * t) % 8 < n ∧ ((j - 64 * t) / 8 < a ∨ ((j - 64 * t) / 8 = a ∧ (j - 64 * t) % 8 < n))) ↔ (q = 34 ∧ 64 * t ≤ j ∧ j < 64 * t + 64 ∧ (j - 64 * t) % 8 < n ∧ ((j - 64 * t) / 8 < a + 1 ∨ ((j - 64 * t) / 8 = a + 1 ∧ (j - 64 * t) % 8 < 0))) := by omega
  simp only [this]
theorem zft_s {M : zM} {t n a b : Nat} {c : tC} (h8 : n ≤ 8) (ha : a < 8) (hb : b < n) : zup (zft M t n c a b) 34 (64 * t + 8 * a + b) (zcl (-4) (c a b)) = zft M t n c a (b + 1) := by
  funext q j
  rw [zup_e]
  unfold zft
  by_cases h : q = 34 ∧ j = 64 * t + 8 * a + b
  · rw [if_pos h]
    obtain ⟨h1, h2⟩ := h
    have e1 : (j - 64 * t) / 8 = a := by omega
    have e2 : (j - 64 * t) % 8 = b := by omega
    rw [if_pos (by omega), e1, e2]
  · rw [if_neg h]
    have : (q = 34 ∧ 64 * t ≤ j ∧ j < 64 * t + 64 ∧ (j - 64 * t) % 8 < n ∧ ((j - 64 * t) / 8 < a ∨ ((j - 64 * t) / 8 = a ∧ (j - 64 * t) % 8 < b))) ↔ (q = 34 ∧ 64 * t ≤ j ∧ j < 64 * t + 64 ∧ (j - 64 * t) % 8 < n ∧ ((j - 64 * t) / 8 < a ∨ ((j - 64 * t) / 8 = a ∧ (j - 64 * t) % 8 < b + 1))) := by
      constructor
      · omega
      · intro g
        refine ⟨g.1, g.2.1, g.2.2.1, g.2.2.2.1, ?_⟩
        rcases g.2.2.2.2 with g2 | g2
        · exact Or.inl g2
        · refine Or.inr ⟨g2.1, ?_⟩
          rcases Nat.lt_or_ge ((j - 64 * t) % 8) b with g3 | g3
          · exact g3
          · exact absurd ⟨g.1, by omega⟩ h
    simp only [this]
theorem zft_out {M : zM} {t n a b : Nat} {c : tC} {q j : Nat} (h : ¬ (q = 34 ∧ 64 * t ≤ j ∧ j < 64 * t + 64)) : zft M t n c a b q j = M q j := by
  unfold zft
  rw [if_neg (by omega)]
theorem zft_in {M : zM} {t n : Nat} {c : tC} {a b : Nat} (h8 : n ≤ 8) (ha : a < n) (hb : b < n) : zft M t n c n 0 34 (64 * t + 8 * a + b) = zcl (-4) (c a b) := by
  unfold zft
  have e1 : (64 * t + 8 * a + b - 64 * t) / 8 = a := by omega
  have e2 : (64 * t + 8 * a + b - 64 * t) % 8 = b := by omega
  rw [e1, e2, if_pos (by omega)]
/-! table -/
theorem tNew_m (a b : Nat) (ha : a < 8) (hb : b < 8) : (bif decide (a = 0) then nI b else bif decide (b = 0) then nI a else -4) = zcl (-4) (tNew a b) := by
  unfold tNew
  by_cases h : a = 0
  · simp [h, zcl, hb]
  · by_cases h2 : b = 0
    · simp [h, h2, zcl, ha]
    · simp [h, h2, zcl]
theorem qM_table2 {M : zM} {t n a : Nat} (ht : t < 4) (h8 : n ≤ 8) (ha : a < n) : zwh zc_M_table_2 zs_M_table_2 [some (Value.ref (32)), some (Value.int (nI t)), some (Value.int (nI n)), some (Value.int (nI a)), some (Value.int (nI 0))] (zft M t n tNew a 0) = some (none, [some (Value.ref (32)), some (Value.int (nI t)), some (Value.int (nI n)), some (Value.int (nI a)), some (Value.int (nI n))], zft M t n tNew (a + 1) 0) := by
  rw [← zft_r]
  refine zwh_up (c := zc_M_table_2) (s := zs_M_table_2) (fun j => [some (Value.ref (32)), some (Value.int (nI t)), some (Value.int (nI n)), some (Value.int (nI a)), some (Value.int (nI j))]) (fun j => zft M t n tNew a j) (n := n) n 0 (by omega) ?_ ?_ ?_
  · intro j h1 h2
    simp (disch := omega) [zc_M_table_2, zmeth, xm_en, zret, zretz, zretv, zseq, zst, zinc, zkl, zskip, zk, zi, za, zbin, zdiv, zrem, zgi, zgr, zld, zldr, zlen, zn, zc, zcall, zcallv, zrcv, zdo, zdov, zpf, zpfc, zas, zasc, zmin, zmax, zcmp, zcz, zand_e, zor_e, zite_e, zbite_e, zif_e, znot_e, z_add, z_sub, z_mul, z_and, z_or, z_xor, z_shl, z_shr, zcpy, -List.getElem?_cons_succ, zg_0, zg_1, zg_2, zg_3, zg_4, zg_5, zg_6, zg_7, zg_8, zg_9, zc_lt, zc_le, zc_gt, zc_ge, zc_eq, zc_ne, zc_lt0, zc_ge0, zc_gt0, zc_eq0, zc_ne0, zb_ne, zb_eq, zb_01, z_00, z_01, z_11, zb_f, zb_T, zb_F, zbm1, zbm2, zbm5, zbm6, zbm3, zbm4, nI_clamp, zmod_n, pk_div, nI_ne0, pk_mul, nI_add, nI_1, h2]
  · intro j h1 h2
    have e1 := zft_s (M := M) (t := t) (c := tNew) h8 (show a < 8 by omega) h2
    have e2 := tNew_m a j (by omega) (by omega)
    have p := qM_puts (M := zft M t n tNew a j) (t := t) (a := a) (b := j) (v := zcl (-4) (tNew a j)) (by omega)
    simp (disch := omega) [zs_M_table_2, zmeth, xm_en, zret, zretz, zretv, zseq, zst, zinc, zkl, zskip, zk, zi, za, zbin, zdiv, zrem, zgi, zgr, zld, zldr, zlen, zn, zc, zcall, zcallv, zrcv, zdo, zdov, zpf, zpfc, zas, zasc, zmin, zmax, zcmp, zcz, zand_e, zor_e, zite_e, zbite_e, zif_e, znot_e, z_add, z_sub, z_mul, z_and, z_or, z_xor, z_shl, z_shr, zcpy, -List.getElem?_cons_succ, zg_0, zg_1, zg_2, zg_3, zg_4, zg_5, zg_6, zg_7, zg_8, zg_9, zc_lt, zc_le, zc_gt, zc_ge, zc_eq, zc_ne, zc_lt0, zc_ge0, zc_gt0, zc_eq0, zc_ne0, zb_ne, zb_eq, zb_01, z_00, z_01, z_11, zb_f, zb_T, zb_F, zbm1, zbm2, zbm5, zbm6, zbm3, zbm4, nI_clamp, zmod_n, pk_div, nI_ne0, pk_mul, nI_add, nI_1, zt_0, zt_12, zt_20, zt_26, zt_32, zf_0_0, zf_0_1, zf_0_2, zf_0_3, zf_0_4, zf_12_0, zf_12_1, zf_12_2, zf_12_4, zf_12_5, zf_20_1, zf_20_2, zf_20_3, zf_20_4, zf_20_6, zf_26_0, zf_26_1, zf_26_2, zf_26_3, zf_32_0, zf_32_1, zf_32_3, zf_32_4, zf_32_5, zf_32_6, e2, p, e1]
  · simp (disch := omega) [zc_M_table_2, zmeth, xm_en, zret, zretz, zretv, zseq, zst, zinc, zkl, zskip, zk, zi, za, zbin, zdiv, zrem, zgi, zgr, zld, zldr, zlen, zn, zc, zcall, zcallv, zrcv, zdo, zdov, zpf, zpfc, zas, zasc, zmin, zmax, zcmp, zcz, zand_e, zor_e, zite_e, zbite_e, zif_e, znot_e, z_add, z_sub, z_mul, z_and, z_or, z_xor, z_shl, z_shr, zcpy, -List.getElem?_cons_succ, zg_0, zg_1, zg_2, zg_3, zg_4, zg_5, zg_6, zg_7, zg_8, zg_9, zc_lt, zc_le, zc_gt, zc_ge, zc_eq, zc_ne, zc_lt0, zc_ge0, zc_gt0, zc_eq0, zc_ne0, zb_ne, zb_eq, zb_01, z_00, z_01, z_11, zb_f, zb_T, zb_F, zbm1, zbm2, zbm5, zbm6, zbm3, zbm4, nI_clamp, zmod_n, pk_div, nI_ne0, pk_mul, nI_add, nI_1]
theorem RS_ft {T : tS} {M : zM} {s n : Nat} {c : tC} (hT : TO T) (hs : s < 4) (h8 : n ≤ 8) (hR : RS T M) : RS (tset T s n c) (zft (zup M 33 s (nI n)) s n c n 0) := by
  intro t ht
  unfold tset
  by_cases h : t = s
  · subst h
    simp only [if_true]
    refine ⟨?_, fun a b ha hb => zft_in h8 ha hb⟩
    rw [zft_out (by omega), zup_e, if_pos ⟨rfl, rfl⟩]
  · rw [if_neg h]
    refine (hR t ht).same (hT t ht).1.2 ?_ (fun j h1 h2 => ?_)
    · rw [zft_out (by omega), zup_e, if_neg (by omega)]
    · rw [zft_out (by omega), zup_e, if_neg (by omega)]
theorem TO_set {T : tS} {s n : Nat} {c : tC} (hT : TO T) (h : tO n c) : TO (tset T s n c) := fun t ht => by
  unfold tset
  by_cases h2 : t = s
  · rw [if_pos h2]; exact h
  · rw [if_neg h2]; exact hT t ht
theorem qM_table {T : tS} {M : zM} (x y : Int32) (hR : RS T M) (hT : TO T) : ∃ M', zf_M_table [.ref 32, .int x, .int y] M = some (some (aTable x y), M') ∧ RS (sTable T x y) M' ∧ TO (sTable T x y) ∧ zlo M M' := by
  cases hk : okTable x y with
  | false =>
    refine ⟨M, ?_, by simpa [sTable, hk] using hR, by simpa [sTable, hk] using hT, zlo.refl M⟩
    rcases z3 x (n := 4) (by decide) with h | ⟨t, ht, rfl⟩
    · simp [zf_M_table, zmeth, xm_en, zret, zretz, zretv, zseq, zst, zinc, zkl, zskip, zk, zi, za, zbin, zdiv, zrem, zgi, zgr, zld, zldr, zlen, zn, zc, zcall, zcallv, zrcv, zdo, zdov, zpf, zpfc, zas, zasc, zmin, zmax, zcmp, zcz, zand_e, zor_e, zite_e, zbite_e, zif_e, znot_e, z_add, z_sub, z_mul, z_and, z_or, z_xor, z_shl, z_shr, zcpy, -List.getElem?_cons_succ, zg_0, zg_1, zg_2, zg_3, zg_4, zg_5, zg_6, zg_7, zg_8, zg_9, qM_isTable, zb_ne, h, aTable, hk]
    · have e := zlt_y ht (by decide)
      unfold okTable at hk
      rw [e, Bool.true_and] at hk
      have hk2 : okTable (nI t) y = false := by unfold okTable; rw [e, Bool.true_and, hk]
      simp [zf_M_table, zmeth, xm_en, zret, zretz, zretv, zseq, zst, zinc, zkl, zskip, zk, zi, za, zbin, zdiv, zrem, zgi, zgr, zld, zldr, zlen, zn, zc, zcall, zcallv, zrcv, zdo, zdov, zpf, zpfc, zas, zasc, zmin, zmax, zcmp, zcz, zand_e, zor_e, zite_e, zbite_e, zif_e, znot_e, z_add, z_sub, z_mul, z_and, z_or, z_xor, z_shl, z_shr, zcpy, -List.getElem?_cons_succ, zg_0, zg_1, zg_2, zg_3, zg_4, zg_5, zg_6, zg_7, zg_8, zg_9, qM_isTable, qM_in, zin1, zb_ne, e, aTable, hk, hk2]
  | true =>
    have hk0 := hk
    simp only [okTable, Bool.and_eq_true, Bool.not_eq_true', decide_eq_false_iff_not] at hk
    obtain ⟨h1, h2, h3⟩ := hk
    obtain ⟨t, ht, rfl⟩ := zlt_t (by decide) h1
    obtain ⟨m, hm, rfl⟩ := zlt_t (by decide) h2
    have hm1 : 1 ≤ m := by
      rcases Nat.eq_zero_or_pos m with g | g
      · exact absurd (by rw [g]) h3
      · exact g
    have R := zwh_up (c := zc_M_table_1) (s := zs_M_table_1) (fun j => [some (Value.ref (32)), some (Value.int (nI t)), some (Value.int (nI m)), some (Value.int (nI j)), none]) (fun j => zft (zup M 33 t (nI m)) t m tNew j 0) (n := m) m 0 (by omega) ?_ ?_ ?_
    · rw [zft_0] at R
      refine ⟨zft (zup M 33 t (nI m)) t m tNew m 0, ?_, ?_, ?_, ?_⟩
      · simp (disch := omega) [zf_M_table, zmeth, xm_en, zret, zretz, zretv, zseq, zst, zinc, zkl, zskip, zk, zi, za, zbin, zdiv, zrem, zgi, zgr, zld, zldr, zlen, zn, zc, zcall, zcallv, zrcv, zdo, zdov, zpf, zpfc, zas, zasc, zmin, zmax, zcmp, zcz, zand_e, zor_e, zite_e, zbite_e, zif_e, znot_e, z_add, z_sub, z_mul, z_and, z_or, z_xor, z_shl, z_shr, zcpy, -List.getElem?_cons_succ, zg_0, zg_1, zg_2, zg_3, zg_4, zg_5, zg_6, zg_7, zg_8, zg_9, zt_0, zt_12, zt_20, zt_26, zt_32, zf_0_0, zf_0_1, zf_0_2, zf_0_3, zf_0_4, zf_12_0, zf_12_1, zf_12_2, zf_12_4, zf_12_5, zf_20_1, zf_20_2, zf_20_3, zf_20_4, zf_20_6, zf_26_0, zf_26_1, zf_26_2, zf_26_3, zf_32_0, zf_32_1, zf_32_3, zf_32_4, zf_32_5, zf_32_6, qM_isTable, qM_in, zin1, zb_ne, h1, h2, h3, aTable, hk0, zi_33, nI_clamp, R]
      · simp only [sTable, hk0, cond_true]
        rw [nI_clamp (by omega), nI_clamp (by omega)]
        exact RS_ft hT ht (by omega) hR
      · simp only [sTable, hk0, cond_true]
        rw [nI_clamp (by omega), nI_clamp (by omega)]
        exact TO_set hT (tO_new hm1 (by omega))
      · intro k j hk
        rw [zft_out (by omega), zup_e, if_neg (by omega)]
    · intro j h1 h2
      simp (disch := omega) [zc_M_table_1, zmeth, xm_en, zret, zretz, zretv, zseq, zst, zinc, zkl, zskip, zk, zi, za, zbin, zdiv, zrem, zgi, zgr, zld, zldr, zlen, zn, zc, zcall, zcallv, zrcv, zdo, zdov, zpf, zpfc, zas, zasc, zmin, zmax, zcmp, zcz, zand_e, zor_e, zite_e, zbite_e, zif_e, znot_e, z_add, z_sub, z_mul, z_and, z_or, z_xor, z_shl, z_shr, zcpy, -List.getElem?_cons_succ, zg_0, zg_1, zg_2, zg_3, zg_4, zg_5, zg_6, zg_7, zg_8, zg_9, zc_lt, zc_le, zc_gt, zc_ge, zc_eq, zc_ne, zc_lt0, zc_ge0, zc_gt0, zc_eq0, zc_ne0, zb_ne, zb_eq, zb_01, z_00, z_01, z_11, zb_f, zb_T, zb_F, zbm1, zbm2, zbm5, zbm6, zbm3, zbm4, nI_clamp, zmod_n, pk_div, nI_ne0, pk_mul, nI_add, nI_1, h2]
    · intro j h3 h4
      have R2 := qM_table2 (M := zup M 33 t (nI m)) ht (show m ≤ 8 by omega) h4
      simp (disch := omega) [zs_M_table_1, zmeth, xm_en, zret, zretz, zretv, zseq, zst, zinc, zkl, zskip, zk, zi, za, zbin, zdiv, zrem, zgi, zgr, zld, zldr, zlen, zn, zc, zcall, zcallv, zrcv, zdo, zdov, zpf, zpfc, zas, zasc, zmin, zmax, zcmp, zcz, zand_e, zor_e, zite_e, zbite_e, zif_e, znot_e, z_add, z_sub, z_mul, z_and, z_or, z_xor, z_shl, z_shr, zcpy, -List.getElem?_cons_succ, zg_0, zg_1, zg_2, zg_3, zg_4, zg_5, zg_6, zg_7, zg_8, zg_9, zc_lt, zc_le, zc_gt, zc_ge, zc_eq, zc_ne, zc_lt0, zc_ge0, zc_gt0, zc_eq0, zc_ne0, zb_ne, zb_eq, zb_01, z_00, z_01, z_11, zb_f, zb_T, zb_F, zbm1, zbm2, zbm5, zbm6, zbm3, zbm4, nI_clamp, zmod_n, pk_div, nI_ne0, pk_mul, nI_add, nI_1, R2]
    · simp (disch := omega) [zc_M_table_1, zmeth, xm_en, zret, zretz, zretv, zseq, zst, zinc, zkl, zskip, zk, zi, za, zbin, zdiv, zrem, zgi, zgr, zld, zldr, zlen, zn, zc, zcall, zcallv, zrcv, zdo, zdov, zpf, zpfc, zas, zasc, zmin, zmax, zcmp, zcz, zand_e, zor_e, zite_e, zbite_e, zif_e, znot_e, z_add, z_sub, z_mul, z_and, z_or, z_xor, z_shl, z_shr, zcpy, -List.getElem?_cons_succ, zg_0, zg_1, zg_2, zg_3, zg_4, zg_5, zg_6, zg_7, zg_8, zg_9, zc_lt, zc_le, zc_gt, zc_ge, zc_eq, zc_ne, zc_lt0, zc_ge0, zc_gt0, zc_eq0, zc_ne0, zb_ne, zb_eq, zb_01, z_00, z_01, z_11, zb_f, zb_T, zb_F, zbm1, zbm2, zbm5, zbm6, zbm3, zbm4, nI_clamp, zmod_n, pk_div, nI_ne0, pk_mul, nI_add, nI_1]
/-! a copy -/
def zcp (M : zM) (s t i : Nat) : zM := fun q j => if q = 33 ∧ j = s then M 33 t else if q = 34 ∧ 64 * s ≤ j ∧ j < 64 * s + i then M 34 (64 * t + (j - 64 * s)) else M q j
theorem qM_copies {M : zM} {s t : Nat} (hs : s < 6) (ht : t < 6) (hne : s ≠ t) : zf_M_copies [.ref 32, .int (nI s), .int (nI t)] M = some (none, zcp M s t 64) := by
  have e0 : zup M 33 s (M 33 t) = zcp M s t 0 := by
    funext q j
    rw [zup_e]
    unfold zcp
    by_cases h : q = 33 ∧ j = s
    · rw [if_pos h, if_pos h]
    · rw [if_neg h, if_neg h, if_neg (by omega)]
  have eS : ∀ i, i < 64 → zup (zcp M s t i) 34 (64 * s + i) (zcp M s t i 34 (64 * t + i)) = zcp M s t (i + 1) := fun i hi => by
    have e1 : zcp M s t i 34 (64 * t + i) = M 34 (64 * t + i) := by
      unfold zcp
      rw [if_neg (by omega), if_neg (by omega)]
    rw [e1]
    funext q j
    rw [zup_e]
    by_cases h : q = 34 ∧ j = 64 * s + i
    · rw [if_pos h]
      unfold zcp
      rw [if_neg (by omega), if_pos (by omega)]
      congr 1
      omega
    · rw [if_neg h]
      unfold zcp
      by_cases h2 : q = 33 ∧ j = s
      · rw [if_pos h2, if_pos h2]
      · rw [if_neg h2, if_neg h2]
        by_cases h3 : q = 34 ∧ 64 * s ≤ j ∧ j < 64 * s + i
        · rw [if_pos h3, if_pos (by omega)]
        · rw [if_neg h3, if_neg (by omega)]
  have R := zwh_up (c := zc_M_copies_1) (s := zs_M_copies_1) (fun j => [some (Value.ref (32)), some (Value.int (nI s)), some (Value.int (nI t)), some (Value.int (nI j))]) (fun i => zcp M s t i) (n := 64) 64 0 (by omega) ?_ ?_ ?_
  · rw [← e0] at R
    simp (disch := omega) [zf_M_copies, zmeth, xm_en, zret, zretz, zretv, zseq, zst, zinc, zkl, zskip, zk, zi, za, zbin, zdiv, zrem, zgi, zgr, zld, zldr, zlen, zn, zc, zcall, zcallv, zrcv, zdo, zdov, zpf, zpfc, zas, zasc, zmin, zmax, zcmp, zcz, zand_e, zor_e, zite_e, zbite_e, zif_e, znot_e, z_add, z_sub, z_mul, z_and, z_or, z_xor, z_shl, z_shr, zcpy, -List.getElem?_cons_succ, zg_0, zg_1, zg_2, zg_3, zg_4, zg_5, zg_6, zg_7, zg_8, zg_9, zt_0, zt_12, zt_20, zt_26, zt_32, zf_0_0, zf_0_1, zf_0_2, zf_0_3, zf_0_4, zf_12_0, zf_12_1, zf_12_2, zf_12_4, zf_12_5, zf_20_1, zf_20_2, zf_20_3, zf_20_4, zf_20_6, zf_26_0, zf_26_1, zf_26_2, zf_26_3, zf_32_0, zf_32_1, zf_32_3, zf_32_4, zf_32_5, zf_32_6, zi_33, nI_clamp, R]
  · intro j _ h2
    simp (disch := omega) [zc_M_copies_1, zmeth, xm_en, zret, zretz, zretv, zseq, zst, zinc, zkl, zskip, zk, zi, za, zbin, zdiv, zrem, zgi, zgr, zld, zldr, zlen, zn, zc, zcall, zcallv, zrcv, zdo, zdov, zpf, zpfc, zas, zasc, zmin, zmax, zcmp, zcz, zand_e, zor_e, zite_e, zbite_e, zif_e, znot_e, z_add, z_sub, z_mul, z_and, z_or, z_xor, z_shl, z_shr, zcpy, -List.getElem?_cons_succ, zg_0, zg_1, zg_2, zg_3, zg_4, zg_5, zg_6, zg_7, zg_8, zg_9, zc_lt, zc_le, zc_gt, zc_ge, zc_eq, zc_ne, zc_lt0, zc_ge0, zc_gt0, zc_eq0, zc_ne0, zb_ne, zb_eq, zb_01, z_00, z_01, z_11, zb_f, zb_T, zb_F, zbm1, zbm2, zbm5, zbm6, zbm3, zbm4, nI_clamp, zmod_n, pk_div, nI_ne0, pk_mul, nI_add, nI_1, h2]
  · intro j _ h2
    simp (disch := omega) [zs_M_copies_1, zmeth, xm_en, zret, zretz, zretv, zseq, zst, zinc, zkl, zskip, zk, zi, za, zbin, zdiv, zrem, zgi, zgr, zld, zldr, zlen, zn, zc, zcall, zcallv, zrcv, zdo, zdov, zpf, zpfc, zas, zasc, zmin, zmax, zcmp, zcz, zand_e, zor_e, zite_e, zbite_e, zif_e, znot_e, z_add, z_sub, z_mul, z_and, z_or, z_xor, z_shl, z_shr, zcpy, -List.getElem?_cons_succ, zg_0, zg_1, zg_2, zg_3, zg_4, zg_5, zg_6, zg_7, zg_8, zg_9, zc_lt, zc_le, zc_gt, zc_ge, zc_eq, zc_ne, zc_lt0, zc_ge0, zc_gt0, zc_eq0, zc_ne0, zb_ne, zb_eq, zb_01, z_00, z_01, z_11, zb_f, zb_T, zb_F, zbm1, zbm2, zbm5, zbm6, zbm3, zbm4, nI_clamp, zmod_n, pk_div, nI_ne0, pk_mul, nI_add, nI_1, zt_0, zt_12, zt_20, zt_26, zt_32, zf_0_0, zf_0_1, zf_0_2, zf_0_3, zf_0_4, zf_12_0, zf_12_1, zf_12_2, zf_12_4, zf_12_5, zf_20_1, zf_20_2, zf_20_3, zf_20_4, zf_20_6, zf_26_0, zf_26_1, zf_26_2, zf_26_3, zf_32_0, zf_32_1, zf_32_3, zf_32_4, zf_32_5, zf_32_6, zi_34, eS j h2]
  · simp (disch := omega) [zc_M_copies_1, zmeth, xm_en, zret, zretz, zretv, zseq, zst, zinc, zkl, zskip, zk, zi, za, zbin, zdiv, zrem, zgi, zgr, zld, zldr, zlen, zn, zc, zcall, zcallv, zrcv, zdo, zdov, zpf, zpfc, zas, zasc, zmin, zmax, zcmp, zcz, zand_e, zor_e, zite_e, zbite_e, zif_e, znot_e, z_add, z_sub, z_mul, z_and, z_or, z_xor, z_shl, z_shr, zcpy, -List.getElem?_cons_succ, zg_0, zg_1, zg_2, zg_3, zg_4, zg_5, zg_6, zg_7, zg_8, zg_9, zc_lt, zc_le, zc_gt, zc_ge, zc_eq, zc_ne, zc_lt0, zc_ge0, zc_gt0, zc_eq0, zc_ne0, zb_ne, zb_eq, zb_01, z_00, z_01, z_11, zb_f, zb_T, zb_F, zbm1, zbm2, zbm5, zbm6, zbm3, zbm4, nI_clamp, zmod_n, pk_div, nI_ne0, pk_mul, nI_add, nI_1]
theorem rT_cp {M : zM} {s t n : Nat} {c : tC} (h8 : n ≤ 8) (h : rT M t n c) : rT (zcp M s t 64) s n c := by
  refine ⟨?_, fun a b ha hb => ?_⟩
  · unfold zcp
    rw [if_pos ⟨rfl, rfl⟩]
    exact h.1
  · unfold zcp
    rw [if_neg (by omega), if_pos (by omega)]
    have := h.2 a b ha hb
    rw [← this]
    congr 1
    omega
theorem zcp_out {M : zM} {s t i q j : Nat} (h1 : ¬ (q = 33 ∧ j = s)) (h2 : ¬ (q = 34 ∧ 64 * s ≤ j ∧ j < 64 * s + i)) : zcp M s t i q j = M q j := by
  unfold zcp
  rw [if_neg h1, if_neg h2]
theorem RS_cp {T : tS} {M : zM} {s t n : Nat} {c : tC} (hT : TO T) (hs : s < 4) (h8 : n ≤ 8) (hR : RS T M) (h : rT M t n c) : RS (tset T s n c) (zcp M s t 64) := by
  intro u hu
  unfold tset
  by_cases h2 : u = s
  · subst h2
    simp only [if_true]
    exact rT_cp h8 h
  · rw [if_neg h2]
    exact (hR u hu).same (hT u hu).1.2 (zcp_out (by omega) (by omega)) (fun j h3 h4 => zcp_out (by omega) (by omega))
