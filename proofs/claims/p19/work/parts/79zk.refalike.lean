/-! alike: the reference with its answer -/
def BJ (n u : Nat) (g : Nat → Nat) : Prop := (∀ k, k < n → g k < n) ∧ (∀ k k', k < n → k' < n → g k = g k' → k = k') ∧ g u = 0
def HG (n : Nat) (c D : tC) (g : Nat → Nat) : Prop := ∀ x y, x < n → y < n → g (c x y) = D (g x) (g y)
theorem FRE_bj {n u : Nat} {g : Nat → Nat} (hu : u < n) (h : BJ n u g) : FRE n u g 0 1 := by
  refine ⟨fun k _ hk k0 => ⟨h.1 k hk, ?_⟩, fun k k' _ a _ _ b _ e => h.2.1 k k' a b e⟩
  have : g k ≠ 0 := fun z => k0 (h.2.1 k u hk hu (by rw [z, h.2.2]))
  cases hp : g k with
  | zero => exact absurd hp this
  | succ m =>
    rw [Nat.testBit_succ]
    exact Nat.zero_testBit m
theorem c01 {n : Nat} (h8 : n ≤ 8) : cf 1 0 n = n - 1 := by
  have : ∀ n, n ≤ 8 → cf 1 0 n = n - 1 := by decide
  exact this n h8
theorem rg_1 {n u : Nat} (h8 : n ≤ 8) (hu : u < n) (r : Nat) (hr : r < fa (n - 1)) : ∃ g, BJ n u g ∧ num u g n 0 1 (n - 1) = r ∧ ∀ M, ∃ M', zf_M_renames [.ref 32, .int (nI n), .int (nI u), .int (nI r)] M = some (none, M') ∧ (∀ k, k < n → M' 36 k = nI (g k)) ∧ ∀ q j, q ≠ 36 → M' q j = M q j := by
  obtain ⟨g', a1, a2, a3, a4, a5⟩ := qM_rn3 h8 hu n 0 1 r (n - 1) (fun _ => 0) (by omega) hr (fun k hk => ⟨(show 0 < n by omega), (show Nat.testBit 1 0 = true by decide)⟩) (fun k k' a b _ => by omega) (c01 h8) (by rw [if_neg (by omega)]) (by decide)
  refine ⟨g', ⟨a1, a2, a3 u (Or.inr rfl)⟩, a4, fun M => ?_⟩
  obtain ⟨tk', s', L', M', e1, e2, e3⟩ := a5 r (zup M 36 u (nI 0)) (fun k hk => by
    have : k = u := by omega
    rw [this, zup_e, if_pos ⟨rfl, rfl⟩])
  refine ⟨M', ?_, e2, fun q j hq => (e3 q j hq).trans (by rw [zup_e, if_neg (fun z => hq z.1)])⟩
  have es : nI n - nI 1 = nI (n - 1) := pk_sub (by omega)
  simp only [lsR] at e1
  simp (disch := omega) [zf_M_renames, zmeth, xm_en, zret, zretz, zretv, zseq, zst, zinc, zkl, zskip, zk, zi, za, zbin, zdiv, zrem, zgi, zgr, zld, zldr, zlen, zn, zc, zcall, zcallv, zrcv, zdo, zdov, zpf, zpfc, zas, zasc, zmin, zmax, zcmp, zcz, zand_e, zor_e, zite_e, zbite_e, zif_e, znot_e, z_add, z_sub, z_mul, z_and, z_or, z_xor, z_shl, z_shr, zcpy, -List.getElem?_cons_succ, zg_0, zg_1, zg_2, zg_3, zg_4, zg_5, zg_6, zg_7, zg_8, zg_9, zt_0, zt_12, zt_20, zt_26, zt_32, zf_0_0, zf_0_1, zf_0_2, zf_0_3, zf_0_4, zf_12_0, zf_12_1, zf_12_2, zf_12_4, zf_12_5, zf_20_1, zf_20_2, zf_20_3, zf_20_4, zf_20_6, zf_26_0, zf_26_1, zf_26_2, zf_26_3, zf_32_0, zf_32_1, zf_32_3, zf_32_4, zf_32_5, zf_32_6, nI_clamp, zi_36, es, e1]
theorem num_bj {n u : Nat} {g g' : Nat → Nat} (h8 : n ≤ 8) (hu : u < n) (h : BJ n u g) (h' : BJ n u g') (e : num u g n 0 1 (n - 1) = num u g' n 0 1 (n - 1)) : ∀ k, k < n → g k = g' k := fun k hk => by
  by_cases q : k = u
  · rw [q, h.2.2, h'.2.2]
  · exact num_inj (n := n) n 0 1 (n - 1) (by omega) (c01 h8) (FRE_bj hu h) (FRE_bj hu h') e k (Nat.zero_le k) hk q
theorem HG_c {n : Nat} {c D : tC} {g g' : Nat → Nat} (hf : tF n c) (e : ∀ k, k < n → g k = g' k) (h : HG n c D g) : HG n c D g' := fun x y hx hy => by
  rw [← e _ (hf x y hx hy), ← e x hx, ← e y hy]
  exact h x y hx hy
theorem qM_ag34 {M2 : zM} {t1 t2 n : Nat} {E D : tC} (h1 : t1 < 5) (h2 : t2 < 5) (h8 : n ≤ 8) (r5 : rT M2 5 n E) (r2 : rT M2 t2 n D) (hE : tF n E) (hD : tF n D) : ∃ r ls, zwh zc_M_against_3 zs_M_against_3 [some (Value.ref (32)), some (Value.int (nI t1)), some (Value.int (nI t2)), some (Value.int (nI n)), some (Value.int (nI 0)), none, none] M2 = some (r, ls, M2) ∧ ((r = none ∧ ls = [some (Value.ref (32)), some (Value.int (nI t1)), some (Value.int (nI t2)), some (Value.int (nI n)), some (Value.int (nI n)), none, none] ∧ tq n E D) ∨ ∃ v, r = some (some v) ∧ xe_cd .eq v 0 = false ∧ ¬ tq n E D) := by
  have l4 := fun (a : Nat) (ha : a < n) => zwh_inv (c := zc_M_against_4) (s := zs_M_against_4) (fun b ls M' => M' = M2 ∧ ls = [some (Value.ref (32)), some (Value.int (nI t1)), some (Value.int (nI t2)), some (Value.int (nI n)), some (Value.int (nI a)), some (Value.int (nI b)), none] ∧ ∀ y, y < b → E a y = D a y) (Q := fun r ls M' => M' = M2 ∧ ((r = none ∧ ls = [some (Value.ref (32)), some (Value.int (nI t1)), some (Value.int (nI t2)), some (Value.int (nI n)), some (Value.int (nI a)), some (Value.int (nI n)), none] ∧ ∀ y, y < n → E a y = D a y) ∨ ∃ v, r = some (some v) ∧ xe_cd .eq v 0 = false ∧ ¬ tq n E D)) (n := n) (fun ls M' q => by
      obtain ⟨rfl, rfl, q⟩ := q
      exact ⟨by simp (disch := omega) [zc_M_against_4, zmeth, xm_en, zret, zretz, zretv, zseq, zst, zinc, zkl, zskip, zk, zi, za, zbin, zdiv, zrem, zgi, zgr, zld, zldr, zlen, zn, zc, zcall, zcallv, zrcv, zdo, zdov, zpf, zpfc, zas, zasc, zmin, zmax, zcmp, zcz, zand_e, zor_e, zite_e, zbite_e, zif_e, znot_e, z_add, z_sub, z_mul, z_and, z_or, z_xor, z_shl, z_shr, zcpy, -List.getElem?_cons_succ, zg_0, zg_1, zg_2, zg_3, zg_4, zg_5, zg_6, zg_7, zg_8, zg_9, zc_lt, zc_le, zc_gt, zc_ge, zc_eq, zc_ne, zc_lt0, zc_ge0, zc_gt0, zc_eq0, zc_ne0, zb_ne, zb_eq, zb_01, z_00, z_01, z_11, zb_f, zb_T, zb_F, zbm1, zbm2, zbm5, zbm6, zbm3, zbm4, nI_clamp, zmod_n, pk_div, nI_ne0, pk_mul, nI_add, nI_1], rfl, Or.inl ⟨rfl, rfl, q⟩⟩) n 0 (by omega) (fun b ls M' _ hb q => by
      obtain ⟨rfl, rfl, q⟩ := q
      refine ⟨by simp (disch := omega) [zc_M_against_4, zmeth, xm_en, zret, zretz, zretv, zseq, zst, zinc, zkl, zskip, zk, zi, za, zbin, zdiv, zrem, zgi, zgr, zld, zldr, zlen, zn, zc, zcall, zcallv, zrcv, zdo, zdov, zpf, zpfc, zas, zasc, zmin, zmax, zcmp, zcz, zand_e, zor_e, zite_e, zbite_e, zif_e, znot_e, z_add, z_sub, z_mul, z_and, z_or, z_xor, z_shl, z_shr, zcpy, -List.getElem?_cons_succ, zg_0, zg_1, zg_2, zg_3, zg_4, zg_5, zg_6, zg_7, zg_8, zg_9, zc_lt, zc_le, zc_gt, zc_ge, zc_eq, zc_ne, zc_lt0, zc_ge0, zc_gt0, zc_eq0, zc_ne0, zb_ne, zb_eq, zb_01, z_00, z_01, z_11, zb_f, zb_T, zb_F, zbm1, zbm2, zbm5, zbm6, zbm3, zbm4, nI_clamp, zmod_n, pk_div, nI_ne0, pk_mul, nI_add, nI_1, hb], ?_⟩
      have c1 := qM_mul (show 5 < 6 by omega) r5 h8 hE ha hb
      have c2 := qM_mul (show t2 < 6 by omega) r2 h8 hD ha hb
      have x8 := hE a b ha hb
      have y8 := hD a b ha hb
      have dn := d8_ne (E a b) (by omega) (D a b) (by omega)
      have dl := d8_lt (E a b) (by omega) (D a b) (by omega)
      by_cases g : E a b = D a b
      · rw [decide_eq_true g] at dn
        refine ⟨none, _, M', by simp (disch := omega) [zs_M_against_4, zmeth, xm_en, zret, zretz, zretv, zseq, zst, zinc, zkl, zskip, zk, zi, za, zbin, zdiv, zrem, zgi, zgr, zld, zldr, zlen, zn, zc, zcall, zcallv, zrcv, zdo, zdov, zpf, zpfc, zas, zasc, zmin, zmax, zcmp, zcz, zand_e, zor_e, zite_e, zbite_e, zif_e, znot_e, z_add, z_sub, z_mul, z_and, z_or, z_xor, z_shl, z_shr, zcpy, -List.getElem?_cons_succ, zg_0, zg_1, zg_2, zg_3, zg_4, zg_5, zg_6, zg_7, zg_8, zg_9, zt_0, zt_12, zt_20, zt_26, zt_32, zf_0_0, zf_0_1, zf_0_2, zf_0_3, zf_0_4, zf_12_0, zf_12_1, zf_12_2, zf_12_4, zf_12_5, zf_20_1, zf_20_2, zf_20_3, zf_20_4, zf_20_6, zf_26_0, zf_26_1, zf_26_2, zf_26_3, zf_32_0, zf_32_1, zf_32_3, zf_32_4, zf_32_5, zf_32_6, nI_1, c1, c2, dn], rfl, rfl, fun y z => ?_⟩
        by_cases w : y = b
        · rw [w]
          exact g
        · exact q y (by omega)
      · rw [decide_eq_false g] at dn
        by_cases g2 : E a b < D a b
        · rw [decide_eq_true g2] at dl
          exact ⟨some (some (-1)), _, M', by simp (disch := omega) [zs_M_against_4, zmeth, xm_en, zret, zretz, zretv, zseq, zst, zinc, zkl, zskip, zk, zi, za, zbin, zdiv, zrem, zgi, zgr, zld, zldr, zlen, zn, zc, zcall, zcallv, zrcv, zdo, zdov, zpf, zpfc, zas, zasc, zmin, zmax, zcmp, zcz, zand_e, zor_e, zite_e, zbite_e, zif_e, znot_e, z_add, z_sub, z_mul, z_and, z_or, z_xor, z_shl, z_shr, zcpy, -List.getElem?_cons_succ, zg_0, zg_1, zg_2, zg_3, zg_4, zg_5, zg_6, zg_7, zg_8, zg_9, zt_0, zt_12, zt_20, zt_26, zt_32, zf_0_0, zf_0_1, zf_0_2, zf_0_3, zf_0_4, zf_12_0, zf_12_1, zf_12_2, zf_12_4, zf_12_5, zf_20_1, zf_20_2, zf_20_3, zf_20_4, zf_20_6, zf_26_0, zf_26_1, zf_26_2, zf_26_3, zf_32_0, zf_32_1, zf_32_3, zf_32_4, zf_32_5, zf_32_6, nI_1, c1, c2, dn, dl]; rfl, rfl, Or.inr ⟨_, rfl, by decide, fun w => g (w a b ha hb)⟩⟩
        · rw [decide_eq_false g2] at dl
          exact ⟨some (some (nI 1)), _, M', by simp (disch := omega) [zs_M_against_4, zmeth, xm_en, zret, zretz, zretv, zseq, zst, zinc, zkl, zskip, zk, zi, za, zbin, zdiv, zrem, zgi, zgr, zld, zldr, zlen, zn, zc, zcall, zcallv, zrcv, zdo, zdov, zpf, zpfc, zas, zasc, zmin, zmax, zcmp, zcz, zand_e, zor_e, zite_e, zbite_e, zif_e, znot_e, z_add, z_sub, z_mul, z_and, z_or, z_xor, z_shl, z_shr, zcpy, -List.getElem?_cons_succ, zg_0, zg_1, zg_2, zg_3, zg_4, zg_5, zg_6, zg_7, zg_8, zg_9, zt_0, zt_12, zt_20, zt_26, zt_32, zf_0_0, zf_0_1, zf_0_2, zf_0_3, zf_0_4, zf_12_0, zf_12_1, zf_12_2, zf_12_4, zf_12_5, zf_20_1, zf_20_2, zf_20_3, zf_20_4, zf_20_6, zf_26_0, zf_26_1, zf_26_2, zf_26_3, zf_32_0, zf_32_1, zf_32_3, zf_32_4, zf_32_5, zf_32_6, nI_1, c1, c2, dn, dl]; rfl, rfl, Or.inr ⟨_, rfl, by decide, fun w => g (w a b ha hb)⟩⟩) [some (Value.ref (32)), some (Value.int (nI t1)), some (Value.int (nI t2)), some (Value.int (nI n)), some (Value.int (nI a)), some (Value.int (nI 0)), none] M2 ⟨rfl, rfl, fun y z => absurd z (Nat.not_lt_zero y)⟩
  obtain ⟨r, ls, M3, w1, rfl, w2⟩ := zwh_inv (c := zc_M_against_3) (s := zs_M_against_3) (fun a ls M' => M' = M2 ∧ ls = [some (Value.ref (32)), some (Value.int (nI t1)), some (Value.int (nI t2)), some (Value.int (nI n)), some (Value.int (nI a)), none, none] ∧ ∀ x y, x < a → y < n → E x y = D x y) (Q := fun r ls M' => M' = M2 ∧ ((r = none ∧ ls = [some (Value.ref (32)), some (Value.int (nI t1)), some (Value.int (nI t2)), some (Value.int (nI n)), some (Value.int (nI n)), none, none] ∧ tq n E D) ∨ ∃ v, r = some (some v) ∧ xe_cd .eq v 0 = false ∧ ¬ tq n E D)) (n := n) (fun ls M' q => by
      obtain ⟨rfl, rfl, q⟩ := q
      exact ⟨by simp (disch := omega) [zc_M_against_3, zmeth, xm_en, zret, zretz, zretv, zseq, zst, zinc, zkl, zskip, zk, zi, za, zbin, zdiv, zrem, zgi, zgr, zld, zldr, zlen, zn, zc, zcall, zcallv, zrcv, zdo, zdov, zpf, zpfc, zas, zasc, zmin, zmax, zcmp, zcz, zand_e, zor_e, zite_e, zbite_e, zif_e, znot_e, z_add, z_sub, z_mul, z_and, z_or, z_xor, z_shl, z_shr, zcpy, -List.getElem?_cons_succ, zg_0, zg_1, zg_2, zg_3, zg_4, zg_5, zg_6, zg_7, zg_8, zg_9, zc_lt, zc_le, zc_gt, zc_ge, zc_eq, zc_ne, zc_lt0, zc_ge0, zc_gt0, zc_eq0, zc_ne0, zb_ne, zb_eq, zb_01, z_00, z_01, z_11, zb_f, zb_T, zb_F, zbm1, zbm2, zbm5, zbm6, zbm3, zbm4, nI_clamp, zmod_n, pk_div, nI_ne0, pk_mul, nI_add, nI_1], rfl, Or.inl ⟨rfl, rfl, q⟩⟩) n 0 (by omega) (fun a ls M' _ ha q => by
      obtain ⟨rfl, rfl, q⟩ := q
      refine ⟨by simp (disch := omega) [zc_M_against_3, zmeth, xm_en, zret, zretz, zretv, zseq, zst, zinc, zkl, zskip, zk, zi, za, zbin, zdiv, zrem, zgi, zgr, zld, zldr, zlen, zn, zc, zcall, zcallv, zrcv, zdo, zdov, zpf, zpfc, zas, zasc, zmin, zmax, zcmp, zcz, zand_e, zor_e, zite_e, zbite_e, zif_e, znot_e, z_add, z_sub, z_mul, z_and, z_or, z_xor, z_shl, z_shr, zcpy, -List.getElem?_cons_succ, zg_0, zg_1, zg_2, zg_3, zg_4, zg_5, zg_6, zg_7, zg_8, zg_9, zc_lt, zc_le, zc_gt, zc_ge, zc_eq, zc_ne, zc_lt0, zc_ge0, zc_gt0, zc_eq0, zc_ne0, zb_ne, zb_eq, zb_01, z_00, z_01, z_11, zb_f, zb_T, zb_F, zbm1, zbm2, zbm5, zbm6, zbm3, zbm4, nI_clamp, zmod_n, pk_div, nI_ne0, pk_mul, nI_add, nI_1, ha], ?_⟩
      obtain ⟨r, ls, M4, e4, rfl, ⟨rfl, rfl, q4⟩ | ⟨v, rfl, q4⟩⟩ := l4 a ha
      · refine ⟨none, _, M4, by simp (disch := omega) [zs_M_against_3, zmeth, xm_en, zret, zretz, zretv, zseq, zst, zinc, zkl, zskip, zk, zi, za, zbin, zdiv, zrem, zgi, zgr, zld, zldr, zlen, zn, zc, zcall, zcallv, zrcv, zdo, zdov, zpf, zpfc, zas, zasc, zmin, zmax, zcmp, zcz, zand_e, zor_e, zite_e, zbite_e, zif_e, znot_e, z_add, z_sub, z_mul, z_and, z_or, z_xor, z_shl, z_shr, zcpy, -List.getElem?_cons_succ, zg_0, zg_1, zg_2, zg_3, zg_4, zg_5, zg_6, zg_7, zg_8, zg_9, zc_lt, zc_le, zc_gt, zc_ge, zc_eq, zc_ne, zc_lt0, zc_ge0, zc_gt0, zc_eq0, zc_ne0, zb_ne, zb_eq, zb_01, z_00, z_01, z_11, zb_f, zb_T, zb_F, zbm1, zbm2, zbm5, zbm6, zbm3, zbm4, nI_clamp, zmod_n, pk_div, nI_ne0, pk_mul, nI_add, nI_1, e4], rfl, rfl, fun x y hx hy => ?_⟩
        by_cases w : x = a
        · rw [w]
          exact q4 y hy
        · exact q x y (by omega) hy
      · exact ⟨some (some v), _, M4, by simp (disch := omega) [zs_M_against_3, zmeth, xm_en, zret, zretz, zretv, zseq, zst, zinc, zkl, zskip, zk, zi, za, zbin, zdiv, zrem, zgi, zgr, zld, zldr, zlen, zn, zc, zcall, zcallv, zrcv, zdo, zdov, zpf, zpfc, zas, zasc, zmin, zmax, zcmp, zcz, zand_e, zor_e, zite_e, zbite_e, zif_e, znot_e, z_add, z_sub, z_mul, z_and, z_or, z_xor, z_shl, z_shr, zcpy, -List.getElem?_cons_succ, zg_0, zg_1, zg_2, zg_3, zg_4, zg_5, zg_6, zg_7, zg_8, zg_9, zc_lt, zc_le, zc_gt, zc_ge, zc_eq, zc_ne, zc_lt0, zc_ge0, zc_gt0, zc_eq0, zc_ne0, zb_ne, zb_eq, zb_01, z_00, z_01, z_11, zb_f, zb_T, zb_F, zbm1, zbm2, zbm5, zbm6, zbm3, zbm4, nI_clamp, zmod_n, pk_div, nI_ne0, pk_mul, nI_add, nI_1, e4]; rfl, rfl, Or.inr ⟨v, rfl, q4⟩⟩) [some (Value.ref (32)), some (Value.int (nI t1)), some (Value.int (nI t2)), some (Value.int (nI n)), some (Value.int (nI 0)), none, none] M2 ⟨rfl, rfl, fun x y hx => absurd hx (Nat.not_lt_zero x)⟩
  exact ⟨r, ls, w1, w2⟩
theorem qM_agq {M : zM} {t1 t2 n u : Nat} {c D : tC} {g : Nat → Nat} (h1 : t1 < 5) (h2 : t2 < 5) (h8 : n ≤ 8) (hr : rT M t1 n c) (hf : tF n c) (hb : BJ n u g) (hg : ∀ k, k < n → M 36 k = nI (g k)) (hr2 : rT M t2 n D) (hD : tF n D) : ∃ v M', zf_M_against [.ref 32, .int (nI t1), .int (nI t2)] M = some (some v, M') ∧ F5 M M' ∧ ((xe_cd .eq v 0 = true ∧ HG n c D g) ∨ (xe_cd .eq v 0 = false ∧ ¬ HG n c D g)) := by
  obtain ⟨M1, e1, g1, k1⟩ := qM_ak1 (t2 := t2) h1 h2 hr hf h8 (fun k hk => ⟨hg k hk, hb.1 k hk⟩) hb.2.1
  have gA : ∀ k, k < n → gd ((List.range n).map g) k = g k := fun k hk => by
    rw [gd_map g (by rw [List.length_range]; exact hk), gd_rg hk]
  have lA : ((List.range n).map g).length = n := by rw [List.length_map, List.length_range]
  have nA : ((List.range n).map g).Nodup := nd_gd (fun i j a b e => by
    rw [lA] at a b
    rw [gA i a, gA j b] at e
    exact hb.2.1 i j a b e)
  have mA : ∀ x, x < n → x ∈ (List.range n).map g := fun x hx => nd_all nA lA (fun y hy => by
    obtain ⟨k, q1, q2⟩ := List.mem_map.mp hy
    rw [← q2]
    exact hb.1 k (List.mem_range.mp q1)) hx
  have iA : ∀ x, x < n → px ((List.range n).map g) x < n ∧ g (px ((List.range n).map g) x) = x := fun x hx => by
    obtain ⟨a, b⟩ := px_mem (mA x hx)
    rw [lA] at a
    rw [gA _ a] at b
    exact ⟨a, b⟩
  have jA : ∀ x, x < n → px ((List.range n).map g) (g x) = x := fun x hx => by
    have := px_get (l := (List.range n).map g) (i := x) nA (by rw [lA]; exact hx)
    rw [gA x hx] at this
    exact this
  generalize (List.range n).map g = A at iA jA
  have g2 : F5 M (zup M1 33 5 (nI n)) := fun q j z1 z2 => by
    rw [zup_e, if_neg z1]
    exact g1 q j z1 z2
  have hE : tF n (fun a b => g (c (px A a) (px A b))) := fun a b ha hb' => hb.1 _ (hf _ _ (iA a ha).1 (iA b hb').1)
  have r5 : rT (zup M1 33 5 (nI n)) 5 n (fun a b => g (c (px A a) (px A b))) := ⟨by rw [zup_e, if_pos ⟨rfl, rfl⟩], fun a b ha hb' => by
    have k := k1 _ _ (iA a ha).1 (iA b hb').1 (Or.inl (iA a ha).1)
    rw [(iA a ha).2, (iA b hb').2] at k
    have f8 : g (c (px A a) (px A b)) < n := hE a b ha hb'
    show _ = zcl (-4) (g (c (px A a) (px A b)))
    rw [zup_e, if_neg (by omega), zcl_lt (by omega)]
    exact k⟩
  have r2 := g2.rT h2 h8 hr2
  have iff : tq n (fun a b => g (c (px A a) (px A b))) D ↔ HG n c D g := by
    constructor
    · intro h x y hx hy
      have := h _ _ (hb.1 x hx) (hb.1 y hy)
      simp only [jA x hx, jA y hy] at this
      exact this
    · intro h a b ha hb'
      have := h _ _ (iA a ha).1 (iA b hb').1
      rw [(iA a ha).2, (iA b hb').2] at this
      exact this
  obtain ⟨r, ls, w1, w2⟩ := qM_ag34 (t1 := t1) h1 h2 h8 r5 r2 hE hD
  have zn1 := hr.1
  rcases w2 with ⟨rfl, rfl, w2⟩ | ⟨v, rfl, w3, w2⟩
  · exact ⟨nI 0, _, by simp (disch := omega) [zf_M_against, zmeth, xm_en, zret, zretz, zretv, zseq, zst, zinc, zkl, zskip, zk, zi, za, zbin, zdiv, zrem, zgi, zgr, zld, zldr, zlen, zn, zc, zcall, zcallv, zrcv, zdo, zdov, zpf, zpfc, zas, zasc, zmin, zmax, zcmp, zcz, zand_e, zor_e, zite_e, zbite_e, zif_e, znot_e, z_add, z_sub, z_mul, z_and, z_or, z_xor, z_shl, z_shr, zcpy, -List.getElem?_cons_succ, zg_0, zg_1, zg_2, zg_3, zg_4, zg_5, zg_6, zg_7, zg_8, zg_9, zt_0, zt_12, zt_20, zt_26, zt_32, zf_0_0, zf_0_1, zf_0_2, zf_0_3, zf_0_4, zf_12_0, zf_12_1, zf_12_2, zf_12_4, zf_12_5, zf_20_1, zf_20_2, zf_20_3, zf_20_4, zf_20_6, zf_26_0, zf_26_1, zf_26_2, zf_26_3, zf_32_0, zf_32_1, zf_32_3, zf_32_4, zf_32_5, zf_32_6, zi_33, nI_clamp, zn1, e1, w1], g2, Or.inl ⟨by decide, iff.mp w2⟩⟩
  · exact ⟨v, _, by simp (disch := omega) [zf_M_against, zmeth, xm_en, zret, zretz, zretv, zseq, zst, zinc, zkl, zskip, zk, zi, za, zbin, zdiv, zrem, zgi, zgr, zld, zldr, zlen, zn, zc, zcall, zcallv, zrcv, zdo, zdov, zpf, zpfc, zas, zasc, zmin, zmax, zcmp, zcz, zand_e, zor_e, zite_e, zbite_e, zif_e, znot_e, z_add, z_sub, z_mul, z_and, z_or, z_xor, z_shl, z_shr, zcpy, -List.getElem?_cons_succ, zg_0, zg_1, zg_2, zg_3, zg_4, zg_5, zg_6, zg_7, zg_8, zg_9, zt_0, zt_12, zt_20, zt_26, zt_32, zf_0_0, zf_0_1, zf_0_2, zf_0_3, zf_0_4, zf_12_0, zf_12_1, zf_12_2, zf_12_4, zf_12_5, zf_20_1, zf_20_2, zf_20_3, zf_20_4, zf_20_6, zf_26_0, zf_26_1, zf_26_2, zf_26_3, zf_32_0, zf_32_1, zf_32_3, zf_32_4, zf_32_5, zf_32_6, zi_33, nI_clamp, zn1, e1, w1], g2, Or.inr ⟨w3, fun z => w2 (iff.mpr z)⟩⟩
theorem qM_isAlikeF {M : zM} {t1 t2 n u : Nat} {c D : tC} (h1 : t1 < 5) (h2 : t2 < 5) (hr : rT M t1 n c) (hf : tF n c) (hr2 : rT M t2 n D) (hD : tF n D) (h8 : n ≤ 8) (hu : u < n) : ∃ (b : Bool) (M' : zM), zf_M_isAlike [.ref 32, .int (nI t1), .int (nI u), .int (nI t2)] M = some (some (zb b), M') ∧ F6 M M' ∧ (b = true ↔ AL n u c D) := by
  have es : nI n - nI 1 = nI (n - 1) := pk_sub (by omega)
  have fb := fa_le (n - 1) (by omega)
  have fc : ∀ M', zf_M_factorial [.int (nI (n - 1))] M' = some (some (nI (fa (n - 1))), M') := fun M' => qM_factorial (by omega)
  obtain ⟨r, ls, M', w1, w2, w3⟩ := zwh_inv (c := zc_M_isAlike_1) (s := zs_M_isAlike_1) (fun k ls M' => F6 M M' ∧ ls = [some (Value.ref (32)), some (Value.int (nI t1)), some (Value.int (nI u)), some (Value.int (nI t2)), some (Value.int (nI k))] ∧ ∀ g, BJ n u g → num u g n 0 1 (n - 1) < k → ¬ HG n c D g) (Q := fun r ls M' => F6 M M' ∧ ((r = none ∧ ls = [some (Value.ref (32)), some (Value.int (nI t1)), some (Value.int (nI u)), some (Value.int (nI t2)), some (Value.int (nI (fa (n - 1))))] ∧ ∀ g, BJ n u g → num u g n 0 1 (n - 1) < fa (n - 1) → ¬ HG n c D g) ∨ (r = some (some (nI 1)) ∧ ∃ g, BJ n u g ∧ HG n c D g))) (n := fa (n - 1)) (fun ls M' q => by
      obtain ⟨q, rfl, q2⟩ := q
      have z := (q.rT h1 h8 hr).1
      exact ⟨by simp (disch := omega) [zc_M_isAlike_1, zmeth, xm_en, zret, zretz, zretv, zseq, zst, zinc, zkl, zskip, zk, zi, za, zbin, zdiv, zrem, zgi, zgr, zld, zldr, zlen, zn, zc, zcall, zcallv, zrcv, zdo, zdov, zpf, zpfc, zas, zasc, zmin, zmax, zcmp, zcz, zand_e, zor_e, zite_e, zbite_e, zif_e, znot_e, z_add, z_sub, z_mul, z_and, z_or, z_xor, z_shl, z_shr, zcpy, -List.getElem?_cons_succ, zg_0, zg_1, zg_2, zg_3, zg_4, zg_5, zg_6, zg_7, zg_8, zg_9, zc_lt, zc_le, zc_gt, zc_ge, zc_eq, zc_ne, zc_lt0, zc_ge0, zc_gt0, zc_eq0, zc_ne0, zb_ne, zb_eq, zb_01, z_00, z_01, z_11, zb_f, zb_T, zb_F, zbm1, zbm2, zbm5, zbm6, zbm3, zbm4, nI_clamp, zmod_n, pk_div, nI_ne0, pk_mul, nI_add, nI_1, zt_0, zt_12, zt_20, zt_26, zt_32, zf_0_0, zf_0_1, zf_0_2, zf_0_3, zf_0_4, zf_12_0, zf_12_1, zf_12_2, zf_12_4, zf_12_5, zf_20_1, zf_20_2, zf_20_3, zf_20_4, zf_20_6, zf_26_0, zf_26_1, zf_26_2, zf_26_3, zf_32_0, zf_32_1, zf_32_3, zf_32_4, zf_32_5, zf_32_6, zi_33, z, es, fc], q, Or.inl ⟨rfl, rfl, q2⟩⟩) (fa (n - 1)) 0 (by omega) (fun k ls M' _ hk q => by
      obtain ⟨q, rfl, q2⟩ := q
      have z := q.rT h1 h8 hr
      have z1 := z.1
      refine ⟨by simp (disch := omega) [zc_M_isAlike_1, zmeth, xm_en, zret, zretz, zretv, zseq, zst, zinc, zkl, zskip, zk, zi, za, zbin, zdiv, zrem, zgi, zgr, zld, zldr, zlen, zn, zc, zcall, zcallv, zrcv, zdo, zdov, zpf, zpfc, zas, zasc, zmin, zmax, zcmp, zcz, zand_e, zor_e, zite_e, zbite_e, zif_e, znot_e, z_add, z_sub, z_mul, z_and, z_or, z_xor, z_shl, z_shr, zcpy, -List.getElem?_cons_succ, zg_0, zg_1, zg_2, zg_3, zg_4, zg_5, zg_6, zg_7, zg_8, zg_9, zc_lt, zc_le, zc_gt, zc_ge, zc_eq, zc_ne, zc_lt0, zc_ge0, zc_gt0, zc_eq0, zc_ne0, zb_ne, zb_eq, zb_01, z_00, z_01, z_11, zb_f, zb_T, zb_F, zbm1, zbm2, zbm5, zbm6, zbm3, zbm4, nI_clamp, zmod_n, pk_div, nI_ne0, pk_mul, nI_add, nI_1, zt_0, zt_12, zt_20, zt_26, zt_32, zf_0_0, zf_0_1, zf_0_2, zf_0_3, zf_0_4, zf_12_0, zf_12_1, zf_12_2, zf_12_4, zf_12_5, zf_20_1, zf_20_2, zf_20_3, zf_20_4, zf_20_6, zf_26_0, zf_26_1, zf_26_2, zf_26_3, zf_32_0, zf_32_1, zf_32_3, zf_32_4, zf_32_5, zf_32_6, zi_33, z1, es, fc, hk], ?_⟩
      obtain ⟨g, gb, gn, gr⟩ := rg_1 h8 hu k hk
      obtain ⟨M1, e1, i1, s1⟩ := gr M'
      have q1 : F6 M M1 := fun q' j a b d => (s1 q' j a).trans (q q' j a b d)
      obtain ⟨v, M2, e2, f2, o2⟩ := qM_agq (t2 := t2) h1 h2 h8 (q1.rT h1 h8 hr) hf gb i1 (q1.rT h2 h8 hr2) hD
      have q3 : F6 M M2 := fun q' j a b d => (f2 q' j b d).trans (q1 q' j a b d)
      rcases o2 with ⟨hb, o⟩ | ⟨hb, o⟩
      · exact ⟨some (some (nI 1)), _, M2, by simp (disch := omega) [zs_M_isAlike_1, zmeth, xm_en, zret, zretz, zretv, zseq, zst, zinc, zkl, zskip, zk, zi, za, zbin, zdiv, zrem, zgi, zgr, zld, zldr, zlen, zn, zc, zcall, zcallv, zrcv, zdo, zdov, zpf, zpfc, zas, zasc, zmin, zmax, zcmp, zcz, zand_e, zor_e, zite_e, zbite_e, zif_e, znot_e, z_add, z_sub, z_mul, z_and, z_or, z_xor, z_shl, z_shr, zcpy, -List.getElem?_cons_succ, zg_0, zg_1, zg_2, zg_3, zg_4, zg_5, zg_6, zg_7, zg_8, zg_9, nI_1, nI_clamp, zt_0, zt_12, zt_20, zt_26, zt_32, zf_0_0, zf_0_1, zf_0_2, zf_0_3, zf_0_4, zf_12_0, zf_12_1, zf_12_2, zf_12_4, zf_12_5, zf_20_1, zf_20_2, zf_20_3, zf_20_4, zf_20_6, zf_26_0, zf_26_1, zf_26_2, zf_26_3, zf_32_0, zf_32_1, zf_32_3, zf_32_4, zf_32_5, zf_32_6, zi_33, z1, e1, e2, hb]; rfl, q3, Or.inr ⟨rfl, g, gb, o⟩⟩
      · exact ⟨none, _, M2, by simp (disch := omega) [zs_M_isAlike_1, zmeth, xm_en, zret, zretz, zretv, zseq, zst, zinc, zkl, zskip, zk, zi, za, zbin, zdiv, zrem, zgi, zgr, zld, zldr, zlen, zn, zc, zcall, zcallv, zrcv, zdo, zdov, zpf, zpfc, zas, zasc, zmin, zmax, zcmp, zcz, zand_e, zor_e, zite_e, zbite_e, zif_e, znot_e, z_add, z_sub, z_mul, z_and, z_or, z_xor, z_shl, z_shr, zcpy, -List.getElem?_cons_succ, zg_0, zg_1, zg_2, zg_3, zg_4, zg_5, zg_6, zg_7, zg_8, zg_9, nI_1, nI_clamp, zt_0, zt_12, zt_20, zt_26, zt_32, zf_0_0, zf_0_1, zf_0_2, zf_0_3, zf_0_4, zf_12_0, zf_12_1, zf_12_2, zf_12_4, zf_12_5, zf_20_1, zf_20_2, zf_20_3, zf_20_4, zf_20_6, zf_26_0, zf_26_1, zf_26_2, zf_26_3, zf_32_0, zf_32_1, zf_32_3, zf_32_4, zf_32_5, zf_32_6, zi_33, z1, e1, e2, hb], q3, rfl, fun g' b' n' w => by
          by_cases e : num u g' n 0 1 (n - 1) = k
          · exact o (HG_c hf (num_bj h8 hu b' gb (e.trans gn.symm)) w)
          · exact q2 g' b' (by omega) w⟩) [some (Value.ref (32)), some (Value.int (nI t1)), some (Value.int (nI u)), some (Value.int (nI t2)), some (Value.int (nI 0))] M ⟨fun _ _ _ _ _ => rfl, rfl, fun g _ z => absurd z (Nat.not_lt_zero _)⟩
  rcases w3 with ⟨rfl, rfl, w3⟩ | ⟨rfl, g, g1, g2⟩
  · exact ⟨false, M', by simp (disch := omega) [zf_M_isAlike, zmeth, xm_en, zret, zretz, zretv, zseq, zst, zinc, zkl, zskip, zk, zi, za, zbin, zdiv, zrem, zgi, zgr, zld, zldr, zlen, zn, zc, zcall, zcallv, zrcv, zdo, zdov, zpf, zpfc, zas, zasc, zmin, zmax, zcmp, zcz, zand_e, zor_e, zite_e, zbite_e, zif_e, znot_e, z_add, z_sub, z_mul, z_and, z_or, z_xor, z_shl, z_shr, zcpy, -List.getElem?_cons_succ, zg_0, zg_1, zg_2, zg_3, zg_4, zg_5, zg_6, zg_7, zg_8, zg_9, w1]; rfl, w2, fun z => by (cases z), fun ⟨g, a, b, d, e⟩ => absurd e (w3 g ⟨a, b, d⟩ (num_lt (n := n) n 0 1 (n - 1) (by omega) (c01 h8) (FRE_bj hu ⟨a, b, d⟩)))⟩
  · exact ⟨true, M', by simp (disch := omega) [zf_M_isAlike, zmeth, xm_en, zret, zretz, zretv, zseq, zst, zinc, zkl, zskip, zk, zi, za, zbin, zdiv, zrem, zgi, zgr, zld, zldr, zlen, zn, zc, zcall, zcallv, zrcv, zdo, zdov, zpf, zpfc, zas, zasc, zmin, zmax, zcmp, zcz, zand_e, zor_e, zite_e, zbite_e, zif_e, znot_e, z_add, z_sub, z_mul, z_and, z_or, z_xor, z_shl, z_shr, zcpy, -List.getElem?_cons_succ, zg_0, zg_1, zg_2, zg_3, zg_4, zg_5, zg_6, zg_7, zg_8, zg_9, w1]; rfl, w2, fun _ => ⟨g, g1.1, g1.2.1, g1.2.2, g2⟩, fun _ => rfl⟩
theorem qM_al2F {M0 M : zM} {z : Int32} {s t n a : Nat} {c D : tC} (hs : s < 4) (ht : t < 4) (hr : rT M0 s n c) (ho : tO n c) (hf : tF n c) (hr2 : rT M0 t n D) (hD : tF n D) (h8 : n ≤ 8) (ha : a < n) (h : F7 M0 M) : ∃ r ls M', zwh zc_M_alike_2 zs_M_alike_2 [some (Value.ref (32)), some (Value.int (nI s)), some (Value.int (nI t)), some (Value.int (z)), some (Value.int (nI n)), some (Value.int (nI a)), some (Value.int (nI 0)), none, none] M = some (r, ls, M') ∧ F7 M0 M' ∧ ((r = none ∧ ls = [some (Value.ref (32)), some (Value.int (nI s)), some (Value.int (nI t)), some (Value.int (z)), some (Value.int (nI n)), some (Value.int (nI a)), some (Value.int (nI n)), none, none] ∧ ∀ b, b < n → ¬ AL n (c a b) (ri c n a b) D) ∨ (r = some (some (nI 1)) ∧ ∃ b, b < n ∧ AL n (c a b) (ri c n a b) D)) :=
  zwh_inv (c := zc_M_alike_2) (s := zs_M_alike_2) (fun b ls M' => F7 M0 M' ∧ ls = [some (Value.ref (32)), some (Value.int (nI s)), some (Value.int (nI t)), some (Value.int (z)), some (Value.int (nI n)), some (Value.int (nI a)), some (Value.int (nI b)), none, none] ∧ ∀ b', b' < b → ¬ AL n (c a b') (ri c n a b') D) (Q := fun r ls M' => F7 M0 M' ∧ ((r = none ∧ ls = [some (Value.ref (32)), some (Value.int (nI s)), some (Value.int (nI t)), some (Value.int (z)), some (Value.int (nI n)), some (Value.int (nI a)), some (Value.int (nI n)), none, none] ∧ ∀ b, b < n → ¬ AL n (c a b) (ri c n a b) D) ∨ (r = some (some (nI 1)) ∧ ∃ b, b < n ∧ AL n (c a b) (ri c n a b) D))) (n := n) (fun ls M' q => by
      obtain ⟨q, rfl, q2⟩ := q
      exact ⟨by simp (disch := omega) [zc_M_alike_2, zmeth, xm_en, zret, zretz, zretv, zseq, zst, zinc, zkl, zskip, zk, zi, za, zbin, zdiv, zrem, zgi, zgr, zld, zldr, zlen, zn, zc, zcall, zcallv, zrcv, zdo, zdov, zpf, zpfc, zas, zasc, zmin, zmax, zcmp, zcz, zand_e, zor_e, zite_e, zbite_e, zif_e, znot_e, z_add, z_sub, z_mul, z_and, z_or, z_xor, z_shl, z_shr, zcpy, -List.getElem?_cons_succ, zg_0, zg_1, zg_2, zg_3, zg_4, zg_5, zg_6, zg_7, zg_8, zg_9, zc_lt, zc_le, zc_gt, zc_ge, zc_eq, zc_ne, zc_lt0, zc_ge0, zc_gt0, zc_eq0, zc_ne0, zb_ne, zb_eq, zb_01, z_00, z_01, z_11, zb_f, zb_T, zb_F, zbm1, zbm2, zbm5, zbm6, zbm3, zbm4, nI_clamp, zmod_n, pk_div, nI_ne0, pk_mul, nI_add, nI_1], q, Or.inl ⟨rfl, rfl, q2⟩⟩) n 0 (by omega) (fun b ls M' _ hb q => by
      obtain ⟨q, rfl, q2⟩ := q
      refine ⟨by simp (disch := omega) [zc_M_alike_2, zmeth, xm_en, zret, zretz, zretv, zseq, zst, zinc, zkl, zskip, zk, zi, za, zbin, zdiv, zrem, zgi, zgr, zld, zldr, zlen, zn, zc, zcall, zcallv, zrcv, zdo, zdov, zpf, zpfc, zas, zasc, zmin, zmax, zcmp, zcz, zand_e, zor_e, zite_e, zbite_e, zif_e, znot_e, z_add, z_sub, z_mul, z_and, z_or, z_xor, z_shl, z_shr, zcpy, -List.getElem?_cons_succ, zg_0, zg_1, zg_2, zg_3, zg_4, zg_5, zg_6, zg_7, zg_8, zg_9, zc_lt, zc_le, zc_gt, zc_ge, zc_eq, zc_ne, zc_lt0, zc_ge0, zc_gt0, zc_eq0, zc_ne0, zb_ne, zb_eq, zb_01, z_00, z_01, z_11, zb_f, zb_T, zb_F, zbm1, zbm2, zbm5, zbm6, zbm3, zbm4, nI_clamp, zmod_n, pk_div, nI_ne0, pk_mul, nI_add, nI_1, hb], ?_⟩
      have g0 : G4 M0 c n a b 0 0 (zup M' 33 4 (nI n)) := ⟨fun q' j a1 a2 a3 => by
        rw [zup_e, if_neg (by omega)]
        exact q q' j a1 a2 a3, by rw [zup_e, if_pos ⟨rfl, rfl⟩], fun x' y' _ _ a3 => by omega⟩
      obtain ⟨M2, e2, f2, r2⟩ := qM_al3 (z := z) (t := t) hs hr ho hf h8 ha hb g0
      have m := qM_mul (show s < 6 by omega) (f2.rT hs h8 hr) h8 hf ha hb
      obtain ⟨v, M3, e3, f3, i3⟩ := qM_isAlikeF (t2 := t) (u := c a b) (show 4 < 5 by omega) (by omega) r2 (ri_F ho hf ha hb) (f2.rT ht h8 hr2) hD h8 (hf a b ha hb)
      have q3 : F7 M0 M3 := fun q' j a1 a2 a3 => (f3 q' j a1 (by omega) (by omega)).trans (f2 q' j a1 a2 a3)
      cases v with
      | false => exact ⟨none, _, M3, by simp (disch := omega) [zs_M_alike_2, zmeth, xm_en, zret, zretz, zretv, zseq, zst, zinc, zkl, zskip, zk, zi, za, zbin, zdiv, zrem, zgi, zgr, zld, zldr, zlen, zn, zc, zcall, zcallv, zrcv, zdo, zdov, zpf, zpfc, zas, zasc, zmin, zmax, zcmp, zcz, zand_e, zor_e, zite_e, zbite_e, zif_e, znot_e, z_add, z_sub, z_mul, z_and, z_or, z_xor, z_shl, z_shr, zcpy, -List.getElem?_cons_succ, zg_0, zg_1, zg_2, zg_3, zg_4, zg_5, zg_6, zg_7, zg_8, zg_9, zc_lt, zc_le, zc_gt, zc_ge, zc_eq, zc_ne, zc_lt0, zc_ge0, zc_gt0, zc_eq0, zc_ne0, zb_ne, zb_eq, zb_01, z_00, z_01, z_11, zb_f, zb_T, zb_F, zbm1, zbm2, zbm5, zbm6, zbm3, zbm4, nI_clamp, zmod_n, pk_div, nI_ne0, pk_mul, nI_add, nI_1, zt_0, zt_12, zt_20, zt_26, zt_32, zf_0_0, zf_0_1, zf_0_2, zf_0_3, zf_0_4, zf_12_0, zf_12_1, zf_12_2, zf_12_4, zf_12_5, zf_20_1, zf_20_2, zf_20_3, zf_20_4, zf_20_6, zf_26_0, zf_26_1, zf_26_2, zf_26_3, zf_32_0, zf_32_1, zf_32_3, zf_32_4, zf_32_5, zf_32_6, zi_33, e2, m, e3], q3, rfl, fun b' hb' w => by
          by_cases e : b' = b
          · subst e
            have := i3.mpr w
            cases this
          · exact q2 b' (by omega) w⟩
      | true => exact ⟨some (some (nI 1)), _, M3, by simp (disch := omega) [zs_M_alike_2, zmeth, xm_en, zret, zretz, zretv, zseq, zst, zinc, zkl, zskip, zk, zi, za, zbin, zdiv, zrem, zgi, zgr, zld, zldr, zlen, zn, zc, zcall, zcallv, zrcv, zdo, zdov, zpf, zpfc, zas, zasc, zmin, zmax, zcmp, zcz, zand_e, zor_e, zite_e, zbite_e, zif_e, znot_e, z_add, z_sub, z_mul, z_and, z_or, z_xor, z_shl, z_shr, zcpy, -List.getElem?_cons_succ, zg_0, zg_1, zg_2, zg_3, zg_4, zg_5, zg_6, zg_7, zg_8, zg_9, zc_lt, zc_le, zc_gt, zc_ge, zc_eq, zc_ne, zc_lt0, zc_ge0, zc_gt0, zc_eq0, zc_ne0, zb_ne, zb_eq, zb_01, z_00, z_01, z_11, zb_f, zb_T, zb_F, zbm1, zbm2, zbm5, zbm6, zbm3, zbm4, nI_clamp, zmod_n, pk_div, nI_ne0, pk_mul, nI_add, nI_1, zt_0, zt_12, zt_20, zt_26, zt_32, zf_0_0, zf_0_1, zf_0_2, zf_0_3, zf_0_4, zf_12_0, zf_12_1, zf_12_2, zf_12_4, zf_12_5, zf_20_1, zf_20_2, zf_20_3, zf_20_4, zf_20_6, zf_26_0, zf_26_1, zf_26_2, zf_26_3, zf_32_0, zf_32_1, zf_32_3, zf_32_4, zf_32_5, zf_32_6, zi_33, e2, m, e3]; rfl, q3, Or.inr ⟨rfl, b, hb, i3.mp rfl⟩⟩) _ M ⟨h, rfl, fun b' hb' => absurd hb' (Nat.not_lt_zero b')⟩
theorem qM_al1F {M0 : zM} {z : Int32} {s t n : Nat} {c D : tC} (hs : s < 4) (ht : t < 4) (hr : rT M0 s n c) (ho : tO n c) (hf : tF n c) (hr2 : rT M0 t n D) (hD : tF n D) (h8 : n ≤ 8) : ∃ r ls M', zwh zc_M_alike_1 zs_M_alike_1 [some (Value.ref (32)), some (Value.int (nI s)), some (Value.int (nI t)), some (Value.int (z)), some (Value.int (nI n)), some (Value.int (nI 0)), none, none, none] M0 = some (r, ls, M') ∧ F7 M0 M' ∧ ((r = none ∧ ls = [some (Value.ref (32)), some (Value.int (nI s)), some (Value.int (nI t)), some (Value.int (z)), some (Value.int (nI n)), some (Value.int (nI n)), none, none, none] ∧ ∀ a b, a < n → b < n → ¬ AL n (c a b) (ri c n a b) D) ∨ (r = some (some (nI 1)) ∧ ∃ a b, a < n ∧ b < n ∧ AL n (c a b) (ri c n a b) D)) :=
  zwh_inv (c := zc_M_alike_1) (s := zs_M_alike_1) (fun b ls M' => F7 M0 M' ∧ ls = [some (Value.ref (32)), some (Value.int (nI s)), some (Value.int (nI t)), some (Value.int (z)), some (Value.int (nI n)), some (Value.int (nI b)), none, none, none] ∧ ∀ a b', a < b → b' < n → ¬ AL n (c a b') (ri c n a b') D) (Q := fun r ls M' => F7 M0 M' ∧ ((r = none ∧ ls = [some (Value.ref (32)), some (Value.int (nI s)), some (Value.int (nI t)), some (Value.int (z)), some (Value.int (nI n)), some (Value.int (nI n)), none, none, none] ∧ ∀ a b, a < n → b < n → ¬ AL n (c a b) (ri c n a b) D) ∨ (r = some (some (nI 1)) ∧ ∃ a b, a < n ∧ b < n ∧ AL n (c a b) (ri c n a b) D))) (n := n) (fun ls M' q => by
      obtain ⟨q, rfl, q2⟩ := q
      exact ⟨by simp (disch := omega) [zc_M_alike_1, zmeth, xm_en, zret, zretz, zretv, zseq, zst, zinc, zkl, zskip, zk, zi, za, zbin, zdiv, zrem, zgi, zgr, zld, zldr, zlen, zn, zc, zcall, zcallv, zrcv, zdo, zdov, zpf, zpfc, zas, zasc, zmin, zmax, zcmp, zcz, zand_e, zor_e, zite_e, zbite_e, zif_e, znot_e, z_add, z_sub, z_mul, z_and, z_or, z_xor, z_shl, z_shr, zcpy, -List.getElem?_cons_succ, zg_0, zg_1, zg_2, zg_3, zg_4, zg_5, zg_6, zg_7, zg_8, zg_9, zc_lt, zc_le, zc_gt, zc_ge, zc_eq, zc_ne, zc_lt0, zc_ge0, zc_gt0, zc_eq0, zc_ne0, zb_ne, zb_eq, zb_01, z_00, z_01, z_11, zb_f, zb_T, zb_F, zbm1, zbm2, zbm5, zbm6, zbm3, zbm4, nI_clamp, zmod_n, pk_div, nI_ne0, pk_mul, nI_add, nI_1], q, Or.inl ⟨rfl, rfl, q2⟩⟩) n 0 (by omega) (fun b ls M' _ hb q => by
      obtain ⟨q, rfl, q2⟩ := q
      refine ⟨by simp (disch := omega) [zc_M_alike_1, zmeth, xm_en, zret, zretz, zretv, zseq, zst, zinc, zkl, zskip, zk, zi, za, zbin, zdiv, zrem, zgi, zgr, zld, zldr, zlen, zn, zc, zcall, zcallv, zrcv, zdo, zdov, zpf, zpfc, zas, zasc, zmin, zmax, zcmp, zcz, zand_e, zor_e, zite_e, zbite_e, zif_e, znot_e, z_add, z_sub, z_mul, z_and, z_or, z_xor, z_shl, z_shr, zcpy, -List.getElem?_cons_succ, zg_0, zg_1, zg_2, zg_3, zg_4, zg_5, zg_6, zg_7, zg_8, zg_9, zc_lt, zc_le, zc_gt, zc_ge, zc_eq, zc_ne, zc_lt0, zc_ge0, zc_gt0, zc_eq0, zc_ne0, zb_ne, zb_eq, zb_01, z_00, z_01, z_11, zb_f, zb_T, zb_F, zbm1, zbm2, zbm5, zbm6, zbm3, zbm4, nI_clamp, zmod_n, pk_div, nI_ne0, pk_mul, nI_add, nI_1, hb], ?_⟩
      obtain ⟨r, ls, M2, e2, f2, ⟨rfl, rfl, o⟩ | ⟨rfl, b', o1, o2⟩⟩ := qM_al2F (z := z) hs ht hr ho hf hr2 hD h8 hb q
      · exact ⟨none, _, M2, by simp (disch := omega) [zs_M_alike_1, zmeth, xm_en, zret, zretz, zretv, zseq, zst, zinc, zkl, zskip, zk, zi, za, zbin, zdiv, zrem, zgi, zgr, zld, zldr, zlen, zn, zc, zcall, zcallv, zrcv, zdo, zdov, zpf, zpfc, zas, zasc, zmin, zmax, zcmp, zcz, zand_e, zor_e, zite_e, zbite_e, zif_e, znot_e, z_add, z_sub, z_mul, z_and, z_or, z_xor, z_shl, z_shr, zcpy, -List.getElem?_cons_succ, zg_0, zg_1, zg_2, zg_3, zg_4, zg_5, zg_6, zg_7, zg_8, zg_9, zc_lt, zc_le, zc_gt, zc_ge, zc_eq, zc_ne, zc_lt0, zc_ge0, zc_gt0, zc_eq0, zc_ne0, zb_ne, zb_eq, zb_01, z_00, z_01, z_11, zb_f, zb_T, zb_F, zbm1, zbm2, zbm5, zbm6, zbm3, zbm4, nI_clamp, zmod_n, pk_div, nI_ne0, pk_mul, nI_add, nI_1, e2], f2, rfl, fun a b' ha hb' => by
          by_cases e : a = b
          · subst e
            exact o b' hb'
          · exact q2 a b' (by omega) hb'⟩
      · exact ⟨some (some (nI 1)), _, M2, by simp (disch := omega) [zs_M_alike_1, zmeth, xm_en, zret, zretz, zretv, zseq, zst, zinc, zkl, zskip, zk, zi, za, zbin, zdiv, zrem, zgi, zgr, zld, zldr, zlen, zn, zc, zcall, zcallv, zrcv, zdo, zdov, zpf, zpfc, zas, zasc, zmin, zmax, zcmp, zcz, zand_e, zor_e, zite_e, zbite_e, zif_e, znot_e, z_add, z_sub, z_mul, z_and, z_or, z_xor, z_shl, z_shr, zcpy, -List.getElem?_cons_succ, zg_0, zg_1, zg_2, zg_3, zg_4, zg_5, zg_6, zg_7, zg_8, zg_9, zc_lt, zc_le, zc_gt, zc_ge, zc_eq, zc_ne, zc_lt0, zc_ge0, zc_gt0, zc_eq0, zc_ne0, zb_ne, zb_eq, zb_01, z_00, z_01, z_11, zb_f, zb_T, zb_F, zbm1, zbm2, zbm5, zbm6, zbm3, zbm4, nI_clamp, zmod_n, pk_div, nI_ne0, pk_mul, nI_add, nI_1, e2]; rfl, f2, Or.inr ⟨rfl, b, b', hb, o1, o2⟩⟩) _ M0 ⟨fun _ _ _ _ _ => rfl, rfl, fun a b' ha => absurd ha (Nat.not_lt_zero a)⟩
