/-! the reference's renamings: a bijection that takes u to 0 -/
theorem zsum_sp (f : Nat → Nat) (a : Nat) : ∀ m, zsum (fun k => f k + if k = a then 1 else 0) m = zsum f m + if a < m then 1 else 0
  | 0 => by simp [zsum]
  | m + 1 => by
    show zsum _ m + (f m + if m = a then 1 else 0) = zsum f m + f m + _
    rw [zsum_sp f a m]
    split <;> split <;> split <;> omega
theorem cf_set {tk w n : Nat} (hw : w < n) (h : tk.testBit w = false) : cf (tk ||| 2 ^ w) 0 n + 1 = cf tk 0 n := by
  have e : cf tk 0 n = zsum (fun k => (if (tk ||| 2 ^ w).testBit (0 + k) = true then 0 else 1) + if k = w then 1 else 0) n := zsum_congr (fun k _ => by
    rw [Nat.testBit_or, Nat.testBit_two_pow, Nat.zero_add]
    by_cases q : k = w
    · subst q
      simp [h]
    · have : ¬ w = k := fun z => q z.symm
      simp [q, this])
  rw [e, zsum_sp, if_pos hw]
  rfl
theorem nI_dec {L : Nat} (h : 1 ≤ L) : nI L + (-1) = nI (L - 1) := by
  have e : nI L = nI (L - 1) + 1 := by
    rw [nI_1]
    congr 1
    omega
  rw [e, Int32.add_assoc]
  have : (1 : Int32) + (-1) = 0 := by decide
  rw [this, Int32.add_zero]
def RI (M0 : zM) (n u i tk L : Nat) (g : Nat → Nat) (M : zM) : Prop := (∀ k, k < i ∨ k = u → M 36 k = nI (g k) ∧ g k < n ∧ tk.testBit (g k) = true) ∧ (∀ k k', k < i ∨ k = u → k' < i ∨ k' = u → g k = g k' → k = k') ∧ cf tk 0 n = L ∧ (L + i = n - 1 + if u < i then 1 else 0) ∧ tk < 256 ∧ g u = 0 ∧ ∀ q j, q ≠ 36 → M q j = M0 q j
def lsR (n u r tk s L i : Nat) : zL := [some (Value.ref (32)), some (Value.int (nI n)), some (Value.int (nI u)), some (Value.int (nI r)), some (Value.int (nI tk)), some (Value.int (nI s)), some (Value.int (nI L)), some (Value.int (nI i)), none, none]
theorem qM_rn1 {M0 : zM} {n u r : Nat} (h8 : n ≤ 8) (hu : u < n) : ∀ (d i tk s L : Nat) (g : Nat → Nat) (M : zM), i + d = n → s < 2 ^ 30 → RI M0 n u i tk L g M → ∃ tk' s' L' g' M', zwh zc_M_renames_1 zs_M_renames_1 (lsR n u r tk s L i) M = some (none, lsR n u r tk' s' L' n, M') ∧ RI M0 n u n tk' L' g' M'
  | 0, i, tk, s, L, g, M, h, hs, H => by
    have : i = n := by omega
    subst this
    refine ⟨tk, s, L, g, M, zwh_f ?_, H⟩
    simp (disch := omega) [zc_M_renames_1, lsR, zmeth, xm_en, zret, zretz, zretv, zseq, zst, zinc, zkl, zskip, zk, zi, za, zbin, zdiv, zrem, zgi, zgr, zld, zldr, zlen, zn, zc, zcall, zcallv, zrcv, zdo, zdov, zpf, zpfc, zas, zasc, zmin, zmax, zcmp, zcz, zand_e, zor_e, zite_e, zbite_e, zif_e, znot_e, z_add, z_sub, z_mul, z_and, z_or, z_xor, z_shl, z_shr, zcpy, -List.getElem?_cons_succ, zg_0, zg_1, zg_2, zg_3, zg_4, zg_5, zg_6, zg_7, zg_8, zg_9, zc_lt, zc_le, zc_gt, zc_ge, zc_eq, zc_ne, zc_lt0, zc_ge0, zc_gt0, zc_eq0, zc_ne0, zb_ne, zb_eq, zb_01, z_00, z_01, z_11, zb_f, zb_T, zb_F, zbm1, zbm2, zbm5, zbm6, zbm3, zbm4, nI_clamp, zmod_n, pk_div, nI_ne0, pk_mul, nI_add, nI_1]
  | d + 1, i, tk, s, L, g, M, h, hs, H => by
    have hi : i < n := by omega
    have c1 : zc_M_renames_1 (lsR n u r tk s L i) M = some (true, M) := by simp (disch := omega) [zc_M_renames_1, lsR, zmeth, xm_en, zret, zretz, zretv, zseq, zst, zinc, zkl, zskip, zk, zi, za, zbin, zdiv, zrem, zgi, zgr, zld, zldr, zlen, zn, zc, zcall, zcallv, zrcv, zdo, zdov, zpf, zpfc, zas, zasc, zmin, zmax, zcmp, zcz, zand_e, zor_e, zite_e, zbite_e, zif_e, znot_e, z_add, z_sub, z_mul, z_and, z_or, z_xor, z_shl, z_shr, zcpy, -List.getElem?_cons_succ, zg_0, zg_1, zg_2, zg_3, zg_4, zg_5, zg_6, zg_7, zg_8, zg_9, zc_lt, zc_le, zc_gt, zc_ge, zc_eq, zc_ne, zc_lt0, zc_ge0, zc_gt0, zc_eq0, zc_ne0, zb_ne, zb_eq, zb_01, z_00, z_01, z_11, zb_f, zb_T, zb_F, zbm1, zbm2, zbm5, zbm6, zbm3, zbm4, nI_clamp, zmod_n, pk_div, nI_ne0, pk_mul, nI_add, nI_1, hi]
    obtain ⟨H1, H2, H3, H4, H5, H6, H7⟩ := H
    by_cases hiu : i = u
    · subst hiu
      rw [if_neg (by omega)] at H4
      obtain ⟨tk', s', L', g', M', e1, e2⟩ := qM_rn1 (M0 := M0) (r := r) h8 hu d (i + 1) tk s L g M (by omega) hs ⟨fun k hk => H1 k (by omega), fun k k' a b => H2 k k' (by omega) (by omega), H3, by rw [if_pos (by omega)]; omega, H5, H6, H7⟩
      refine ⟨tk', s', L', g', M', zwh_t c1 ?_ e1, e2⟩
      simp (disch := omega) [zs_M_renames_1, lsR, zmeth, xm_en, zret, zretz, zretv, zseq, zst, zinc, zkl, zskip, zk, zi, za, zbin, zdiv, zrem, zgi, zgr, zld, zldr, zlen, zn, zc, zcall, zcallv, zrcv, zdo, zdov, zpf, zpfc, zas, zasc, zmin, zmax, zcmp, zcz, zand_e, zor_e, zite_e, zbite_e, zif_e, znot_e, z_add, z_sub, z_mul, z_and, z_or, z_xor, z_shl, z_shr, zcpy, -List.getElem?_cons_succ, zg_0, zg_1, zg_2, zg_3, zg_4, zg_5, zg_6, zg_7, zg_8, zg_9, zc_lt, zc_le, zc_gt, zc_ge, zc_eq, zc_ne, zc_lt0, zc_ge0, zc_gt0, zc_eq0, zc_ne0, zb_ne, zb_eq, zb_01, z_00, z_01, z_11, zb_f, zb_T, zb_F, zbm1, zbm2, zbm5, zbm6, zbm3, zbm4, nI_clamp, zmod_n, pk_div, nI_ne0, pk_mul, nI_add, nI_1]
    · have hL : 1 ≤ L := by split at H4 <;> omega
      have hL8 : L ≤ 8 := by split at H4 <;> omega
      have hm : s % L < L := Nat.mod_lt _ hL
      obtain ⟨w, w1, w2, w3, w4, w5⟩ := qM_rn2 (M := M) (n := n) (tk := tk) h8 (by omega) (some (Value.ref (32))) (some (Value.int (nI n))) (some (Value.int (nI u))) (some (Value.int (nI r))) (some (Value.int (nI (s / L)))) (some (Value.int (nI L))) (some (Value.int (nI i))) n 0 (s % L) (by omega) (by rw [H3]; exact hm) (by omega)
      have t8 : (tk ||| 2 ^ w) < 256 := Nat.or_lt_two_pow (n := 8) H5 (Nat.pow_lt_pow_right (by decide) (by omega))
      have hd : s / L < 2 ^ 30 := Nat.lt_of_le_of_lt (Nat.div_le_self s L) hs
      have old : ∀ k, k < i + 1 ∨ k = u → k ≠ i → k < i ∨ k = u := fun k a b => by omega
      have fre : ∀ k, k < i ∨ k = u → g k ≠ w := fun k hk z => by
        have := (H1 k hk).2.2
        rw [z, w3] at this
        cases this
      obtain ⟨tk', s', L', g', M', e1, e2⟩ := qM_rn1 (M0 := M0) (r := r) h8 hu d (i + 1) (tk ||| 2 ^ w) (s / L) (L - 1) (fun k => if k = i then w else g k) (zup M 36 i (nI w)) (by omega) hd ⟨fun k hk => by
        by_cases q : k = i
        · subst q
          simp only [zup_e, and_self, if_true]
          exact ⟨trivial, w2, by rw [Nat.testBit_or, Nat.testBit_two_pow]; simp⟩
        · obtain ⟨x1, x2, x3⟩ := H1 k (old k hk q)
          simp only [zup_e, if_neg q, and_false, if_false, q]
          exact ⟨x1, x2, by rw [Nat.testBit_or, x3]; rfl⟩, fun k k' a b => by
        by_cases q : k = i
        · by_cases q' : k' = i
          · intro _
            omega
          · simp only [if_pos q, if_neg q']
            exact fun z => absurd z.symm (fre k' (old k' b q'))
        · by_cases q' : k' = i
          · simp only [if_neg q, if_pos q']
            exact fun z => absurd z (fre k (old k a q))
          · simp only [if_neg q, if_neg q']
            exact H2 k k' (old k a q) (old k' b q'), by
        have := cf_set w2 w3
        omega, by
        split at H4
        · rw [if_pos (by omega)]
          omega
        · rw [if_neg (by omega)]
          omega, t8, by
        show (if u = i then w else g u) = 0
        rw [if_neg (fun z => hiu z.symm)]
        exact H6, fun q j hq => by
        rw [zup_e, if_neg (by omega)]
        exact H7 q j hq⟩
      refine ⟨tk', s', L', g', M', zwh_t c1 ?_ e1, e2⟩
      simp (disch := omega) [zs_M_renames_1, lsR, zmeth, xm_en, zret, zretz, zretv, zseq, zst, zinc, zkl, zskip, zk, zi, za, zbin, zdiv, zrem, zgi, zgr, zld, zldr, zlen, zn, zc, zcall, zcallv, zrcv, zdo, zdov, zpf, zpfc, zas, zasc, zmin, zmax, zcmp, zcz, zand_e, zor_e, zite_e, zbite_e, zif_e, znot_e, z_add, z_sub, z_mul, z_and, z_or, z_xor, z_shl, z_shr, zcpy, -List.getElem?_cons_succ, zg_0, zg_1, zg_2, zg_3, zg_4, zg_5, zg_6, zg_7, zg_8, zg_9, zc_lt, zc_le, zc_gt, zc_ge, zc_eq, zc_ne, zc_lt0, zc_ge0, zc_gt0, zc_eq0, zc_ne0, zb_ne, zb_eq, zb_01, z_00, z_01, z_11, zb_f, zb_T, zb_F, zbm1, zbm2, zbm5, zbm6, zbm3, zbm4, nI_clamp, zmod_n, pk_div, nI_ne0, pk_mul, nI_add, nI_1, zt_0, zt_12, zt_20, zt_26, zt_32, zf_0_0, zf_0_1, zf_0_2, zf_0_3, zf_0_4, zf_12_0, zf_12_1, zf_12_2, zf_12_4, zf_12_5, zf_20_1, zf_20_2, zf_20_3, zf_20_4, zf_20_6, zf_26_0, zf_26_1, zf_26_2, zf_26_3, zf_32_0, zf_32_1, zf_32_3, zf_32_4, zf_32_5, zf_32_6, nI_or, nI_shl1, nI_bit, zb_eq1, zi_36, hiu, w5, nI_dec]
theorem qM_renames {M : zM} {n u r : Nat} (h8 : n ≤ 8) (hu : u < n) (hr : r < 2 ^ 30) : ∃ (g : Nat → Nat) (M' : zM), zf_M_renames [.ref 32, .int (nI n), .int (nI u), .int (nI r)] M = some (none, M') ∧ (∀ k, k < n → M' 36 k = nI (g k) ∧ g k < n) ∧ (∀ k k', k < n → k' < n → g k = g k' → k = k') ∧ g u = 0 ∧ ∀ q j, q ≠ 36 → M' q j = M q j := by
  have c0 : cf 1 0 n = n - 1 := by
    have : ∀ n, n ≤ 8 → cf 1 0 n = n - 1 := by decide
    exact this n h8
  obtain ⟨tk', s', L', g', M', e1, e2⟩ := qM_rn1 (M0 := M) (r := r) h8 hu n 0 1 r (n - 1) (fun _ => 0) (zup M 36 u (nI 0)) (by omega) hr ⟨fun k hk => by
    have : k = u := by omega
    subst this
    rw [zup_e, if_pos ⟨rfl, rfl⟩]
    exact ⟨rfl, (show 0 < n by omega), (show Nat.testBit 1 0 = true by decide)⟩, fun k k' a b _ => by omega, c0, by rw [if_neg (by omega)], by decide, rfl, fun q j hq => by rw [zup_e, if_neg (by omega)]⟩
  refine ⟨g', M', ?_, fun k hk => ⟨(e2.1 k (Or.inl hk)).1, (e2.1 k (Or.inl hk)).2.1⟩, fun k k' a b => e2.2.1 k k' (Or.inl a) (Or.inl b), e2.2.2.2.2.2.1, e2.2.2.2.2.2.2⟩
  have es : nI n - nI 1 = nI (n - 1) := pk_sub (by omega)
  simp only [lsR] at e1
  simp (disch := omega) [zf_M_renames, zmeth, xm_en, zret, zretz, zretv, zseq, zst, zinc, zkl, zskip, zk, zi, za, zbin, zdiv, zrem, zgi, zgr, zld, zldr, zlen, zn, zc, zcall, zcallv, zrcv, zdo, zdov, zpf, zpfc, zas, zasc, zmin, zmax, zcmp, zcz, zand_e, zor_e, zite_e, zbite_e, zif_e, znot_e, z_add, z_sub, z_mul, z_and, z_or, z_xor, z_shl, z_shr, zcpy, -List.getElem?_cons_succ, zg_0, zg_1, zg_2, zg_3, zg_4, zg_5, zg_6, zg_7, zg_8, zg_9, zt_0, zt_12, zt_20, zt_26, zt_32, zf_0_0, zf_0_1, zf_0_2, zf_0_3, zf_0_4, zf_12_0, zf_12_1, zf_12_2, zf_12_4, zf_12_5, zf_20_1, zf_20_2, zf_20_3, zf_20_4, zf_20_6, zf_26_0, zf_26_1, zf_26_2, zf_26_3, zf_32_0, zf_32_1, zf_32_3, zf_32_4, zf_32_5, zf_32_6, nI_clamp, zi_36, es, e1]
