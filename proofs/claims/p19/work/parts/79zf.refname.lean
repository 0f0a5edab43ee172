/-! name: the reference's renamings, each number's own -/
theorem qM_rn3 {n u : Nat} (h8 : n ≤ 8) (hu : u < n) : ∀ (d i tk s L : Nat) (g : Nat → Nat), i + d = n → s < fa L → (∀ k, k < i ∨ k = u → g k < n ∧ tk.testBit (g k) = true) → (∀ k k', k < i ∨ k = u → k' < i ∨ k' = u → g k = g k' → k = k') → cf tk 0 n = L → (L + i = n - 1 + if u < i then 1 else 0) → tk < 256 → ∃ g' : Nat → Nat, (∀ k, k < n → g' k < n) ∧ (∀ k k', k < n → k' < n → g' k = g' k' → k = k') ∧ (∀ k, k < i ∨ k = u → g' k = g k) ∧ num u g' d i tk L = s ∧ ∀ (r : Nat) (M : zM), (∀ k, k < i ∨ k = u → M 36 k = nI (g k)) → ∃ tk' s' L' M', zwh zc_M_renames_1 zs_M_renames_1 (lsR n u r tk s L i) M = some (none, lsR n u r tk' s' L' n, M') ∧ (∀ k, k < n → M' 36 k = nI (g' k)) ∧ ∀ q j, q ≠ 36 → M' q j = M q j
  | 0, i, tk, s, L, g, h, hs, H1, H2, H3, H4, H5 => by
    have e : i = n := by omega
    subst e
    have L0 : L = 0 := by rw [if_pos hu] at H4; omega
    subst L0
    have s0 : s = 0 := by have : fa 0 = 1 := rfl; omega
    subst s0
    refine ⟨g, fun k hk => (H1 k (Or.inl hk)).1, fun k k' a b => H2 k k' (Or.inl a) (Or.inl b), fun k _ => rfl, rfl, fun r M hM => ⟨tk, 0, 0, M, zwh_f ?_, fun k hk => hM k (Or.inl hk), fun _ _ _ => rfl⟩⟩
    simp (disch := omega) [zc_M_renames_1, lsR, zmeth, xm_en, zret, zretz, zretv, zseq, zst, zinc, zkl, zskip, zk, zi, za, zbin, zdiv, zrem, zgi, zgr, zld, zldr, zlen, zn, zc, zcall, zcallv, zrcv, zdo, zdov, zpf, zpfc, zas, zasc, zmin, zmax, zcmp, zcz, zand_e, zor_e, zite_e, zbite_e, zif_e, znot_e, z_add, z_sub, z_mul, z_and, z_or, z_xor, z_shl, z_shr, zcpy, -List.getElem?_cons_succ, zg_0, zg_1, zg_2, zg_3, zg_4, zg_5, zg_6, zg_7, zg_8, zg_9, zc_lt, zc_le, zc_gt, zc_ge, zc_eq, zc_ne, zc_lt0, zc_ge0, zc_gt0, zc_eq0, zc_ne0, zb_ne, zb_eq, zb_01, z_00, z_01, z_11, zb_f, zb_T, zb_F, zbm1, zbm2, zbm5, zbm6, zbm3, zbm4, nI_clamp, zmod_n, pk_div, nI_ne0, pk_mul, nI_add, nI_1]
  | d + 1, i, tk, s, L, g, h, hs, H1, H2, H3, H4, H5 => by
    have hi : i < n := by omega
    have c1 : ∀ (r : Nat) (M : zM), zc_M_renames_1 (lsR n u r tk s L i) M = some (true, M) := fun r M => by simp (disch := omega) [zc_M_renames_1, lsR, zmeth, xm_en, zret, zretz, zretv, zseq, zst, zinc, zkl, zskip, zk, zi, za, zbin, zdiv, zrem, zgi, zgr, zld, zldr, zlen, zn, zc, zcall, zcallv, zrcv, zdo, zdov, zpf, zpfc, zas, zasc, zmin, zmax, zcmp, zcz, zand_e, zor_e, zite_e, zbite_e, zif_e, znot_e, z_add, z_sub, z_mul, z_and, z_or, z_xor, z_shl, z_shr, zcpy, -List.getElem?_cons_succ, zg_0, zg_1, zg_2, zg_3, zg_4, zg_5, zg_6, zg_7, zg_8, zg_9, zc_lt, zc_le, zc_gt, zc_ge, zc_eq, zc_ne, zc_lt0, zc_ge0, zc_gt0, zc_eq0, zc_ne0, zb_ne, zb_eq, zb_01, z_00, z_01, z_11, zb_f, zb_T, zb_F, zbm1, zbm2, zbm5, zbm6, zbm3, zbm4, nI_clamp, zmod_n, pk_div, nI_ne0, pk_mul, nI_add, nI_1, hi]
    by_cases hiu : i = u
    · rw [if_neg (by omega)] at H4
      obtain ⟨g', a1, a2, a3, a4, a5⟩ := qM_rn3 h8 hu d (i + 1) tk s L g (by omega) hs (fun k hk => H1 k (by omega)) (fun k k' a b => H2 k k' (by omega) (by omega)) H3 (by rw [if_pos (by omega)]; omega) H5
      refine ⟨g', a1, a2, fun k hk => a3 k (by omega), by unfold num; rw [if_pos hiu]; exact a4, fun r M hM => ?_⟩
      obtain ⟨tk', s', L', M', e1, e2⟩ := a5 r M (fun k hk => hM k (by omega))
      refine ⟨tk', s', L', M', zwh_t (c1 r M) ?_ e1, e2⟩
      subst hiu
      simp (disch := omega) [zs_M_renames_1, lsR, zmeth, xm_en, zret, zretz, zretv, zseq, zst, zinc, zkl, zskip, zk, zi, za, zbin, zdiv, zrem, zgi, zgr, zld, zldr, zlen, zn, zc, zcall, zcallv, zrcv, zdo, zdov, zpf, zpfc, zas, zasc, zmin, zmax, zcmp, zcz, zand_e, zor_e, zite_e, zbite_e, zif_e, znot_e, z_add, z_sub, z_mul, z_and, z_or, z_xor, z_shl, z_shr, zcpy, -List.getElem?_cons_succ, zg_0, zg_1, zg_2, zg_3, zg_4, zg_5, zg_6, zg_7, zg_8, zg_9, zc_lt, zc_le, zc_gt, zc_ge, zc_eq, zc_ne, zc_lt0, zc_ge0, zc_gt0, zc_eq0, zc_ne0, zb_ne, zb_eq, zb_01, z_00, z_01, z_11, zb_f, zb_T, zb_F, zbm1, zbm2, zbm5, zbm6, zbm3, zbm4, nI_clamp, zmod_n, pk_div, nI_ne0, pk_mul, nI_add, nI_1]
    · have hL : 1 ≤ L := by split at H4 <;> omega
      have hL8 : L ≤ 8 := by split at H4 <;> omega
      have hm : s % L < L := Nat.mod_lt _ hL
      have eF : fa L = L * fa (L - 1) := by
        cases L with
        | zero => omega
        | succ L => exact Nat.mul_comm _ _
      have hd : s / L < fa (L - 1) := Nat.div_lt_of_lt_mul (by rw [← eF]; exact hs)
      have fb := fa_le L (by split at H4 <;> omega)
      have find := fun (r : Nat) (M : zM) => qM_rn2 (M := M) (n := n) (tk := tk) h8 (by omega) (some (Value.ref (32))) (some (Value.int (nI n))) (some (Value.int (nI u))) (some (Value.int (nI r))) (some (Value.int (nI (s / L)))) (some (Value.int (nI L))) (some (Value.int (nI i))) n 0 (s % L) (by omega) (by rw [H3]; exact hm) (by omega)
      obtain ⟨w, w1, w2, w3, w4, _⟩ := find 0 (fun _ _ => 0)
      have t8 : (tk ||| 2 ^ w) < 256 := Nat.or_lt_two_pow (n := 8) H5 (Nat.pow_lt_pow_right (by decide) (by omega))
      have old : ∀ k, k < i + 1 ∨ k = u → k ≠ i → k < i ∨ k = u := fun k a b => by omega
      have fre : ∀ k, k < i ∨ k = u → g k ≠ w := fun k hk z => by
        have := (H1 k hk).2
        rw [z, w3] at this
        cases this
      obtain ⟨g', a1, a2, a3, a4, a5⟩ := qM_rn3 h8 hu d (i + 1) (tk ||| 2 ^ w) (s / L) (L - 1) (fun k => if k = i then w else g k) (by omega) hd (fun k hk => by
        by_cases q : k = i
        · simp only [if_pos q]
          exact ⟨w2, by rw [Nat.testBit_or, Nat.testBit_two_pow]; simp⟩
        · obtain ⟨x2, x3⟩ := H1 k (old k hk q)
          simp only [if_neg q]
          exact ⟨x2, by rw [Nat.testBit_or, x3]; rfl⟩) (fun k k' a b => by
        by_cases q : k = i
        · by_cases q' : k' = i
          · intro _
            omega
          · simp only [if_pos q, if_neg q']
            exact fun z => absurd z.symm (fre k' (old k' b q'))
        · by_cases q' : k' = i
          · simp only [if_neg q, if_pos q']
            exact fun z => absurd z (fre k (old k a q))
          · simp only [if_neg q, if_neg q']
            exact H2 k k' (old k a q) (old k' b q')) (by
        have := cf_set w2 w3
        omega) (by
        split at H4
        · rw [if_pos (by omega)]
          omega
        · rw [if_neg (by omega)]
          omega) t8
      have gi : g' i = w := by
        have := a3 i (by omega)
        simpa using this
      refine ⟨g', a1, a2, fun k hk => ?_, ?_, fun r M hM => ?_⟩
      · have := a3 k (by omega)
        have q : k ≠ i := by omega
        simpa only [if_neg q] using this
      · unfold num
        rw [if_neg hiu, gi, a4]
        have w4 : cf tk 0 w = s % L := w4
        rw [w4]
        exact Nat.mod_add_div s L
      · obtain ⟨w', w1', w2', w3', w4', w5'⟩ := find r M
        have ew : w' = w := cf_inj w3' w3 (show cf tk 0 w' = cf tk 0 w from (show cf tk 0 w' = s % L from w4').trans (show cf tk 0 w = s % L from w4).symm)
        subst ew
        obtain ⟨tk', s', L', M', e1, e2, e3⟩ := a5 r (zup M 36 i (nI w')) (fun k hk => by
          by_cases q : k = i
          · rw [zup_e, if_pos ⟨rfl, q⟩, if_pos q]
          · rw [zup_e, if_neg (fun z => q z.2), if_neg q]
            exact hM k (old k hk q))
        refine ⟨tk', s', L', M', zwh_t (c1 r M) ?_ e1, e2, fun q j hq => (e3 q j hq).trans (by rw [zup_e, if_neg (fun z => hq z.1)])⟩
        have sb : s < 2 ^ 30 := by omega
        have db : s / L < 2 ^ 30 := Nat.lt_of_le_of_lt (Nat.div_le_self s L) sb
        simp (disch := omega) [zs_M_renames_1, lsR, zmeth, xm_en, zret, zretz, zretv, zseq, zst, zinc, zkl, zskip, zk, zi, za, zbin, zdiv, zrem, zgi, zgr, zld, zldr, zlen, zn, zc, zcall, zcallv, zrcv, zdo, zdov, zpf, zpfc, zas, zasc, zmin, zmax, zcmp, zcz, zand_e, zor_e, zite_e, zbite_e, zif_e, znot_e, z_add, z_sub, z_mul, z_and, z_or, z_xor, z_shl, z_shr, zcpy, -List.getElem?_cons_succ, zg_0, zg_1, zg_2, zg_3, zg_4, zg_5, zg_6, zg_7, zg_8, zg_9, zc_lt, zc_le, zc_gt, zc_ge, zc_eq, zc_ne, zc_lt0, zc_ge0, zc_gt0, zc_eq0, zc_ne0, zb_ne, zb_eq, zb_01, z_00, z_01, z_11, zb_f, zb_T, zb_F, zbm1, zbm2, zbm5, zbm6, zbm3, zbm4, nI_clamp, zmod_n, pk_div, nI_ne0, pk_mul, nI_add, nI_1, zt_0, zt_12, zt_20, zt_26, zt_32, zf_0_0, zf_0_1, zf_0_2, zf_0_3, zf_0_4, zf_12_0, zf_12_1, zf_12_2, zf_12_4, zf_12_5, zf_20_1, zf_20_2, zf_20_3, zf_20_4, zf_20_6, zf_26_0, zf_26_1, zf_26_2, zf_26_3, zf_32_0, zf_32_1, zf_32_3, zf_32_4, zf_32_5, zf_32_6, nI_or, nI_shl1, nI_bit, zb_eq1, zi_36, hiu, w5', nI_dec]
theorem rn_1 {n : Nat} (h8 : n ≤ 8) (h1 : 1 ≤ n) (r : Nat) (hr : r < fa (n - 1)) : ∃ l, PL n l ∧ num 0 (px l) n 0 1 (n - 1) = r ∧ ∀ M, ∃ M', zf_M_renames [.ref 32, .int (nI n), .int (nI 0), .int (nI r)] M = some (none, M') ∧ (∀ k, k < n → M' 36 k = nI (px l k)) ∧ ∀ q j, q ≠ 36 → M' q j = M q j := by
  have c0 : cf 1 0 n = n - 1 := by
    have : ∀ n, n ≤ 8 → cf 1 0 n = n - 1 := by decide
    exact this n h8
  obtain ⟨g', a1, a2, a3, a4, a5⟩ := qM_rn3 (u := 0) h8 (by omega) n 0 1 r (n - 1) (fun _ => 0) (by omega) hr (fun k hk => ⟨(show 0 < n by omega), (show Nat.testBit 1 0 = true by decide)⟩) (fun k k' a b _ => by omega) c0 (by rw [if_neg (by omega)]) (by decide)
  obtain ⟨l, l1, l2⟩ := PL_of h1 a1 a2 (a3 0 (Or.inr rfl))
  refine ⟨l, l1, by rw [num_congr (G' := g') n 0 1 (n - 1) (by omega) (fun k _ hk => l2 k hk)]; exact a4, fun M => ?_⟩
  obtain ⟨tk', s', L', M', e1, e2, e3⟩ := a5 r (zup M 36 0 (nI 0)) (fun k hk => by
    have : k = 0 := by omega
    rw [this, zup_e, if_pos ⟨rfl, rfl⟩])
  refine ⟨M', ?_, fun k hk => by rw [e2 k hk, l2 k hk], fun q j hq => (e3 q j hq).trans (by rw [zup_e, if_neg (fun z => hq z.1)])⟩
  have es : nI n - nI 1 = nI (n - 1) := pk_sub (by omega)
  simp only [lsR] at e1
  simp (disch := omega) [zf_M_renames, zmeth, xm_en, zret, zretz, zretv, zseq, zst, zinc, zkl, zskip, zk, zi, za, zbin, zdiv, zrem, zgi, zgr, zld, zldr, zlen, zn, zc, zcall, zcallv, zrcv, zdo, zdov, zpf, zpfc, zas, zasc, zmin, zmax, zcmp, zcz, zand_e, zor_e, zite_e, zbite_e, zif_e, znot_e, z_add, z_sub, z_mul, z_and, z_or, z_xor, z_shl, z_shr, zcpy, -List.getElem?_cons_succ, zg_0, zg_1, zg_2, zg_3, zg_4, zg_5, zg_6, zg_7, zg_8, zg_9, zt_0, zt_12, zt_20, zt_26, zt_32, zf_0_0, zf_0_1, zf_0_2, zf_0_3, zf_0_4, zf_12_0, zf_12_1, zf_12_2, zf_12_4, zf_12_5, zf_20_1, zf_20_2, zf_20_3, zf_20_4, zf_20_6, zf_26_0, zf_26_1, zf_26_2, zf_26_3, zf_32_0, zf_32_1, zf_32_3, zf_32_4, zf_32_5, zf_32_6, nI_clamp, zi_36, es, e1]
theorem FRE_px {n : Nat} {l : List Nat} (hl : PL n l) : FRE n 0 (px l) 0 1 := by
  refine ⟨fun k _ hk k0 => ⟨hl.pl hk, ?_⟩, fun k k' _ a _ _ b _ e => by rw [← hl.gp a, ← hl.gp b, e]⟩
  have : px l k ≠ 0 := fun z => k0 (by
    rw [← hl.gp hk, z]
    exact hl.2.2.2)
  cases hp : px l k with
  | zero => exact absurd hp this
  | succ m =>
    rw [Nat.testBit_succ]
    exact Nat.zero_testBit m
/-- all renamings by their numbers: each once -/
theorem rn_all {n : Nat} (h8 : n ≤ 8) (h1 : 1 ≤ n) : ∃ lr : Nat → List Nat, (∀ r, r < fa (n - 1) → PL n (lr r)) ∧ (∀ r r', r < fa (n - 1) → r' < fa (n - 1) → lr r = lr r' → r = r') ∧ (∀ l, PL n l → ∃ r, r < fa (n - 1) ∧ lr r = l) ∧ ∀ r, r < fa (n - 1) → ∀ M, ∃ M', zf_M_renames [.ref 32, .int (nI n), .int (nI 0), .int (nI r)] M = some (none, M') ∧ (∀ k, k < n → M' 36 k = nI (px (lr r) k)) ∧ ∀ q j, q ≠ 36 → M' q j = M q j := by
  have c0 : cf 1 0 n = n - 1 := by
    have : ∀ n, n ≤ 8 → cf 1 0 n = n - 1 := by decide
    exact this n h8
  have H : ∀ r, ∃ l, r < fa (n - 1) → PL n l ∧ num 0 (px l) n 0 1 (n - 1) = r ∧ ∀ M, ∃ M', zf_M_renames [.ref 32, .int (nI n), .int (nI 0), .int (nI r)] M = some (none, M') ∧ (∀ k, k < n → M' 36 k = nI (px l k)) ∧ ∀ q j, q ≠ 36 → M' q j = M q j := fun r => by
    by_cases hr : r < fa (n - 1)
    · obtain ⟨l, q⟩ := rn_1 h8 h1 r hr
      exact ⟨l, fun _ => q⟩
    · exact ⟨[], fun q => absurd q hr⟩
  obtain ⟨lr, hlr⟩ := Classical.skolem.mp H
  refine ⟨lr, fun r hr => (hlr r hr).1, fun r r' hr hr' e => ?_, fun l hl => ?_, fun r hr => (hlr r hr).2.2⟩
  · rw [← (hlr r hr).2.1, ← (hlr r' hr').2.1, e]
  · have hr := num_lt (n := n) n 0 1 (n - 1) (by omega) c0 (FRE_px hl)
    refine ⟨_, hr, ?_⟩
    obtain ⟨p1, p2, _⟩ := hlr _ hr
    have ne := num_inj (n := n) n 0 1 (n - 1) (by omega) c0 (FRE_px p1) (FRE_px hl) p2
    refine PL_px p1 hl (fun k hk => ?_)
    by_cases k0 : k = 0
    · subst k0
      have a := p1.pg (i := 0) (by omega)
      rw [p1.2.2.2] at a
      have b := hl.pg (i := 0) (by omega)
      rw [hl.2.2.2] at b
      rw [a, b]
    · exact ne k (Nat.zero_le k) hk k0
