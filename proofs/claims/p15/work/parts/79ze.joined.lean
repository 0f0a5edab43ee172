/-! name: the numbers of the renamings -/
theorem cf_S (tk d : Nat) : cf tk 0 (d + 1) = cf tk 0 d + (if tk.testBit d = true then 0 else 1) := by
  show cf tk 0 d + (if tk.testBit (0 + d) = true then 0 else 1) = _
  rw [Nat.zero_add]
theorem cf_lt {tk w : Nat} (h : tk.testBit w = false) : ∀ {m : Nat}, w < m → cf tk 0 w < cf tk 0 m
  | 0, q => absurd q (Nat.not_lt_zero w)
  | m + 1, q => by
    rw [cf_S]
    by_cases e : w = m
    · subst e
      rw [h]
      simp
    · have := cf_lt h (m := m) (by omega)
      omega
theorem cf_inj {tk w w' : Nat} (h : tk.testBit w = false) (h' : tk.testBit w' = false) (e : cf tk 0 w = cf tk 0 w') : w = w' := by
  rcases Nat.lt_trichotomy w w' with q | q | q
  · have := cf_lt h q
    omega
  · exact q
  · have := cf_lt h' q
    omega
def num (u : Nat) (G : Nat → Nat) : Nat → Nat → Nat → Nat → Nat
  | 0, _, _, _ => 0
  | d + 1, i, tk, L => if i = u then num u G d (i + 1) tk L else cf tk 0 (G i) + L * num u G d (i + 1) (tk ||| 2 ^ G i) (L - 1)
theorem fa_pos : ∀ m, 0 < fa m
  | 0 => Nat.one_pos
  | m + 1 => Nat.mul_pos (fa_pos m) (Nat.succ_pos m)
/-- the images from i on are free in tk, and no two are the same -/
def FRE (n u : Nat) (G : Nat → Nat) (i tk : Nat) : Prop := (∀ k, i ≤ k → k < n → k ≠ u → G k < n ∧ tk.testBit (G k) = false) ∧ ∀ k k', i ≤ k → k < n → k ≠ u → i ≤ k' → k' < n → k' ≠ u → G k = G k' → k = k'
theorem FRE.su {n u i tk : Nat} {G : Nat → Nat} (h : FRE n u G i tk) : FRE n u G (i + 1) tk := ⟨fun k a b d => h.1 k (by omega) b d, fun k k' a b d a' b' d' => h.2 k k' (by omega) b d (by omega) b' d'⟩
theorem FRE.st {n u i tk : Nat} {G : Nat → Nat} (h : FRE n u G i tk) (hi : i < n) (hu : i ≠ u) : FRE n u G (i + 1) (tk ||| 2 ^ G i) := ⟨fun k a b d => ⟨(h.1 k (by omega) b d).1, by
    rw [Nat.testBit_or, (h.1 k (by omega) b d).2, Nat.testBit_two_pow, Bool.false_or]
    exact decide_eq_false (fun e => absurd (h.2 i k (Nat.le_refl i) hi hu (by omega) b d e) (by omega))⟩, fun k k' a b d a' b' d' => h.2 k k' (by omega) b d (by omega) b' d'⟩
theorem num_lt {n u : Nat} {G : Nat → Nat} : ∀ (d i tk L : Nat), i + d = n → cf tk 0 n = L → FRE n u G i tk → num u G d i tk L < fa L
  | 0, i, tk, L, _, _, _ => fa_pos L
  | d + 1, i, tk, L, e, hL, h => by
    unfold num
    by_cases q : i = u
    · rw [if_pos q]
      exact num_lt d (i + 1) tk L (by omega) hL h.su
    · rw [if_neg q]
      obtain ⟨g1, g2⟩ := h.1 i (Nat.le_refl i) (by omega) q
      have c1 := cf_lt g2 g1
      have c2 := cf_set g1 g2
      have r := num_lt d (i + 1) (tk ||| 2 ^ G i) (L - 1) (by omega) (by omega) (h.st (by omega) q)
      have e2 : fa L = fa (L - 1) * L := by
        cases L with
        | zero => omega
        | succ L => rfl
      have r2 := Nat.mul_le_mul_left L r
      rw [Nat.mul_succ] at r2
      rw [e2, Nat.mul_comm (fa (L - 1)) L]
      omega
theorem num_inj {n u : Nat} {G G' : Nat → Nat} : ∀ (d i tk L : Nat), i + d = n → cf tk 0 n = L → FRE n u G i tk → FRE n u G' i tk → num u G d i tk L = num u G' d i tk L → ∀ k, i ≤ k → k < n → k ≠ u → G k = G' k
  | 0, i, tk, L, e, _, _, _, _ => fun k a b _ => by omega
  | d + 1, i, tk, L, e, hL, h, h', en => by
    unfold num at en
    by_cases q : i = u
    · rw [if_pos q, if_pos q] at en
      exact fun k a b z => num_inj d (i + 1) tk L (by omega) hL h.su h'.su en k (by omega) b z
    · rw [if_neg q, if_neg q] at en
      obtain ⟨g1, g2⟩ := h.1 i (Nat.le_refl i) (by omega) q
      obtain ⟨g1', g2'⟩ := h'.1 i (Nat.le_refl i) (by omega) q
      have c1 := cf_lt g2 g1
      have c1' := cf_lt g2' g1'
      have c2 := cf_set g1 g2
      obtain ⟨p1, p2⟩ := pr_inj (m := L) (a := num u G d (i + 1) (tk ||| 2 ^ G i) (L - 1)) (a' := num u G' d (i + 1) (tk ||| 2 ^ G' i) (L - 1)) (b := cf tk 0 (G i)) (b' := cf tk 0 (G' i)) (by omega) (by omega) (by omega)
      have eg := cf_inj g2 g2' p2
      rw [← eg] at p1
      have hs' := h'.st (by omega) q
      rw [← eg] at hs'
      intro k a b z
      by_cases ek : k = i
      · rw [ek]
        exact eg
      · exact num_inj d (i + 1) (tk ||| 2 ^ G i) (L - 1) (by omega) (by omega) (h.st (by omega) q) hs' p1 k (by omega) b z
theorem num_congr {n u : Nat} {G G' : Nat → Nat} : ∀ (d i tk L : Nat), i + d = n → (∀ k, i ≤ k → k < n → G k = G' k) → num u G d i tk L = num u G' d i tk L
  | 0, i, tk, L, _, _ => rfl
  | d + 1, i, tk, L, e, h => by
    unfold num
    rw [h i (Nat.le_refl i) (by omega), num_congr d (i + 1) tk L (by omega) (fun k a b => h k (by omega) b), num_congr d (i + 1) (tk ||| 2 ^ G' i) (L - 1) (by omega) (fun k a b => h k (by omega) b)]
/-! lists out of bijections -/
theorem gd_map (f : Nat → Nat) : ∀ {l : List Nat} {i : Nat}, i < l.length → gd (l.map f) i = f (gd l i)
  | [], i, h => absurd h (Nat.not_lt_zero i)
  | a :: l, 0, _ => rfl
  | a :: l, i + 1, h => gd_map f (l := l) (by simpa using h)
theorem nd_gd : ∀ {l : List Nat}, (∀ i j, i < l.length → j < l.length → gd l i = gd l j → i = j) → l.Nodup
  | [], _ => List.nodup_nil
  | a :: l, h => List.nodup_cons.mpr ⟨fun z => by
      obtain ⟨p1, p2⟩ := px_mem z
      have := h 0 (px l a + 1) (by simp) (by simpa using p1) p2.symm
      omega, nd_gd (fun i j hi hj e => by
      have := h (i + 1) (j + 1) (by simpa using hi) (by simpa using hj) e
      omega)⟩
theorem gd_ext : ∀ {l m : List Nat}, l.length = m.length → (∀ i, i < l.length → gd l i = gd m i) → l = m
  | [], [], _, _ => rfl
  | [], b :: m, h, _ => by simp at h
  | a :: l, [], h, _ => by simp at h
  | a :: l, b :: m, h, q => by
    have e1 : a = b := q 0 (by simp)
    have e2 := gd_ext (l := l) (m := m) (by simpa using h) (fun i hi => q (i + 1) (by simpa using hi))
    rw [e1, e2]
theorem PL_of {n : Nat} {g : Nat → Nat} (h1 : 1 ≤ n) (hl : ∀ k, k < n → g k < n) (hi : ∀ k k', k < n → k' < n → g k = g k' → k = k') (h0 : g 0 = 0) : ∃ l, PL n l ∧ ∀ k, k < n → px l k = g k := by
  have gA : ∀ k, k < n → gd ((List.range n).map g) k = g k := fun k hk => by
    rw [gd_map g (by rw [List.length_range]; exact hk), gd_rg hk]
  have lA : ((List.range n).map g).length = n := by rw [List.length_map, List.length_range]
  have A : PL n ((List.range n).map g) := ⟨lA, nd_gd (fun i j a b e => by
    rw [lA] at a b
    rw [gA i a, gA j b] at e
    exact hi i j a b e), fun x hx => by
    obtain ⟨k, k1, k2⟩ := List.mem_map.mp hx
    rw [← k2]
    exact hl k (List.mem_range.mp k1), (gA 0 (by omega)).trans h0⟩
  have gl : ∀ k, k < n → gd ((List.range n).map (px ((List.range n).map g))) k = px ((List.range n).map g) k := fun k hk => by
    rw [gd_map _ (by rw [List.length_range]; exact hk), gd_rg hk]
  have ll : ((List.range n).map (px ((List.range n).map g))).length = n := by rw [List.length_map, List.length_range]
  have B : PL n ((List.range n).map (px ((List.range n).map g))) := ⟨ll, nd_gd (fun i j a b e => by
    rw [ll] at a b
    rw [gl i a, gl j b] at e
    rw [← A.gp a, ← A.gp b, e]), fun x hx => by
    obtain ⟨k, k1, k2⟩ := List.mem_map.mp hx
    rw [← k2]
    exact A.pl (List.mem_range.mp k1), by
    rw [gl 0 (by omega)]
    have := A.pg (i := 0) (by omega)
    rw [gA 0 (by omega), h0] at this
    exact this⟩
  refine ⟨_, B, fun k hk => ?_⟩
  have e1 : gd ((List.range n).map (px ((List.range n).map g))) (g k) = k := by
    rw [gl _ (hl k hk), ← gA k hk]
    exact A.pg hk
  have e2 := B.pg (hl k hk)
  rw [e1] at e2
  exact e2
theorem PL_px {n : Nat} {l m : List Nat} (hl : PL n l) (hm : PL n m) (h : ∀ k, k < n → px l k = px m k) : l = m := gd_ext (by rw [hl.1, hm.1]) (fun i hi => by
  rw [hl.1] at hi
  have y := hl.gl hi
  have e := h _ y
  rw [hl.pg hi] at e
  have z := hm.gp y
  rw [← e] at z
  exact z.symm)
/-! name: the reference's renamings, each number's own -/
theorem qM_rn3 {n u : Nat} (h8 : n ≤ 8) (hu : u < n) : ∀ (d i tk s L : Nat) (g : Nat → Nat), i + d = n → s < fa L → (∀ k, k < i ∨ k = u → g k < n ∧ tk.testBit (g k) = true) → (∀ k k', k < i ∨ k = u → k' < i ∨ k' = u → g k = g k' → k = k') → cf tk 0 n = L → (L + i = n - 1 + if u < i then 1 else 0) → tk < 256 → ∃ g' : Nat → Nat, (∀ k, k < n → g' k < n) ∧ (∀ k k', k < n → k' < n → g' k = g' k' → k = k') ∧ (∀ k, k < i ∨ k = u → g' k = g k) ∧ num u g' d i tk L = s ∧ ∀ (r : Nat) (M : zM), (∀ k, k < i ∨ k = u → M 36 k = nI (g k)) → ∃ tk' s' L' M', zwh zc_M_renames_1 zs_M_renames_1 (lsR n u r tk s L i) M = some (none, lsR n u r tk' s' L' n, M') ∧ (∀ k, k < n → M' 36 k = nI (g' k)) ∧ ∀ q j, q ≠ 36 → M' q j = M q j
  | 0, i, tk, s, L, g, h, hs, H1, H2, H3, H4, H5 => by
    have e : i = n := by omega
    subst e
    have L0 : L = 0 := by rw [if_pos hu] at H4; omega
    subst L0
    have s0 : s = 0 := by have : fa 0 = 1 := rfl; omega
    subst s0
    refine ⟨g, fun k hk => (H1 k (Or.inl hk)).1, fun k k' a b => H2 k k' (Or.inl a) (Or.inl b), fun k _ => rfl, rfl, fun r M hM => ⟨tk, 0, 0, M, zwh_f ?_, fun k hk => hM k (Or.inl hk), fun _ _ _ => rfl⟩⟩
    simp (disch := omega) [zc_M_renames_1, lsR, zmeth, xm_en, zret, zretz, zretv, zseq, zst, zinc, zkl, zskip, zk, zi, za, zbin, zdiv, zrem, zgi, zgr, zld, zldr, zlen, zn, zc, zcall, zcallv, zrcv, zdo, zdov, zpf, zpfc, zas, zasc, zmin, zmax, zcmp, zcz, zand_e, zor_e, zite_e, zbite_e, zif_e, znot_e, z_add, z_sub, z_mul, z_and, z_or, z_xor, z_shl, z_shr, zcpy, -List.getElem?_cons_succ, zg_0, zg_1, zg_2, zg_3, zg_4, zg_5, zg_6, zg_7, zg_8, zg_9, zc_lt, zc_le, zc_gt, zc_ge, zc_eq, zc_ne, zc_lt0, zc_ge0, zc_gt0, zc_eq0, zc_ne0, zb_ne, zb_eq, zb_01, z_00, z_01, z_11, zb_f, zb_T, zb_F, zbm1, zbm2, zbm5, zbm6, zbm3, zbm4, nI_clamp, zmod_n, pk_div, nI_ne0, pk_mul, nI_add, nI_1]
  | d + 1, i, tk, s, L, g, h, hs, H1, H2, H3, H4, H5 => by
    have hi : i < n := by omega
    have c1 : ∀ (r : Nat) (M : zM), zc_M_renames_1 (lsR n u r tk s L i) M = some (true, M) := fun r M => by simp (disch := omega) [zc_M_renames_1, lsR, zmeth, xm_en, zret, zretz, zretv, zseq, zst, zinc, zkl, zskip, zk, zi, za, zbin, zdiv, zrem, zgi, zgr, zld, zldr, zlen, zn, zc, zcall, zcallv, zrcv, zdo, zdov, zpf, zpfc, zas, zasc, zmin, zmax, zcmp, zcz, zand_e, zor_e, zite_e, zbite_e, zif_e, znot_e, z_add, z_sub, z_mul, z_and, z_or, z_xor, z_shl, z_shr, zcpy, -List.getElem?_cons_succ, zg_0, zg_1, zg_2, zg_3, zg_4, zg_5, zg_6, zg_7, zg_8, zg_9, zc_lt, zc_le, zc_gt, zc_ge, zc_eq, zc_ne, zc_lt0, zc_ge0, zc_gt0, zc_eq0, zc_ne0, zb_ne, zb_eq, zb_01, z_00, z_01, z_11, zb_f, zb_T, zb_F, zbm1, zbm2, zbm5, zbm6, zbm3, zbm4, nI_clamp, zmod_n, pk_div, nI_ne0, pk_mul, nI_add, nI_1, hi]
    by_cases hiu : i = u
    · rw [if_neg (by omega)] at H4
      obtain ⟨g', a1, a2, a3, a4, a5⟩ := qM_rn3 h8 hu d (i + 1) tk s L g (by omega) hs (fun k hk => H1 k (by omega)) (fun k k' a b => H2 k k' (by omega) (by omega)) H3 (by rw [if_pos (by omega)]; omega) H5
      refine ⟨g', a1, a2, fun k hk => a3 k (by omega), by unfold num; rw [if_pos hiu]; exact a4, fun r M hM => ?_⟩
      obtain ⟨tk', s', L', M', e1, e2⟩ := a5 r M (fun k hk => hM k (by omega))
      refine ⟨tk', s', L', M', zwh_t (c1 r M) ?_ e1, e2⟩
      subst hiu
      simp (disch := omega) [zs_M_renames_1, lsR, zmeth, xm_en, zret, zretz, zretv, zseq, zst, zinc, zkl, zskip, zk, zi, za, zbin, zdiv, zrem, zgi, zgr, zld, zldr, zlen, zn, zc, zcall, zcallv, zrcv, zdo, zdov, zpf, zpfc, zas, zasc, zmin, zmax, zcmp, zcz, zand_e, zor_e, zite_e, zbite_e, zif_e, znot_e, z_add, z_sub, z_mul, z_and, z_or, z_xor, z_shl, z_shr, zcpy, -List.getElem?_cons_succ, zg_0, zg_1, zg_2, zg_3, zg_4, zg_5, zg_6, zg_7, zg_8, zg_9, zc_lt, zc_le, zc_gt, zc_ge, zc_eq, zc_ne, zc_lt0, zc_ge0, zc_gt0, zc_eq0, zc_ne0, zb_ne, zb_eq, zb_01, z_00, z_01, z_11, zb_f, zb_T, zb_F, zbm1, zbm2, zbm5, zbm6, zbm3, zbm4, nI_clamp, zmod_n, pk_div, nI_ne0, pk_mul, nI_add, nI_1]
    · have hL : 1 ≤ L := by split at H4 <;> omega
      have hL8 : L ≤ 8 := by split at H4 <;> omega
      have hm : s % L < L := Nat.mod_lt _ hL
      have eF : fa L = L * fa (L - 1) := by
        cases L with
        | zero => omega
        | succ L => exact Nat.mul_comm _ _
      have hd : s / L < fa (L - 1) := Nat.div_lt_of_lt_mul (by rw [← eF]; exact hs)
      have fb := fa_le L (by split at H4 <;> omega)
      have find := fun (r : Nat) (M : zM) => qM_rn2 (M := M) (n := n) (tk := tk) h8 (by omega) (some (Value.ref (32))) (some (Value.int (nI n))) (some (Value.int (nI u))) (some (Value.int (nI r))) (some (Value.int (nI (s / L)))) (some (Value.int (nI L))) (some (Value.int (nI i))) n 0 (s % L) (by omega) (by rw [H3]; exact hm) (by omega)
      obtain ⟨w, w1, w2, w3, w4, _⟩ := find 0 (fun _ _ => 0)
      have t8 : (tk ||| 2 ^ w) < 256 := Nat.or_lt_two_pow (n := 8) H5 (Nat.pow_lt_pow_right (by decide) (by omega))
      have old : ∀ k, k < i + 1 ∨ k = u → k ≠ i → k < i ∨ k = u := fun k a b => by omega
      have fre : ∀ k, k < i ∨ k = u → g k ≠ w := fun k hk z => by
        have := (H1 k hk).2
        rw [z, w3] at this
        cases this
      obtain ⟨g', a1, a2, a3, a4, a5⟩ := qM_rn3 h8 hu d (i + 1) (tk ||| 2 ^ w) (s / L) (L - 1) (fun k => if k = i then w else g k) (by omega) hd (fun k hk => by
        by_cases q : k = i
        · simp only [if_pos q]
          exact ⟨w2, by rw [Nat.testBit_or, Nat.testBit_two_pow]; simp⟩
        · obtain ⟨x2, x3⟩ := H1 k (old k hk q)
          simp only [if_neg q]
          exact ⟨x2, by rw [Nat.testBit_or, x3]; rfl⟩) (fun k k' a b => by
        by_cases q : k = i
        · by_cases q' : k' = i
          · intro _
            omega
          · simp only [if_pos q, if_neg q']
            exact fun z => absurd z.symm (fre k' (old k' b q'))
        · by_cases q' : k' = i
          · simp only [if_neg q, if_pos q']
            exact fun z => absurd z (fre k (old k a q))
          · simp only [if_neg q, if_neg q']
            exact H2 k k' (old k a q) (old k' b q')) (by
        have := cf_set w2 w3
        omega) (by
        split at H4
        · rw [if_pos (by omega)]
          omega
        · rw [if_neg (by omega)]
          omega) t8
      have gi : g' i = w := by
        have := a3 i (by omega)
        simpa using this
      refine ⟨g', a1, a2, fun k hk => ?_, ?_, fun r M hM => ?_⟩
      · have := a3 k (by omega)
        have q : k ≠ i := by omega
        simpa only [if_neg q] using this
      · unfold num
        rw [if_neg hiu, gi, a4]
        have w4 : cf tk 0 w = s % L := w4
        rw [w4]
        exact Nat.mod_add_div s L
      · obtain ⟨w', w1', w2', w3', w4', w5'⟩ := find r M
        have ew : w' = w := cf_inj w3' w3 (show cf tk 0 w' = cf tk 0 w from (show cf tk 0 w' = s % L from w4').trans (show cf tk 0 w = s % L from w4).symm)
        subst ew
        obtain ⟨tk', s', L', M', e1, e2, e3⟩ := a5 r (zup M 36 i (nI w')) (fun k hk => by
          by_cases q : k = i
          · rw [zup_e, if_pos ⟨rfl, q⟩, if_pos q]
          · rw [zup_e, if_neg (fun z => q z.2), if_neg q]
            exact hM k (old k hk q))
        refine ⟨tk', s', L', M', zwh_t (c1 r M) ?_ e1, e2, fun q j hq => (e3 q j hq).trans (by rw [zup_e, if_neg (fun z => hq z.1)])⟩
        have sb : s < 2 ^ 30 := by omega
        have db : s / L < 2 ^ 30 := Nat.lt_of_le_of_lt (Nat.div_le_self s L) sb
        simp (disch := omega) [zs_M_renames_1, lsR, zmeth, xm_en, zret, zretz, zretv, zseq, zst, zinc, zkl, zskip, zk, zi, za, zbin, zdiv, zrem, zgi, zgr, zld, zldr, zlen, zn, zc, zcall, zcallv, zrcv, zdo, zdov, zpf, zpfc, zas, zasc, zmin, zmax, zcmp, zcz, zand_e, zor_e, zite_e, zbite_e, zif_e, znot_e, z_add, z_sub, z_mul, z_and, z_or, z_xor, z_shl, z_shr, zcpy, -List.getElem?_cons_succ, zg_0, zg_1, zg_2, zg_3, zg_4, zg_5, zg_6, zg_7, zg_8, zg_9, zc_lt, zc_le, zc_gt, zc_ge, zc_eq, zc_ne, zc_lt0, zc_ge0, zc_gt0, zc_eq0, zc_ne0, zb_ne, zb_eq, zb_01, z_00, z_01, z_11, zb_f, zb_T, zb_F, zbm1, zbm2, zbm5, zbm6, zbm3, zbm4, nI_clamp, zmod_n, pk_div, nI_ne0, pk_mul, nI_add, nI_1, zt_0, zt_12, zt_20, zt_26, zt_32, zf_0_0, zf_0_1, zf_0_2, zf_0_3, zf_0_4, zf_12_0, zf_12_1, zf_12_2, zf_12_4, zf_12_5, zf_20_1, zf_20_2, zf_20_3, zf_20_4, zf_20_6, zf_26_0, zf_26_1, zf_26_2, zf_26_3, zf_32_0, zf_32_1, zf_32_3, zf_32_4, zf_32_5, zf_32_6, nI_or, nI_shl1, nI_bit, zb_eq1, zi_36, hiu, w5', nI_dec]
theorem rn_1 {n : Nat} (h8 : n ≤ 8) (h1 : 1 ≤ n) (r : Nat) (hr : r < fa (n - 1)) : ∃ l, PL n l ∧ num 0 (px l) n 0 1 (n - 1) = r ∧ ∀ M, ∃ M', zf_M_renames [.ref 32, .int (nI n), .int (nI 0), .int (nI r)] M = some (none, M') ∧ (∀ k, k < n → M' 36 k = nI (px l k)) ∧ ∀ q j, q ≠ 36 → M' q j = M q j := by
  have c0 : cf 1 0 n = n - 1 := by
    have : ∀ n, n ≤ 8 → cf 1 0 n = n - 1 := by decide
    exact this n h8
  obtain ⟨g', a1, a2, a3, a4, a5⟩ := qM_rn3 (u := 0) h8 (by omega) n 0 1 r (n - 1) (fun _ => 0) (by omega) hr (fun k hk => ⟨(show 0 < n by omega), (show Nat.testBit 1 0 = true by decide)⟩) (fun k k' a b _ => by omega) c0 (by rw [if_neg (by omega)]) (by decide)
  obtain ⟨l, l1, l2⟩ := PL_of h1 a1 a2 (a3 0 (Or.inr rfl))
  refine ⟨l, l1, by rw [num_congr (G' := g') n 0 1 (n - 1) (by omega) (fun k _ hk => l2 k hk)]; exact a4, fun M => ?_⟩
  obtain ⟨tk', s', L', M', e1, e2, e3⟩ := a5 r (zup M 36 0 (nI 0)) (fun k hk => by
    have : k = 0 := by omega
    rw [this, zup_e, if_pos ⟨rfl, rfl⟩])
  refine ⟨M', ?_, fun k hk => by rw [e2 k hk, l2 k hk], fun q j hq => (e3 q j hq).trans (by rw [zup_e, if_neg (fun z => hq z.1)])⟩
  have es : nI n - nI 1 = nI (n - 1) := pk_sub (by omega)
  simp only [lsR] at e1
  simp (disch := omega) [zf_M_renames, zmeth, xm_en, zret, zretz, zretv, zseq, zst, zinc, zkl, zskip, zk, zi, za, zbin, zdiv, zrem, zgi, zgr, zld, zldr, zlen, zn, zc, zcall, zcallv, zrcv, zdo, zdov, zpf, zpfc, zas, zasc, zmin, zmax, zcmp, zcz, zand_e, zor_e, zite_e, zbite_e, zif_e, znot_e, z_add, z_sub, z_mul, z_and, z_or, z_xor, z_shl, z_shr, zcpy, -List.getElem?_cons_succ, zg_0, zg_1, zg_2, zg_3, zg_4, zg_5, zg_6, zg_7, zg_8, zg_9, zt_0, zt_12, zt_20, zt_26, zt_32, zf_0_0, zf_0_1, zf_0_2, zf_0_3, zf_0_4, zf_12_0, zf_12_1, zf_12_2, zf_12_4, zf_12_5, zf_20_1, zf_20_2, zf_20_3, zf_20_4, zf_20_6, zf_26_0, zf_26_1, zf_26_2, zf_26_3, zf_32_0, zf_32_1, zf_32_3, zf_32_4, zf_32_5, zf_32_6, nI_clamp, zi_36, es, e1]
theorem FRE_px {n : Nat} {l : List Nat} (hl : PL n l) : FRE n 0 (px l) 0 1 := by
  refine ⟨fun k _ hk k0 => ⟨hl.pl hk, ?_⟩, fun k k' _ a _ _ b _ e => by rw [← hl.gp a, ← hl.gp b, e]⟩
  have : px l k ≠ 0 := fun z => k0 (by
    rw [← hl.gp hk, z]
    exact hl.2.2.2)
  cases hp : px l k with
  | zero => exact absurd hp this
  | succ m =>
    rw [Nat.testBit_succ]
    exact Nat.zero_testBit m
/-- all renamings by their numbers: each once -/
theorem rn_all {n : Nat} (h8 : n ≤ 8) (h1 : 1 ≤ n) : ∃ lr : Nat → List Nat, (∀ r, r < fa (n - 1) → PL n (lr r)) ∧ (∀ r r', r < fa (n - 1) → r' < fa (n - 1) → lr r = lr r' → r = r') ∧ (∀ l, PL n l → ∃ r, r < fa (n - 1) ∧ lr r = l) ∧ ∀ r, r < fa (n - 1) → ∀ M, ∃ M', zf_M_renames [.ref 32, .int (nI n), .int (nI 0), .int (nI r)] M = some (none, M') ∧ (∀ k, k < n → M' 36 k = nI (px (lr r) k)) ∧ ∀ q j, q ≠ 36 → M' q j = M q j := by
  have c0 : cf 1 0 n = n - 1 := by
    have : ∀ n, n ≤ 8 → cf 1 0 n = n - 1 := by decide
    exact this n h8
  have H : ∀ r, ∃ l, r < fa (n - 1) → PL n l ∧ num 0 (px l) n 0 1 (n - 1) = r ∧ ∀ M, ∃ M', zf_M_renames [.ref 32, .int (nI n), .int (nI 0), .int (nI r)] M = some (none, M') ∧ (∀ k, k < n → M' 36 k = nI (px l k)) ∧ ∀ q j, q ≠ 36 → M' q j = M q j := fun r => by
    by_cases hr : r < fa (n - 1)
    · obtain ⟨l, q⟩ := rn_1 h8 h1 r hr
      exact ⟨l, fun _ => q⟩
    · exact ⟨[], fun q => absurd q hr⟩
  obtain ⟨lr, hlr⟩ := Classical.skolem.mp H
  refine ⟨lr, fun r hr => (hlr r hr).1, fun r r' hr hr' e => ?_, fun l hl => ?_, fun r hr => (hlr r hr).2.2⟩
  · rw [← (hlr r hr).2.1, ← (hlr r' hr').2.1, e]
  · have hr := num_lt (n := n) n 0 1 (n - 1) (by omega) c0 (FRE_px hl)
    refine ⟨_, hr, ?_⟩
    obtain ⟨p1, p2, _⟩ := hlr _ hr
    have ne := num_inj (n := n) n 0 1 (n - 1) (by omega) c0 (FRE_px p1) (FRE_px hl) p2
    refine PL_px p1 hl (fun k hk => ?_)
    by_cases k0 : k = 0
    · subst k0
      have a := p1.pg (i := 0) (by omega)
      rw [p1.2.2.2] at a
      have b := hl.pg (i := 0) (by omega)
      rw [hl.2.2.2] at b
      rw [a, b]
    · exact ne k (Nat.zero_le k) hk k0
/-! name: the reference's against with its answer; the reference's name -/
theorem d8_ne : ∀ x, x < 8 → ∀ y, y < 8 → xe_cd .ne (nI x - nI y) 0 = !decide (x = y) := by decide +kernel
theorem d8_lt : ∀ x, x < 8 → ∀ y, y < 8 → xe_cd .lt (nI x - nI y) 0 = decide (x < y) := by decide +kernel
theorem qM_ag {M : zM} {t1 t2 n : Nat} {c D : tC} {l : List Nat} (h1 : t1 < 5) (h2 : t2 < 5) (hr : rT M t1 n c) (hO : tO n c) (hf : tF n c) (hl : PL n l) (hg : ∀ k, k < n → M 36 k = nI (px l k)) (hr2 : rT M t2 n D) (hD : tF n D) : ∃ v M', zf_M_against [.ref 32, .int (nI t1), .int (nI t2)] M = some (some v, M') ∧ F5 M M' ∧ rT M' 5 n (rn c l) ∧ ((v = -1 ∧ tl n (rn c l) D) ∨ (v = nI 0 ∧ tq n (rn c l) D) ∨ (v = nI 1 ∧ tl n D (rn c l))) := by
  have h8 := hO.1.2
  have rf := rn_F hf hl
  obtain ⟨M1, e1, g1, k1⟩ := qM_ak1 (t2 := t2) h1 h2 hr hf h8 (fun k hk => ⟨hg k hk, hl.pl hk⟩) (fun k k' a b e => by rw [← hl.gp a, ← hl.gp b, e])
  have g2 : F5 M (zup M1 33 5 (nI n)) := fun q j z1 z2 => by
    rw [zup_e, if_neg z1]
    exact g1 q j z1 z2
  have r5 : rT (zup M1 33 5 (nI n)) 5 n (rn c l) := ⟨by rw [zup_e, if_pos ⟨rfl, rfl⟩], fun a b ha hb => by
    have k := k1 _ _ (hl.gl ha) (hl.gl hb) (Or.inl (hl.gl ha))
    rw [hl.pg ha, hl.pg hb] at k
    have f8 := rf a b ha hb
    rw [zup_e, if_neg (by omega), zcl_lt (by omega)]
    exact k⟩
  have r2 := g2.rT h2 h8 hr2
  generalize hM2 : zup M1 33 5 (nI n) = M2 at g2 r5 r2
  have l4 := fun (a : Nat) (ha : a < n) (hq : ∀ x y, x < n → y < n → x < a → rn c l x y = D x y) => zwh_inv (c := zc_M_against_4) (s := zs_M_against_4) (fun b ls M' => M' = M2 ∧ ls = [some (Value.ref (32)), some (Value.int (nI t1)), some (Value.int (nI t2)), some (Value.int (nI n)), some (Value.int (nI a)), some (Value.int (nI b)), none] ∧ ∀ x y, x < n → y < n → (x < a ∨ x = a ∧ y < b) → rn c l x y = D x y) (Q := fun r ls M' => M' = M2 ∧ ((r = none ∧ ls = [some (Value.ref (32)), some (Value.int (nI t1)), some (Value.int (nI t2)), some (Value.int (nI n)), some (Value.int (nI a)), some (Value.int (nI n)), none] ∧ ∀ x y, x < n → y < n → (x < a ∨ x = a ∧ y < n) → rn c l x y = D x y) ∨ ∃ v, r = some (some v) ∧ ((v = -1 ∧ tl n (rn c l) D) ∨ (v = nI 0 ∧ tq n (rn c l) D) ∨ (v = nI 1 ∧ tl n D (rn c l))))) (n := n) (fun ls M' q => by
      obtain ⟨rfl, rfl, q⟩ := q
      exact ⟨by simp (disch := omega) [zc_M_against_4, zmeth, xm_en, zret, zretz, zretv, zseq, zst, zinc, zkl, zskip, zk, zi, za, zbin, zdiv, zrem, zgi, zgr, zld, zldr, zlen, zn, zc, zcall, zcallv, zrcv, zdo, zdov, zpf, zpfc, zas, zasc, zmin, zmax, zcmp, zcz, zand_e, zor_e, zite_e, zbite_e, zif_e, znot_e, z_add, z_sub, z_mul, z_and, z_or, z_xor, z_shl, z_shr, zcpy, -List.getElem?_cons_succ, zg_0, zg_1, zg_2, zg_3, zg_4, zg_5, zg_6, zg_7, zg_8, zg_9, zc_lt, zc_le, zc_gt, zc_ge, zc_eq, zc_ne, zc_lt0, zc_ge0, zc_gt0, zc_eq0, zc_ne0, zb_ne, zb_eq, zb_01, z_00, z_01, z_11, zb_f, zb_T, zb_F, zbm1, zbm2, zbm5, zbm6, zbm3, zbm4, nI_clamp, zmod_n, pk_div, nI_ne0, pk_mul, nI_add, nI_1], rfl, Or.inl ⟨rfl, rfl, q⟩⟩) n 0 (by omega) (fun b ls M' _ hb q => by
      obtain ⟨rfl, rfl, q⟩ := q
      refine ⟨by simp (disch := omega) [zc_M_against_4, zmeth, xm_en, zret, zretz, zretv, zseq, zst, zinc, zkl, zskip, zk, zi, za, zbin, zdiv, zrem, zgi, zgr, zld, zldr, zlen, zn, zc, zcall, zcallv, zrcv, zdo, zdov, zpf, zpfc, zas, zasc, zmin, zmax, zcmp, zcz, zand_e, zor_e, zite_e, zbite_e, zif_e, znot_e, z_add, z_sub, z_mul, z_and, z_or, z_xor, z_shl, z_shr, zcpy, -List.getElem?_cons_succ, zg_0, zg_1, zg_2, zg_3, zg_4, zg_5, zg_6, zg_7, zg_8, zg_9, zc_lt, zc_le, zc_gt, zc_ge, zc_eq, zc_ne, zc_lt0, zc_ge0, zc_gt0, zc_eq0, zc_ne0, zb_ne, zb_eq, zb_01, z_00, z_01, z_11, zb_f, zb_T, zb_F, zbm1, zbm2, zbm5, zbm6, zbm3, zbm4, nI_clamp, zmod_n, pk_div, nI_ne0, pk_mul, nI_add, nI_1, hb], ?_⟩
      have c1 := qM_mul (show 5 < 6 by omega) r5 h8 rf ha hb
      have c2 := qM_mul (show t2 < 6 by omega) r2 h8 hD ha hb
      have x8 := rf a b ha hb
      have y8 := hD a b ha hb
      have dn := d8_ne (rn c l a b) (by omega) (D a b) (by omega)
      have dl := d8_lt (rn c l a b) (by omega) (D a b) (by omega)
      rcases Nat.lt_trichotomy (rn c l a b) (D a b) with g | g | g
      · have ne : ¬ rn c l a b = D a b := by omega
        rw [decide_eq_false ne] at dn
        rw [decide_eq_true g] at dl
        exact ⟨some (some (-1)), _, M', by simp (disch := omega) [zs_M_against_4, zmeth, xm_en, zret, zretz, zretv, zseq, zst, zinc, zkl, zskip, zk, zi, za, zbin, zdiv, zrem, zgi, zgr, zld, zldr, zlen, zn, zc, zcall, zcallv, zrcv, zdo, zdov, zpf, zpfc, zas, zasc, zmin, zmax, zcmp, zcz, zand_e, zor_e, zite_e, zbite_e, zif_e, znot_e, z_add, z_sub, z_mul, z_and, z_or, z_xor, z_shl, z_shr, zcpy, -List.getElem?_cons_succ, zg_0, zg_1, zg_2, zg_3, zg_4, zg_5, zg_6, zg_7, zg_8, zg_9, zt_0, zt_12, zt_20, zt_26, zt_32, zf_0_0, zf_0_1, zf_0_2, zf_0_3, zf_0_4, zf_12_0, zf_12_1, zf_12_2, zf_12_4, zf_12_5, zf_20_1, zf_20_2, zf_20_3, zf_20_4, zf_20_6, zf_26_0, zf_26_1, zf_26_2, zf_26_3, zf_32_0, zf_32_1, zf_32_3, zf_32_4, zf_32_5, zf_32_6, nI_1, c1, c2, dn, dl]; rfl, rfl, Or.inr ⟨_, rfl, Or.inl ⟨rfl, a, b, ha, hb, g, q⟩⟩⟩
      · rw [decide_eq_true g] at dn
        refine ⟨none, _, M', by simp (disch := omega) [zs_M_against_4, zmeth, xm_en, zret, zretz, zretv, zseq, zst, zinc, zkl, zskip, zk, zi, za, zbin, zdiv, zrem, zgi, zgr, zld, zldr, zlen, zn, zc, zcall, zcallv, zrcv, zdo, zdov, zpf, zpfc, zas, zasc, zmin, zmax, zcmp, zcz, zand_e, zor_e, zite_e, zbite_e, zif_e, znot_e, z_add, z_sub, z_mul, z_and, z_or, z_xor, z_shl, z_shr, zcpy, -List.getElem?_cons_succ, zg_0, zg_1, zg_2, zg_3, zg_4, zg_5, zg_6, zg_7, zg_8, zg_9, zt_0, zt_12, zt_20, zt_26, zt_32, zf_0_0, zf_0_1, zf_0_2, zf_0_3, zf_0_4, zf_12_0, zf_12_1, zf_12_2, zf_12_4, zf_12_5, zf_20_1, zf_20_2, zf_20_3, zf_20_4, zf_20_6, zf_26_0, zf_26_1, zf_26_2, zf_26_3, zf_32_0, zf_32_1, zf_32_3, zf_32_4, zf_32_5, zf_32_6, nI_1, c1, c2, dn], rfl, rfl, fun x y hx hy z => ?_⟩
        by_cases w : x = a ∧ y = b
        · rw [w.1, w.2]
          exact g
        · exact q x y hx hy (by omega)
      · have ne : ¬ rn c l a b = D a b := by omega
        have nl : ¬ rn c l a b < D a b := by omega
        rw [decide_eq_false ne] at dn
        rw [decide_eq_false nl] at dl
        exact ⟨some (some (nI 1)), _, M', by simp (disch := omega) [zs_M_against_4, zmeth, xm_en, zret, zretz, zretv, zseq, zst, zinc, zkl, zskip, zk, zi, za, zbin, zdiv, zrem, zgi, zgr, zld, zldr, zlen, zn, zc, zcall, zcallv, zrcv, zdo, zdov, zpf, zpfc, zas, zasc, zmin, zmax, zcmp, zcz, zand_e, zor_e, zite_e, zbite_e, zif_e, znot_e, z_add, z_sub, z_mul, z_and, z_or, z_xor, z_shl, z_shr, zcpy, -List.getElem?_cons_succ, zg_0, zg_1, zg_2, zg_3, zg_4, zg_5, zg_6, zg_7, zg_8, zg_9, zt_0, zt_12, zt_20, zt_26, zt_32, zf_0_0, zf_0_1, zf_0_2, zf_0_3, zf_0_4, zf_12_0, zf_12_1, zf_12_2, zf_12_4, zf_12_5, zf_20_1, zf_20_2, zf_20_3, zf_20_4, zf_20_6, zf_26_0, zf_26_1, zf_26_2, zf_26_3, zf_32_0, zf_32_1, zf_32_3, zf_32_4, zf_32_5, zf_32_6, nI_1, c1, c2, dn, dl]; rfl, rfl, Or.inr ⟨_, rfl, Or.inr (Or.inr ⟨rfl, a, b, ha, hb, g, fun x y hx hy z => (q x y hx hy z).symm⟩)⟩⟩) [some (Value.ref (32)), some (Value.int (nI t1)), some (Value.int (nI t2)), some (Value.int (nI n)), some (Value.int (nI a)), some (Value.int (nI 0)), none] M2 ⟨rfl, rfl, fun x y hx hy z => hq x y hx hy (by omega)⟩
  obtain ⟨r, ls, M3, w1, rfl, w2⟩ := zwh_inv (c := zc_M_against_3) (s := zs_M_against_3) (fun a ls M' => M' = M2 ∧ ls = [some (Value.ref (32)), some (Value.int (nI t1)), some (Value.int (nI t2)), some (Value.int (nI n)), some (Value.int (nI a)), none, none] ∧ ∀ x y, x < n → y < n → x < a → rn c l x y = D x y) (Q := fun r ls M' => M' = M2 ∧ ((r = none ∧ ls = [some (Value.ref (32)), some (Value.int (nI t1)), some (Value.int (nI t2)), some (Value.int (nI n)), some (Value.int (nI n)), none, none] ∧ tq n (rn c l) D) ∨ ∃ v, r = some (some v) ∧ ((v = -1 ∧ tl n (rn c l) D) ∨ (v = nI 0 ∧ tq n (rn c l) D) ∨ (v = nI 1 ∧ tl n D (rn c l))))) (n := n) (fun ls M' q => by
      obtain ⟨rfl, rfl, q⟩ := q
      exact ⟨by simp (disch := omega) [zc_M_against_3, zmeth, xm_en, zret, zretz, zretv, zseq, zst, zinc, zkl, zskip, zk, zi, za, zbin, zdiv, zrem, zgi, zgr, zld, zldr, zlen, zn, zc, zcall, zcallv, zrcv, zdo, zdov, zpf, zpfc, zas, zasc, zmin, zmax, zcmp, zcz, zand_e, zor_e, zite_e, zbite_e, zif_e, znot_e, z_add, z_sub, z_mul, z_and, z_or, z_xor, z_shl, z_shr, zcpy, -List.getElem?_cons_succ, zg_0, zg_1, zg_2, zg_3, zg_4, zg_5, zg_6, zg_7, zg_8, zg_9, zc_lt, zc_le, zc_gt, zc_ge, zc_eq, zc_ne, zc_lt0, zc_ge0, zc_gt0, zc_eq0, zc_ne0, zb_ne, zb_eq, zb_01, z_00, z_01, z_11, zb_f, zb_T, zb_F, zbm1, zbm2, zbm5, zbm6, zbm3, zbm4, nI_clamp, zmod_n, pk_div, nI_ne0, pk_mul, nI_add, nI_1], rfl, Or.inl ⟨rfl, rfl, fun x y hx hy => q x y hx hy hx⟩⟩) n 0 (by omega) (fun a ls M' _ ha q => by
      obtain ⟨rfl, rfl, q⟩ := q
      refine ⟨by simp (disch := omega) [zc_M_against_3, zmeth, xm_en, zret, zretz, zretv, zseq, zst, zinc, zkl, zskip, zk, zi, za, zbin, zdiv, zrem, zgi, zgr, zld, zldr, zlen, zn, zc, zcall, zcallv, zrcv, zdo, zdov, zpf, zpfc, zas, zasc, zmin, zmax, zcmp, zcz, zand_e, zor_e, zite_e, zbite_e, zif_e, znot_e, z_add, z_sub, z_mul, z_and, z_or, z_xor, z_shl, z_shr, zcpy, -List.getElem?_cons_succ, zg_0, zg_1, zg_2, zg_3, zg_4, zg_5, zg_6, zg_7, zg_8, zg_9, zc_lt, zc_le, zc_gt, zc_ge, zc_eq, zc_ne, zc_lt0, zc_ge0, zc_gt0, zc_eq0, zc_ne0, zb_ne, zb_eq, zb_01, z_00, z_01, z_11, zb_f, zb_T, zb_F, zbm1, zbm2, zbm5, zbm6, zbm3, zbm4, nI_clamp, zmod_n, pk_div, nI_ne0, pk_mul, nI_add, nI_1, ha], ?_⟩
      obtain ⟨r, ls, M4, e4, rfl, ⟨rfl, rfl, q4⟩ | ⟨v, rfl, q4⟩⟩ := l4 a ha q
      · exact ⟨none, _, M4, by simp (disch := omega) [zs_M_against_3, zmeth, xm_en, zret, zretz, zretv, zseq, zst, zinc, zkl, zskip, zk, zi, za, zbin, zdiv, zrem, zgi, zgr, zld, zldr, zlen, zn, zc, zcall, zcallv, zrcv, zdo, zdov, zpf, zpfc, zas, zasc, zmin, zmax, zcmp, zcz, zand_e, zor_e, zite_e, zbite_e, zif_e, znot_e, z_add, z_sub, z_mul, z_and, z_or, z_xor, z_shl, z_shr, zcpy, -List.getElem?_cons_succ, zg_0, zg_1, zg_2, zg_3, zg_4, zg_5, zg_6, zg_7, zg_8, zg_9, zc_lt, zc_le, zc_gt, zc_ge, zc_eq, zc_ne, zc_lt0, zc_ge0, zc_gt0, zc_eq0, zc_ne0, zb_ne, zb_eq, zb_01, z_00, z_01, z_11, zb_f, zb_T, zb_F, zbm1, zbm2, zbm5, zbm6, zbm3, zbm4, nI_clamp, zmod_n, pk_div, nI_ne0, pk_mul, nI_add, nI_1, e4], rfl, rfl, fun x y hx hy z => q4 x y hx hy (by omega)⟩
      · exact ⟨some (some v), _, M4, by simp (disch := omega) [zs_M_against_3, zmeth, xm_en, zret, zretz, zretv, zseq, zst, zinc, zkl, zskip, zk, zi, za, zbin, zdiv, zrem, zgi, zgr, zld, zldr, zlen, zn, zc, zcall, zcallv, zrcv, zdo, zdov, zpf, zpfc, zas, zasc, zmin, zmax, zcmp, zcz, zand_e, zor_e, zite_e, zbite_e, zif_e, znot_e, z_add, z_sub, z_mul, z_and, z_or, z_xor, z_shl, z_shr, zcpy, -List.getElem?_cons_succ, zg_0, zg_1, zg_2, zg_3, zg_4, zg_5, zg_6, zg_7, zg_8, zg_9, zc_lt, zc_le, zc_gt, zc_ge, zc_eq, zc_ne, zc_lt0, zc_ge0, zc_gt0, zc_eq0, zc_ne0, zb_ne, zb_eq, zb_01, z_00, z_01, z_11, zb_f, zb_T, zb_F, zbm1, zbm2, zbm5, zbm6, zbm3, zbm4, nI_clamp, zmod_n, pk_div, nI_ne0, pk_mul, nI_add, nI_1, e4]; rfl, rfl, Or.inr ⟨v, rfl, q4⟩⟩) [some (Value.ref (32)), some (Value.int (nI t1)), some (Value.int (nI t2)), some (Value.int (nI n)), some (Value.int (nI 0)), none, none] M2 ⟨rfl, rfl, fun x y hx hy z => absurd z (Nat.not_lt_zero x)⟩
  have zn1 := hr.1
  rcases w2 with ⟨rfl, rfl, w2⟩ | ⟨v, rfl, w2⟩
  · exact ⟨nI 0, M3, by simp (disch := omega) [zf_M_against, zmeth, xm_en, zret, zretz, zretv, zseq, zst, zinc, zkl, zskip, zk, zi, za, zbin, zdiv, zrem, zgi, zgr, zld, zldr, zlen, zn, zc, zcall, zcallv, zrcv, zdo, zdov, zpf, zpfc, zas, zasc, zmin, zmax, zcmp, zcz, zand_e, zor_e, zite_e, zbite_e, zif_e, znot_e, z_add, z_sub, z_mul, z_and, z_or, z_xor, z_shl, z_shr, zcpy, -List.getElem?_cons_succ, zg_0, zg_1, zg_2, zg_3, zg_4, zg_5, zg_6, zg_7, zg_8, zg_9, zt_0, zt_12, zt_20, zt_26, zt_32, zf_0_0, zf_0_1, zf_0_2, zf_0_3, zf_0_4, zf_12_0, zf_12_1, zf_12_2, zf_12_4, zf_12_5, zf_20_1, zf_20_2, zf_20_3, zf_20_4, zf_20_6, zf_26_0, zf_26_1, zf_26_2, zf_26_3, zf_32_0, zf_32_1, zf_32_3, zf_32_4, zf_32_5, zf_32_6, zi_33, nI_clamp, zn1, e1, hM2, w1], g2, r5, Or.inr (Or.inl ⟨rfl, w2⟩)⟩
  · exact ⟨v, M3, by simp (disch := omega) [zf_M_against, zmeth, xm_en, zret, zretz, zretv, zseq, zst, zinc, zkl, zskip, zk, zi, za, zbin, zdiv, zrem, zgi, zgr, zld, zldr, zlen, zn, zc, zcall, zcallv, zrcv, zdo, zdov, zpf, zpfc, zas, zasc, zmin, zmax, zcmp, zcz, zand_e, zor_e, zite_e, zbite_e, zif_e, znot_e, z_add, z_sub, z_mul, z_and, z_or, z_xor, z_shl, z_shr, zcpy, -List.getElem?_cons_succ, zg_0, zg_1, zg_2, zg_3, zg_4, zg_5, zg_6, zg_7, zg_8, zg_9, zt_0, zt_12, zt_20, zt_26, zt_32, zf_0_0, zf_0_1, zf_0_2, zf_0_3, zf_0_4, zf_12_0, zf_12_1, zf_12_2, zf_12_4, zf_12_5, zf_20_1, zf_20_2, zf_20_3, zf_20_4, zf_20_6, zf_26_0, zf_26_1, zf_26_2, zf_26_3, zf_32_0, zf_32_1, zf_32_3, zf_32_4, zf_32_5, zf_32_6, zi_33, nI_clamp, zn1, e1, hM2, w1], g2, r5, w2⟩
theorem zsr.rT {M M' : zM} {t n : Nat} {c : tC} (h : zsr M M') (ht : t < 4) (h8 : n ≤ 8) (hr : rT M t n c) : rT M' t n c := hr.same h8 (h _ _ (Or.inr (Or.inl ⟨rfl, ht⟩))) (fun j _ b => h _ _ (Or.inr (Or.inr ⟨rfl, by omega⟩)))
theorem F5.sr {M M' : zM} (h : F5 M M') : zsr M M' := fun k j q => h k j (by omega) (by omega)
/-- the reference's loop over all renamings -/
theorem qM_nm1 {M0 : zM} {s t n : Nat} {c : tC} (ht : t < 4) (hr : rT M0 t n c) (hO : tO n c) (hf : tF n c) (h4 : rT M0 4 n c) {lr : Nat → List Nat} (p1 : ∀ r, r < fa (n - 1) → PL n (lr r)) (p3 : ∀ l, PL n l → ∃ r, r < fa (n - 1) ∧ lr r = l) (p4 : ∀ r, r < fa (n - 1) → ∀ M, ∃ M', zf_M_renames [.ref 32, .int (nI n), .int (nI 0), .int (nI r)] M = some (none, M') ∧ (∀ k, k < n → M' 36 k = nI (px (lr r) k)) ∧ ∀ q j, q ≠ 36 → M' q j = M q j) : ∃ B M', zwh zc_M_name_1 zs_M_name_1 [some (Value.ref (32)), some (Value.int (nI s)), some (Value.int (nI t)), some (Value.int (nI 0)), some (Value.int (nI 0))] M0 = some (none, [some (Value.ref (32)), some (Value.int (nI s)), some (Value.int (nI t)), some (Value.int (nI (zsum (fun r => if tqb n (rn c (lr r)) c = true then 1 else 0) (fa (n - 1))))), some (Value.int (nI (fa (n - 1))))], M') ∧ LEA n c B ∧ rT M' 4 n B ∧ zsr M0 M' := by
  have h8 := hO.1.2
  have h1 := hO.1.1
  have es : nI n - nI 1 = nI (n - 1) := pk_sub (by omega)
  have fb := fa_le (n - 1) (by omega)
  have fc : ∀ M', zf_M_factorial [.int (nI (n - 1))] M' = some (some (nI (fa (n - 1))), M') := fun M' => qM_factorial (by omega)
  have zbb : ∀ k, k ≤ fa (n - 1) → zsum (fun r => if tqb n (rn c (lr r)) c = true then 1 else 0) k ≤ 5040 := fun k hk => by
    have := zsum_le (f := fun r => if tqb n (rn c (lr r)) c = true then 1 else 0) (b := 1) (n := k) (fun i _ => by split <;> omega)
    omega
  obtain ⟨r, ls, M', w1, rfl, rfl, w2⟩ := zwh_inv (c := zc_M_name_1) (s := zs_M_name_1) (fun k ls M' => ls = [some (Value.ref (32)), some (Value.int (nI s)), some (Value.int (nI t)), some (Value.int (nI (zsum (fun r => if tqb n (rn c (lr r)) c = true then 1 else 0) k))), some (Value.int (nI k))] ∧ zsr M0 M' ∧ ∃ B, rT M' 4 n B ∧ (∃ l, PL n l ∧ tq n B (rn c l)) ∧ ∀ r, r < k → ¬ tl n (rn c (lr r)) B) (Q := fun r ls M' => r = none ∧ ls = [some (Value.ref (32)), some (Value.int (nI s)), some (Value.int (nI t)), some (Value.int (nI (zsum (fun r => if tqb n (rn c (lr r)) c = true then 1 else 0) (fa (n - 1))))), some (Value.int (nI (fa (n - 1))))] ∧ zsr M0 M' ∧ ∃ B, rT M' 4 n B ∧ (∃ l, PL n l ∧ tq n B (rn c l)) ∧ ∀ r, r < fa (n - 1) → ¬ tl n (rn c (lr r)) B) (n := fa (n - 1)) (fun ls M' q => by
      obtain ⟨rfl, q, q2⟩ := q
      have z := (q.rT ht h8 hr).1
      exact ⟨by simp (disch := omega) [zc_M_name_1, zmeth, xm_en, zret, zretz, zretv, zseq, zst, zinc, zkl, zskip, zk, zi, za, zbin, zdiv, zrem, zgi, zgr, zld, zldr, zlen, zn, zc, zcall, zcallv, zrcv, zdo, zdov, zpf, zpfc, zas, zasc, zmin, zmax, zcmp, zcz, zand_e, zor_e, zite_e, zbite_e, zif_e, znot_e, z_add, z_sub, z_mul, z_and, z_or, z_xor, z_shl, z_shr, zcpy, -List.getElem?_cons_succ, zg_0, zg_1, zg_2, zg_3, zg_4, zg_5, zg_6, zg_7, zg_8, zg_9, zc_lt, zc_le, zc_gt, zc_ge, zc_eq, zc_ne, zc_lt0, zc_ge0, zc_gt0, zc_eq0, zc_ne0, zb_ne, zb_eq, zb_01, z_00, z_01, z_11, zb_f, zb_T, zb_F, zbm1, zbm2, zbm5, zbm6, zbm3, zbm4, nI_clamp, zmod_n, pk_div, nI_ne0, pk_mul, nI_add, nI_1, zt_0, zt_12, zt_20, zt_26, zt_32, zf_0_0, zf_0_1, zf_0_2, zf_0_3, zf_0_4, zf_12_0, zf_12_1, zf_12_2, zf_12_4, zf_12_5, zf_20_1, zf_20_2, zf_20_3, zf_20_4, zf_20_6, zf_26_0, zf_26_1, zf_26_2, zf_26_3, zf_32_0, zf_32_1, zf_32_3, zf_32_4, zf_32_5, zf_32_6, zi_33, z, es, fc], rfl, rfl, q, q2⟩) (fa (n - 1)) 0 (by omega) (fun k ls M' _ hk q => by
      obtain ⟨rfl, q, B, b1, ⟨l0, b2, b3⟩, b4⟩ := q
      have z := q.rT ht h8 hr
      refine ⟨by simp (disch := omega) [zc_M_name_1, zmeth, xm_en, zret, zretz, zretv, zseq, zst, zinc, zkl, zskip, zk, zi, za, zbin, zdiv, zrem, zgi, zgr, zld, zldr, zlen, zn, zc, zcall, zcallv, zrcv, zdo, zdov, zpf, zpfc, zas, zasc, zmin, zmax, zcmp, zcz, zand_e, zor_e, zite_e, zbite_e, zif_e, znot_e, z_add, z_sub, z_mul, z_and, z_or, z_xor, z_shl, z_shr, zcpy, -List.getElem?_cons_succ, zg_0, zg_1, zg_2, zg_3, zg_4, zg_5, zg_6, zg_7, zg_8, zg_9, zc_lt, zc_le, zc_gt, zc_ge, zc_eq, zc_ne, zc_lt0, zc_ge0, zc_gt0, zc_eq0, zc_ne0, zb_ne, zb_eq, zb_01, z_00, z_01, z_11, zb_f, zb_T, zb_F, zbm1, zbm2, zbm5, zbm6, zbm3, zbm4, nI_clamp, zmod_n, pk_div, nI_ne0, pk_mul, nI_add, nI_1, zt_0, zt_12, zt_20, zt_26, zt_32, zf_0_0, zf_0_1, zf_0_2, zf_0_3, zf_0_4, zf_12_0, zf_12_1, zf_12_2, zf_12_4, zf_12_5, zf_20_1, zf_20_2, zf_20_3, zf_20_4, zf_20_6, zf_26_0, zf_26_1, zf_26_2, zf_26_3, zf_32_0, zf_32_1, zf_32_3, zf_32_4, zf_32_5, zf_32_6, zi_33, z.1, es, fc, hk], ?_⟩
      have B8 : tF n B := fun i j hi hj => by rw [b3 i j hi hj]; exact rn_F hf b2 i j hi hj
      have pk := p1 k hk
      obtain ⟨M1, e1, i1, s1⟩ := p4 k hk M'
      have q1 : zsr M0 M1 := zsr.trans q (fun k j z => s1 k j (by omega))
      have b1' : rT M1 4 n B := b1.same h8 (s1 _ _ (by omega)) (fun j _ _ => s1 _ _ (by omega))
      obtain ⟨v, M2, e2, f2, r2, o2⟩ := qM_ag (t2 := t) (by omega) (by omega) (q1.rT ht h8 hr) hO hf pk i1 (q1.rT ht h8 hr) hf
      have q2 : zsr M0 M2 := zsr.trans q1 f2.sr
      have i2 : ∀ k', k' < n → M2 36 k' = nI (px (lr k) k') := fun k' hk' => (f2 _ _ (by omega) (by omega)).trans (i1 k' hk')
      obtain ⟨w, M3, e3, f3, r3, o3⟩ := qM_ag (t2 := 4) (by omega) (by omega) (q2.rT ht h8 hr) hO hf pk i2 (f2.rT (by omega) h8 b1') B8
      have q3 : zsr M0 M3 := zsr.trans q2 f3.sr
      have sS : zsum (fun r => if tqb n (rn c (lr r)) c = true then 1 else 0) (k + 1) = zsum (fun r => if tqb n (rn c (lr r)) c = true then 1 else 0) k + (if tqb n (rn c (lr k)) c = true then 1 else 0) := rfl
      have zkb := zbb k (by omega)
      have ev : xe_cd .eq v 0 = tqb n (rn c (lr k)) c := by
        rcases o2 with ⟨rfl, o⟩ | ⟨rfl, o⟩ | ⟨rfl, o⟩
        · rw [tqb_f (fun z => tl_ne o z)]
          decide
        · rw [tqb_t.mpr o]
          decide
        · rw [tqb_f (fun z => tl_ne o z.symm)]
          decide
      obtain ⟨Z, hZ⟩ : ∃ Z, zsum (fun r => if tqb n (rn c (lr r)) c = true then 1 else 0) k = Z := ⟨_, rfl⟩
      rw [hZ] at sS zkb ⊢
      have zz := z.1
      rcases o3 with ⟨rfl, o⟩ | ⟨rfl, o⟩ | ⟨rfl, o⟩
      · have el : xe_cd .lt (-1 : Int32) 0 = true := by decide
        have nb : (∃ l, PL n l ∧ tq n (rn c (lr k)) (rn c l)) ∧ ∀ r, r < k + 1 → ¬ tl n (rn c (lr r)) (rn c (lr k)) := ⟨⟨lr k, pk, fun _ _ _ _ => rfl⟩, fun r hr z => by
          by_cases e : r = k
          · subst e
            exact tl_ne z (fun _ _ _ _ => rfl)
          · exact b4 r (by omega) (tl_tr z o)⟩
        have q4 : zsr M0 (zcp M3 4 5 64) := zsr.trans q3 (fun k j z => zcp_out (by omega) (by omega))
        cases hq : tqb n (rn c (lr k)) c with
        | false =>
          rw [hq] at ev sS
          have sS : _ = Z := sS
          exact ⟨none, [some (Value.ref (32)), some (Value.int (nI s)), some (Value.int (nI t)), some (Value.int (nI Z)), some (Value.int (nI (k + 1)))], zcp M3 4 5 64, by simp (disch := omega) [zs_M_name_1, zmeth, xm_en, zret, zretz, zretv, zseq, zst, zinc, zkl, zskip, zk, zi, za, zbin, zdiv, zrem, zgi, zgr, zld, zldr, zlen, zn, zc, zcall, zcallv, zrcv, zdo, zdov, zpf, zpfc, zas, zasc, zmin, zmax, zcmp, zcz, zand_e, zor_e, zite_e, zbite_e, zif_e, znot_e, z_add, z_sub, z_mul, z_and, z_or, z_xor, z_shl, z_shr, zcpy, -List.getElem?_cons_succ, zg_0, zg_1, zg_2, zg_3, zg_4, zg_5, zg_6, zg_7, zg_8, zg_9, zc_lt, zc_le, zc_gt, zc_ge, zc_eq, zc_ne, zc_lt0, zc_ge0, zc_gt0, zc_eq0, zc_ne0, zb_ne, zb_eq, zb_01, z_00, z_01, z_11, zb_f, zb_T, zb_F, zbm1, zbm2, zbm5, zbm6, zbm3, zbm4, nI_clamp, zmod_n, pk_div, nI_ne0, pk_mul, nI_add, nI_1, zt_0, zt_12, zt_20, zt_26, zt_32, zf_0_0, zf_0_1, zf_0_2, zf_0_3, zf_0_4, zf_12_0, zf_12_1, zf_12_2, zf_12_4, zf_12_5, zf_20_1, zf_20_2, zf_20_3, zf_20_4, zf_20_6, zf_26_0, zf_26_1, zf_26_2, zf_26_3, zf_32_0, zf_32_1, zf_32_3, zf_32_4, zf_32_5, zf_32_6, zi_33, zz, e1, e2, e3, ev, el, qM_copies], by rw [sS], q4, _, rT_cp h8 r3, nb⟩
        | true =>
          rw [hq] at ev sS
          have sS : _ = Z + 1 := sS
          exact ⟨none, [some (Value.ref (32)), some (Value.int (nI s)), some (Value.int (nI t)), some (Value.int (nI (Z + 1))), some (Value.int (nI (k + 1)))], zcp M3 4 5 64, by simp (disch := omega) [zs_M_name_1, zmeth, xm_en, zret, zretz, zretv, zseq, zst, zinc, zkl, zskip, zk, zi, za, zbin, zdiv, zrem, zgi, zgr, zld, zldr, zlen, zn, zc, zcall, zcallv, zrcv, zdo, zdov, zpf, zpfc, zas, zasc, zmin, zmax, zcmp, zcz, zand_e, zor_e, zite_e, zbite_e, zif_e, znot_e, z_add, z_sub, z_mul, z_and, z_or, z_xor, z_shl, z_shr, zcpy, -List.getElem?_cons_succ, zg_0, zg_1, zg_2, zg_3, zg_4, zg_5, zg_6, zg_7, zg_8, zg_9, zc_lt, zc_le, zc_gt, zc_ge, zc_eq, zc_ne, zc_lt0, zc_ge0, zc_gt0, zc_eq0, zc_ne0, zb_ne, zb_eq, zb_01, z_00, z_01, z_11, zb_f, zb_T, zb_F, zbm1, zbm2, zbm5, zbm6, zbm3, zbm4, nI_clamp, zmod_n, pk_div, nI_ne0, pk_mul, nI_add, nI_1, zt_0, zt_12, zt_20, zt_26, zt_32, zf_0_0, zf_0_1, zf_0_2, zf_0_3, zf_0_4, zf_12_0, zf_12_1, zf_12_2, zf_12_4, zf_12_5, zf_20_1, zf_20_2, zf_20_3, zf_20_4, zf_20_6, zf_26_0, zf_26_1, zf_26_2, zf_26_3, zf_32_0, zf_32_1, zf_32_3, zf_32_4, zf_32_5, zf_32_6, zi_33, zz, e1, e2, e3, ev, el, qM_copies], by rw [sS], q4, _, rT_cp h8 r3, nb⟩
      · have el : xe_cd .lt (nI 0) 0 = false := by decide
        have nb : (∃ l, PL n l ∧ tq n B (rn c l)) ∧ ∀ r, r < k + 1 → ¬ tl n (rn c (lr r)) B := ⟨⟨l0, b2, b3⟩, fun r hr z => by
          by_cases e : r = k
          · subst e
            exact tl_ne z o
          · exact b4 r (by omega) z⟩
        cases hq : tqb n (rn c (lr k)) c with
        | false =>
          rw [hq] at ev sS
          have sS : _ = Z := sS
          exact ⟨none, [some (Value.ref (32)), some (Value.int (nI s)), some (Value.int (nI t)), some (Value.int (nI Z)), some (Value.int (nI (k + 1)))], M3, by simp (disch := omega) [zs_M_name_1, zmeth, xm_en, zret, zretz, zretv, zseq, zst, zinc, zkl, zskip, zk, zi, za, zbin, zdiv, zrem, zgi, zgr, zld, zldr, zlen, zn, zc, zcall, zcallv, zrcv, zdo, zdov, zpf, zpfc, zas, zasc, zmin, zmax, zcmp, zcz, zand_e, zor_e, zite_e, zbite_e, zif_e, znot_e, z_add, z_sub, z_mul, z_and, z_or, z_xor, z_shl, z_shr, zcpy, -List.getElem?_cons_succ, zg_0, zg_1, zg_2, zg_3, zg_4, zg_5, zg_6, zg_7, zg_8, zg_9, zc_lt, zc_le, zc_gt, zc_ge, zc_eq, zc_ne, zc_lt0, zc_ge0, zc_gt0, zc_eq0, zc_ne0, zb_ne, zb_eq, zb_01, z_00, z_01, z_11, zb_f, zb_T, zb_F, zbm1, zbm2, zbm5, zbm6, zbm3, zbm4, nI_clamp, zmod_n, pk_div, nI_ne0, pk_mul, nI_add, nI_1, zt_0, zt_12, zt_20, zt_26, zt_32, zf_0_0, zf_0_1, zf_0_2, zf_0_3, zf_0_4, zf_12_0, zf_12_1, zf_12_2, zf_12_4, zf_12_5, zf_20_1, zf_20_2, zf_20_3, zf_20_4, zf_20_6, zf_26_0, zf_26_1, zf_26_2, zf_26_3, zf_32_0, zf_32_1, zf_32_3, zf_32_4, zf_32_5, zf_32_6, zi_33, zz, e1, e2, e3, ev, el], by rw [sS], q3, B, f3.rT (by omega) h8 (f2.rT (by omega) h8 b1'), nb⟩
        | true =>
          rw [hq] at ev sS
          have sS : _ = Z + 1 := sS
          exact ⟨none, [some (Value.ref (32)), some (Value.int (nI s)), some (Value.int (nI t)), some (Value.int (nI (Z + 1))), some (Value.int (nI (k + 1)))], M3, by simp (disch := omega) [zs_M_name_1, zmeth, xm_en, zret, zretz, zretv, zseq, zst, zinc, zkl, zskip, zk, zi, za, zbin, zdiv, zrem, zgi, zgr, zld, zldr, zlen, zn, zc, zcall, zcallv, zrcv, zdo, zdov, zpf, zpfc, zas, zasc, zmin, zmax, zcmp, zcz, zand_e, zor_e, zite_e, zbite_e, zif_e, znot_e, z_add, z_sub, z_mul, z_and, z_or, z_xor, z_shl, z_shr, zcpy, -List.getElem?_cons_succ, zg_0, zg_1, zg_2, zg_3, zg_4, zg_5, zg_6, zg_7, zg_8, zg_9, zc_lt, zc_le, zc_gt, zc_ge, zc_eq, zc_ne, zc_lt0, zc_ge0, zc_gt0, zc_eq0, zc_ne0, zb_ne, zb_eq, zb_01, z_00, z_01, z_11, zb_f, zb_T, zb_F, zbm1, zbm2, zbm5, zbm6, zbm3, zbm4, nI_clamp, zmod_n, pk_div, nI_ne0, pk_mul, nI_add, nI_1, zt_0, zt_12, zt_20, zt_26, zt_32, zf_0_0, zf_0_1, zf_0_2, zf_0_3, zf_0_4, zf_12_0, zf_12_1, zf_12_2, zf_12_4, zf_12_5, zf_20_1, zf_20_2, zf_20_3, zf_20_4, zf_20_6, zf_26_0, zf_26_1, zf_26_2, zf_26_3, zf_32_0, zf_32_1, zf_32_3, zf_32_4, zf_32_5, zf_32_6, zi_33, zz, e1, e2, e3, ev, el], by rw [sS], q3, B, f3.rT (by omega) h8 (f2.rT (by omega) h8 b1'), nb⟩
      · have el : xe_cd .lt (nI 1) 0 = false := by decide
        have nb : (∃ l, PL n l ∧ tq n B (rn c l)) ∧ ∀ r, r < k + 1 → ¬ tl n (rn c (lr r)) B := ⟨⟨l0, b2, b3⟩, fun r hr z => by
          by_cases e : r = k
          · subst e
            exact tl_as z o
          · exact b4 r (by omega) z⟩
        cases hq : tqb n (rn c (lr k)) c with
        | false =>
          rw [hq] at ev sS
          have sS : _ = Z := sS
          exact ⟨none, [some (Value.ref (32)), some (Value.int (nI s)), some (Value.int (nI t)), some (Value.int (nI Z)), some (Value.int (nI (k + 1)))], M3, by simp (disch := omega) [zs_M_name_1, zmeth, xm_en, zret, zretz, zretv, zseq, zst, zinc, zkl, zskip, zk, zi, za, zbin, zdiv, zrem, zgi, zgr, zld, zldr, zlen, zn, zc, zcall, zcallv, zrcv, zdo, zdov, zpf, zpfc, zas, zasc, zmin, zmax, zcmp, zcz, zand_e, zor_e, zite_e, zbite_e, zif_e, znot_e, z_add, z_sub, z_mul, z_and, z_or, z_xor, z_shl, z_shr, zcpy, -List.getElem?_cons_succ, zg_0, zg_1, zg_2, zg_3, zg_4, zg_5, zg_6, zg_7, zg_8, zg_9, zc_lt, zc_le, zc_gt, zc_ge, zc_eq, zc_ne, zc_lt0, zc_ge0, zc_gt0, zc_eq0, zc_ne0, zb_ne, zb_eq, zb_01, z_00, z_01, z_11, zb_f, zb_T, zb_F, zbm1, zbm2, zbm5, zbm6, zbm3, zbm4, nI_clamp, zmod_n, pk_div, nI_ne0, pk_mul, nI_add, nI_1, zt_0, zt_12, zt_20, zt_26, zt_32, zf_0_0, zf_0_1, zf_0_2, zf_0_3, zf_0_4, zf_12_0, zf_12_1, zf_12_2, zf_12_4, zf_12_5, zf_20_1, zf_20_2, zf_20_3, zf_20_4, zf_20_6, zf_26_0, zf_26_1, zf_26_2, zf_26_3, zf_32_0, zf_32_1, zf_32_3, zf_32_4, zf_32_5, zf_32_6, zi_33, zz, e1, e2, e3, ev, el], by rw [sS], q3, B, f3.rT (by omega) h8 (f2.rT (by omega) h8 b1'), nb⟩
        | true =>
          rw [hq] at ev sS
          have sS : _ = Z + 1 := sS
          exact ⟨none, [some (Value.ref (32)), some (Value.int (nI s)), some (Value.int (nI t)), some (Value.int (nI (Z + 1))), some (Value.int (nI (k + 1)))], M3, by simp (disch := omega) [zs_M_name_1, zmeth, xm_en, zret, zretz, zretv, zseq, zst, zinc, zkl, zskip, zk, zi, za, zbin, zdiv, zrem, zgi, zgr, zld, zldr, zlen, zn, zc, zcall, zcallv, zrcv, zdo, zdov, zpf, zpfc, zas, zasc, zmin, zmax, zcmp, zcz, zand_e, zor_e, zite_e, zbite_e, zif_e, znot_e, z_add, z_sub, z_mul, z_and, z_or, z_xor, z_shl, z_shr, zcpy, -List.getElem?_cons_succ, zg_0, zg_1, zg_2, zg_3, zg_4, zg_5, zg_6, zg_7, zg_8, zg_9, zc_lt, zc_le, zc_gt, zc_ge, zc_eq, zc_ne, zc_lt0, zc_ge0, zc_gt0, zc_eq0, zc_ne0, zb_ne, zb_eq, zb_01, z_00, z_01, z_11, zb_f, zb_T, zb_F, zbm1, zbm2, zbm5, zbm6, zbm3, zbm4, nI_clamp, zmod_n, pk_div, nI_ne0, pk_mul, nI_add, nI_1, zt_0, zt_12, zt_20, zt_26, zt_32, zf_0_0, zf_0_1, zf_0_2, zf_0_3, zf_0_4, zf_12_0, zf_12_1, zf_12_2, zf_12_4, zf_12_5, zf_20_1, zf_20_2, zf_20_3, zf_20_4, zf_20_6, zf_26_0, zf_26_1, zf_26_2, zf_26_3, zf_32_0, zf_32_1, zf_32_3, zf_32_4, zf_32_5, zf_32_6, zi_33, zz, e1, e2, e3, ev, el], by rw [sS], q3, B, f3.rT (by omega) h8 (f2.rT (by omega) h8 b1'), nb⟩) [some (Value.ref (32)), some (Value.int (nI s)), some (Value.int (nI t)), some (Value.int (nI 0)), some (Value.int (nI 0))] M0 ⟨rfl, zsr.refl M0, c, h4, ⟨List.range n, PL_rg h1, rn_rg hf⟩, fun r hr => absurd hr (Nat.not_lt_zero r)⟩
  obtain ⟨w2, B, b1, b2, b3⟩ := w2
  exact ⟨B, M', w1, ⟨b2, fun l hl => by
    obtain ⟨r, hr, e⟩ := p3 l hl
    rw [← e]
    exact b3 r hr⟩, b1, w2⟩
/-! name: as many renamings lead to the name as leave the table -/
theorem nd_map {α β : Type} {f : α → β} : ∀ {l : List α}, l.Nodup → (∀ x y, x ∈ l → y ∈ l → f x = f y → x = y) → (l.map f).Nodup
  | [], _, _ => List.nodup_nil
  | a :: l, h, q => by
    have n2 := List.nodup_cons.mp h
    refine List.nodup_cons.mpr ⟨fun z => ?_, nd_map n2.2 (fun x y hx hy => q x y (List.mem_cons_of_mem _ hx) (List.mem_cons_of_mem _ hy))⟩
    obtain ⟨b, b1, b2⟩ := List.mem_map.mp z
    have := q b a (List.mem_cons_of_mem _ b1) (List.mem_cons_self ..) b2
    subst this
    exact n2.1 b1
theorem nd_filter {α : Type} {p : α → Bool} : ∀ {l : List α}, l.Nodup → (l.filter p).Nodup
  | [], _ => List.nodup_nil
  | a :: l, h => by
    have n2 := List.nodup_cons.mp h
    rw [List.filter_cons]
    split
    · exact List.nodup_cons.mpr ⟨fun z => n2.1 (List.mem_filter.mp z).1, nd_filter n2.2⟩
    · exact nd_filter n2.2
theorem cn_le {α : Type} [DecidableEq α] {A B : List α} {p q : α → Bool} (f : α → α) (hA : A.Nodup) (hi : ∀ x y, x ∈ A → y ∈ A → f x = f y → x = y) (h : ∀ x, x ∈ A → p x = true → f x ∈ B ∧ q (f x) = true) : A.countP p ≤ B.countP q := by
  rw [List.countP_eq_length_filter, List.countP_eq_length_filter, ← List.length_map (f := f) (as := A.filter p)]
  refine nd_le (nd_map (nd_filter hA) (fun x y hx hy => hi x y (List.mem_filter.mp hx).1 (List.mem_filter.mp hy).1)) (fun x hx => ?_)
  obtain ⟨y, y1, y2⟩ := List.mem_map.mp hx
  obtain ⟨z1, z2⟩ := List.mem_filter.mp y1
  obtain ⟨w1, w2⟩ := h y z1 z2
  rw [← y2]
  exact List.mem_filter.mpr ⟨w1, w2⟩
theorem cmps_nd {n : Nat} : ∀ (d : Nat) (l : List Nat), PP n l → l.length + d = n → (cmps n d l).Nodup
  | 0, l, _, _ => List.nodup_cons.mpr ⟨List.not_mem_nil, List.nodup_nil⟩
  | d + 1, l, hl, e => by
    have up : ∀ x, x < n → x ∉ l → PP n (l ++ [x]) ∧ (l ++ [x]).length + d = n := fun x hx q => ⟨hl.up (by omega) hx q, by rw [List.length_append, List.length_singleton]; omega⟩
    have at1 : ∀ x, x < n → ∀ v, v ∈ (if x ∈ l then [] else cmps n d (l ++ [x])) → gd v l.length = x := fun x hx v hv => by
      by_cases q : x ∈ l
      · rw [if_pos q] at hv
        cases hv
      · rw [if_neg q] at hv
        obtain ⟨_, m, b⟩ := cmps_mem d (l ++ [x]) v (up x hx q).1 (up x hx q).2 hv
        rw [b, List.append_assoc]
        exact gd_new
    have key : ∀ x, x ≤ n → ((List.range x).flatMap (fun y => if y ∈ l then [] else cmps n d (l ++ [y]))).Nodup := by
      intro x
      induction x with
      | zero => exact fun _ => List.nodup_nil
      | succ x ih =>
        intro hx
        rw [List.range_succ, List.flatMap_append, List.flatMap_singleton, List.nodup_append]
        refine ⟨ih (by omega), ?_, fun a ha b hb e => ?_⟩
        · by_cases q : x ∈ l
          · rw [if_pos q]
            exact List.nodup_nil
          · rw [if_neg q]
            exact cmps_nd d (l ++ [x]) (up x (by omega) q).1 (up x (by omega) q).2
        · obtain ⟨y, y1, y2⟩ := List.mem_flatMap.mp ha
          rw [List.mem_range] at y1
          have z1 := at1 y (by omega) a y2
          have z2 := at1 x (by omega) b hb
          rw [e] at z1
          omega
    unfold cmps
    exact key n (Nat.le_refl n)
/-- l behind h -/
def th (n : Nat) (h : Nat → Nat) (l : List Nat) : List Nat := (List.range n).map (fun i => gd l (h i))
theorem th_gd {n i : Nat} {h : Nat → Nat} {l : List Nat} (hi : i < n) : gd (th n h l) i = gd l (h i) := by
  unfold th
  rw [gd_map _ (by rw [List.length_range]; exact hi), gd_rg hi]
theorem th_PL {n : Nat} {h hi : Nat → Nat} {l : List Nat} (h1 : 1 ≤ n) (hl : PL n l) (a : ∀ k, k < n → h k < n ∧ hi (h k) = k) (b : h 0 = 0) : PL n (th n h l) := by
  have ln : (th n h l).length = n := by unfold th; rw [List.length_map, List.length_range]
  refine ⟨ln, nd_gd (fun i j x y e => ?_), fun x hx => ?_, ?_⟩
  · rw [ln] at x y
    rw [th_gd x, th_gd y] at e
    have e2 : h i = h j := by rw [← hl.pg (a i x).1, ← hl.pg (a j y).1, e]
    rw [← (a i x).2, ← (a j y).2, e2]
  · obtain ⟨k, k1, k2⟩ := List.mem_map.mp hx
    rw [← k2]
    exact hl.gl (a k (List.mem_range.mp k1)).1
  · rw [th_gd (by omega), b]
    exact hl.2.2.2
theorem th_px {n x : Nat} {h hi : Nat → Nat} {l : List Nat} (h1 : 1 ≤ n) (hl : PL n l) (a : ∀ k, k < n → h k < n ∧ hi (h k) = k) (b : h 0 = 0) (d : ∀ k, k < n → hi k < n ∧ h (hi k) = k) (hx : x < n) : px (th n h l) x = hi (px l x) := by
  have p := th_PL h1 hl a b
  have q := hl.pl hx
  have e : gd (th n h l) (hi (px l x)) = x := by rw [th_gd (d _ q).1, (d _ q).2, hl.gp hx]
  have := p.pg (d _ q).1
  rw [e] at this
  exact this
theorem th_rn {n : Nat} {c : tC} {h hi : Nat → Nat} {l : List Nat} (h1 : 1 ≤ n) (hf : tF n c) (hl : PL n l) (a : ∀ k, k < n → h k < n ∧ hi (h k) = k) (b : h 0 = 0) (d : ∀ k, k < n → hi k < n ∧ h (hi k) = k) : ∀ i j, i < n → j < n → rn c (th n h l) i j = hi (rn c l (h i) (h j)) := by
  intro i j x y
  show px (th n h l) (c (gd (th n h l) i) (gd (th n h l) j)) = _
  rw [th_gd x, th_gd y, th_px h1 hl a b d (hf _ _ (hl.gl (a i x).1) (hl.gl (a j y).1))]
  rfl
theorem th_inj {n : Nat} {h hi : Nat → Nat} {l m : List Nat} (hl : PL n l) (hm : PL n m) (d : ∀ k, k < n → hi k < n ∧ h (hi k) = k) (e : th n h l = th n h m) : l = m := gd_ext (by rw [hl.1, hm.1]) (fun i q => by
  rw [hl.1] at q
  have z : gd (th n h l) (hi i) = gd (th n h m) (hi i) := by rw [e]
  rw [th_gd (d i q).1, th_gd (d i q).1, (d i q).2] at z
  exact z)
theorem cn_map {α : Type} (f : Nat → α) (p : α → Bool) : ∀ m, ((List.range m).map f).countP p = zsum (fun r => if p (f r) = true then 1 else 0) m
  | 0 => rfl
  | m + 1 => by
    rw [List.range_succ, List.map_append, List.countP_append, cn_map f p m, List.map_singleton, List.countP_singleton]
    rfl
theorem nm_cnt {n : Nat} {c : tC} (hO : tO n c) (hf : tF n c) {lr : Nat → List Nat} (p1 : ∀ r, r < fa (n - 1) → PL n (lr r)) (p2 : ∀ r r', r < fa (n - 1) → r' < fa (n - 1) → lr r = lr r' → r = r') (p3 : ∀ l, PL n l → ∃ r, r < fa (n - 1) ∧ lr r = l) (hN : LEA n c (nmN n c)) : zsum (fun r => if tqb n (rn c (lr r)) c = true then 1 else 0) (fa (n - 1)) = nmA n c := by
  have h1 := hO.1.1
  have h0 := PP_0 h1
  have l0e : ([0] : List Nat).length + (n - 1) = n := by rw [List.length_singleton]; omega
  rw [← cn_map lr (fun l => tqb n (rn c l) c)]
  unfold nmA
  obtain ⟨⟨l0, l1, l2⟩, _⟩ := hN
  have z0 : px l0 0 = 0 := by
    have := l1.pg (i := 0) (by omega)
    rw [l1.2.2.2] at this
    exact this
  have ga : ∀ k, k < n → gd l0 k < n ∧ px l0 (gd l0 k) = k := fun k hk => ⟨l1.gl hk, l1.pg hk⟩
  have gb : ∀ k, k < n → px l0 k < n ∧ gd l0 (px l0 k) = k := fun k hk => ⟨l1.pl hk, l1.gp hk⟩
  have mA : ∀ l, l ∈ (List.range (fa (n - 1))).map lr → PL n l := fun l hl => by
    obtain ⟨r, r1, r2⟩ := List.mem_map.mp hl
    rw [← r2]
    exact p1 r (List.mem_range.mp r1)
  have mB : ∀ l, l ∈ cmps n (n - 1) [0] → PL n l := fun l hl => (cmps_mem (n - 1) [0] l h0 l0e hl).1
  refine Nat.le_antisymm (cn_le (th n (gd l0)) (nd_map List.nodup_range (fun x y hx hy => p2 x y (List.mem_range.mp hx) (List.mem_range.mp hy))) (fun x y hx hy e => th_inj (mA x hx) (mA y hy) gb e) (fun l hl q => ?_)) (cn_le (th n (px l0)) (cmps_nd (n - 1) [0] h0 l0e) (fun x y hx hy e => th_inj (mB x hx) (mB y hy) ga e) (fun l hl q => ?_))
  · have pl := mA l hl
    have pt := th_PL h1 pl ga l1.2.2.2
    refine ⟨cmps_all (n - 1) [0] _ h0 l0e pt (PL_ex0 h1 pt), tqb_t.mpr (fun i j hi hj => ?_)⟩
    rw [th_rn h1 hf pl ga l1.2.2.2 gb i j hi hj, tqb_t.mp q _ _ (ga i hi).1 (ga j hj).1, l2 i j hi hj]
    rfl
  · have pl := mB l hl
    have pt := th_PL h1 pl gb z0
    obtain ⟨r, r1, r2⟩ := p3 _ pt
    refine ⟨List.mem_map.mpr ⟨r, List.mem_range.mpr r1, r2⟩, tqb_t.mpr (fun i j hi hj => ?_)⟩
    rw [th_rn h1 hf pl gb z0 ga i j hi hj, tqb_t.mp q _ _ (gb i hi).1 (gb j hj).1, l2 _ _ (gb i hi).1 (gb j hj).1]
    show gd l0 (px l0 (c (gd l0 (px l0 i)) (gd l0 (px l0 j)))) = c i j
    rw [(gb i hi).2, (gb j hj).2, (gb _ (hf i j hi hj)).2]
theorem qM_name {T : tS} {M : zM} (x y : Int32) (hR : RS T M) (hT : TO T) : ∃ M', zf_M_name [.ref 32, .int x, .int y] M = some (some (aN T x y), M') ∧ RS (sN T x y) M' ∧ TO (sN T x y) ∧ zlo M M' := by
  rcases z3 x (n := 4) (by decide) with h | ⟨s, hs, rfl⟩
  · refine ⟨M, ?_, by simpa [sN, okN, h] using hR, by simpa [sN, okN, h] using hT, zlo.refl M⟩
    simp [zf_M_name, zmeth, xm_en, zret, zretz, zretv, zseq, zst, zinc, zkl, zskip, zk, zi, za, zbin, zdiv, zrem, zgi, zgr, zld, zldr, zlen, zn, zc, zcall, zcallv, zrcv, zdo, zdov, zpf, zpfc, zas, zasc, zmin, zmax, zcmp, zcz, zand_e, zor_e, zite_e, zbite_e, zif_e, znot_e, z_add, z_sub, z_mul, z_and, z_or, z_xor, z_shl, z_shr, zcpy, -List.getElem?_cons_succ, zg_0, zg_1, zg_2, zg_3, zg_4, zg_5, zg_6, zg_7, zg_8, zg_9, qM_isTable, zb_ne, h, aN]
  · have e := zlt_y hs (by decide)
    rcases z3 y (n := 4) (by decide) with h | ⟨t, ht, rfl⟩
    · refine ⟨M, ?_, by simpa [sN, okN, h] using hR, by simpa [sN, okN, h] using hT, zlo.refl M⟩
      simp [zf_M_name, zmeth, xm_en, zret, zretz, zretv, zseq, zst, zinc, zkl, zskip, zk, zi, za, zbin, zdiv, zrem, zgi, zgr, zld, zldr, zlen, zn, zc, zcall, zcallv, zrcv, zdo, zdov, zpf, zpfc, zas, zasc, zmin, zmax, zcmp, zcz, zand_e, zor_e, zite_e, zbite_e, zif_e, znot_e, z_add, z_sub, z_mul, z_and, z_or, z_xor, z_shl, z_shr, zcpy, -List.getElem?_cons_succ, zg_0, zg_1, zg_2, zg_3, zg_4, zg_5, zg_6, zg_7, zg_8, zg_9, qM_isTable, zb_ne, e, h, aN]
    · have e2 := zlt_y ht (by decide)
      have ct : (nI t).toNatClampNeg = t := nI_clamp (by omega)
      have cs : (nI s).toNatClampNeg = s := nI_clamp (by omega)
      have h8 := (hT t ht).1.2
      have h1 := (hT t ht).1.1
      have ft := qM_isFull (show t < 6 by omega) (hR t ht) h8
      cases hb : tB (T t).1 (T t).2 with
      | false =>
        rw [hb] at ft
        have hok : okN T (nI s) (nI t) = false := by simp [okN, ct, hb]
        refine ⟨M, ?_, by simpa [sN, hok] using hR, by simpa [sN, hok] using hT, zlo.refl M⟩
        simp (disch := omega) [zf_M_name, zmeth, xm_en, zret, zretz, zretv, zseq, zst, zinc, zkl, zskip, zk, zi, za, zbin, zdiv, zrem, zgi, zgr, zld, zldr, zlen, zn, zc, zcall, zcallv, zrcv, zdo, zdov, zpf, zpfc, zas, zasc, zmin, zmax, zcmp, zcz, zand_e, zor_e, zite_e, zbite_e, zif_e, znot_e, z_add, z_sub, z_mul, z_and, z_or, z_xor, z_shl, z_shr, zcpy, -List.getElem?_cons_succ, zg_0, zg_1, zg_2, zg_3, zg_4, zg_5, zg_6, zg_7, zg_8, zg_9, zt_0, zt_12, zt_20, zt_26, zt_32, zf_0_0, zf_0_1, zf_0_2, zf_0_3, zf_0_4, zf_12_0, zf_12_1, zf_12_2, zf_12_4, zf_12_5, zf_20_1, zf_20_2, zf_20_3, zf_20_4, zf_20_6, zf_26_0, zf_26_1, zf_26_2, zf_26_3, zf_32_0, zf_32_1, zf_32_3, zf_32_4, zf_32_5, zf_32_6, qM_isTable, zb_ne, e, e2, ct, cs, ft, aN, hok]
      | true =>
        rw [hb] at ft
        have hok : okN T (nI s) (nI t) = true := by simp [okN, ct, hb, e, e2]
        have hf := (tB_iff (hT t ht)).mp hb
        have q0 : zsr M (zcp M 4 t 64) := fun k j z => zcp_out (by omega) (by omega)
        obtain ⟨lr, p1, p2, p3, p4⟩ := rn_all h8 h1
        obtain ⟨B, M1, w1, w2, w3, w4⟩ := qM_nm1 (M0 := zcp M 4 t 64) (s := s) ht (q0.rT ht h8 (hR t ht)) (hT t ht) hf (rT_cp h8 (hR t ht)) p1 p3 p4
        have hN : LEA (T t).1 (T t).2 (nmN (T t).1 (T t).2) := Classical.epsilon_spec (p := LEA (T t).1 (T t).2) ⟨B, w2⟩
        rw [nm_cnt (hT t ht) hf p1 p2 p3 hN] at w1
        have qN := nmN_q h8 w2
        have q1 : zsr M M1 := zsr.trans q0 w4
        refine ⟨zcp M1 s 4 64, ?_, ?_, ?_, ?_⟩
        · have cp := qM_copies (M := M) (s := 4) (t := t) (by omega) (by omega) (by omega)
          have cp2 := qM_copies (M := M1) (s := s) (t := 4) (by omega) (by omega) (by omega)
          simp (disch := omega) [zf_M_name, zmeth, xm_en, zret, zretz, zretv, zseq, zst, zinc, zkl, zskip, zk, zi, za, zbin, zdiv, zrem, zgi, zgr, zld, zldr, zlen, zn, zc, zcall, zcallv, zrcv, zdo, zdov, zpf, zpfc, zas, zasc, zmin, zmax, zcmp, zcz, zand_e, zor_e, zite_e, zbite_e, zif_e, znot_e, z_add, z_sub, z_mul, z_and, z_or, z_xor, z_shl, z_shr, zcpy, -List.getElem?_cons_succ, zg_0, zg_1, zg_2, zg_3, zg_4, zg_5, zg_6, zg_7, zg_8, zg_9, zt_0, zt_12, zt_20, zt_26, zt_32, zf_0_0, zf_0_1, zf_0_2, zf_0_3, zf_0_4, zf_12_0, zf_12_1, zf_12_2, zf_12_4, zf_12_5, zf_20_1, zf_20_2, zf_20_3, zf_20_4, zf_20_6, zf_26_0, zf_26_1, zf_26_2, zf_26_3, zf_32_0, zf_32_1, zf_32_3, zf_32_4, zf_32_5, zf_32_6, qM_isTable, zb_ne, e, e2, ct, cs, ft, aN, hok, cp, cp2, w1]
        · simp only [sN, hok, cond_true, ct, cs]
          exact RS_cp4 hT hs h8 hR q1 (rT_q w3 qN)
        · simp only [sN, hok, cond_true, ct, cs]
          exact TO_set hT (LEA_O (hT t ht) hf hN).1
        · exact zlo.trans q1.lo zlo_cp
