/-! name: the numbers of the renamings -/
theorem cf_S (tk d : Nat) : cf tk 0 (d + 1) = cf tk 0 d + (if tk.testBit d = true then 0 else 1) := by
  show cf tk 0 d + (if tk.testBit (0 + d) = true then 0 else 1) = _
  rw [Nat.zero_add]
theorem cf_lt {tk w : Nat} (h : tk.testBit w = false) : ∀ {m : Nat}, w < m → cf tk 0 w < cf tk 0 m
  | 0, q => absurd q (Nat.not_lt_zero w)
  | m + 1, q => by
    rw [cf_S]
    by_cases e : w = m
    · subst e
      rw [h]
      simp
    · have := cf_lt h (m := m) (by omega)
      omega
theorem cf_inj {tk w w' : Nat} (h : tk.testBit w = false) (h' : tk.testBit w' = false) (e : cf tk 0 w = cf tk 0 w') : w = w' := by
  rcases Nat.lt_trichotomy w w' with q | q | q
  · have := cf_lt h q
    omega
  · exact q
  · have := cf_lt h' q
    omega
def num (u : Nat) (G : Nat → Nat) : Nat → Nat → Nat → Nat → Nat
  | 0, _, _, _ => 0
  | d + 1, i, tk, L => if i = u then num u G d (i + 1) tk L else cf tk 0 (G i) + L * num u G d (i + 1) (tk ||| 2 ^ G i) (L - 1)
theorem fa_pos : ∀ m, 0 < fa m
  | 0 => Nat.one_pos
  | m + 1 => Nat.mul_pos (fa_pos m) (Nat.succ_pos m)
/-- the images from i on are free in tk, and no two are the same -/
def FRE (n u : Nat) (G : Nat → Nat) (i tk : Nat) : Prop := (∀ k, i ≤ k → k < n → k ≠ u → G k < n ∧ tk.testBit (G k) = false) ∧ ∀ k k', i ≤ k → k < n → k ≠ u → i ≤ k' → k' < n → k' ≠ u → G k = G k' → k = k'
theorem FRE.su {n u i tk : Nat} {G : Nat → Nat} (h : FRE n u G i tk) : FRE n u G (i + 1) tk := ⟨fun k a b d => h.1 k (by omega) b d, fun k k' a b d a' b' d' => h.2 k k' (by omega) b d (by omega) b' d'⟩
theorem FRE.st {n u i tk : Nat} {G : Nat → Nat} (h : FRE n u G i tk) (hi : i < n) (hu : i ≠ u) : FRE n u G (i + 1) (tk ||| 2 ^ G i) := ⟨fun k a b d => ⟨(h.1 k (by omega) b d).1, by
    rw [Nat.testBit_or, (h.1 k (by omega) b d).2, Nat.testBit_two_pow, Bool.false_or]
    exact decide_eq_false (fun e => absurd (h.2 i k (Nat.le_refl i) hi hu (by omega) b d e) (by omega))⟩, fun k k' a b d a' b' d' => h.2 k k' (by omega) b d (by omega) b' d'⟩
theorem num_lt {n u : Nat} {G : Nat → Nat} : ∀ (d i tk L : Nat), i + d = n → cf tk 0 n = L → FRE n u G i tk → num u G d i tk L < fa L
  | 0, i, tk, L, _, _, _ => fa_pos L
  | d + 1, i, tk, L, e, hL, h => by
    unfold num
    by_cases q : i = u
    · rw [if_pos q]
      exact num_lt d (i + 1) tk L (by omega) hL h.su
    · rw [if_neg q]
      obtain ⟨g1, g2⟩ := h.1 i (Nat.le_refl i) (by omega) q
      have c1 := cf_lt g2 g1
      have c2 := cf_set g1 g2
      have r := num_lt d (i + 1) (tk ||| 2 ^ G i) (L - 1) (by omega) (by omega) (h.st (by omega) q)
      have e2 : fa L = fa (L - 1) * L := by
        cases L with
        | zero => omega
        | succ L => rfl
      have r2 := Nat.mul_le_mul_left L r
      rw [Nat.mul_succ] at r2
      rw [e2, Nat.mul_comm (fa (L - 1)) L]
      omega
theorem num_inj {n u : Nat} {G G' : Nat → Nat} : ∀ (d i tk L : Nat), i + d = n → cf tk 0 n = L → FRE n u G i tk → FRE n u G' i tk → num u G d i tk L = num u G' d i tk L → ∀ k, i ≤ k → k < n → k ≠ u → G k = G' k
  | 0, i, tk, L, e, _, _, _, _ => fun k a b _ => by omega
  | d + 1, i, tk, L, e, hL, h, h', en => by
    unfold num at en
    by_cases q : i = u
    · rw [if_pos q, if_pos q] at en
      exact fun k a b z => num_inj d (i + 1) tk L (by omega) hL h.su h'.su en k (by omega) b z
    · rw [if_neg q, if_neg q] at en
      obtain ⟨g1, g2⟩ := h.1 i (Nat.le_refl i) (by omega) q
      obtain ⟨g1', g2'⟩ := h'.1 i (Nat.le_refl i) (by omega) q
      have c1 := cf_lt g2 g1
      have c1' := cf_lt g2' g1'
      have c2 := cf_set g1 g2
      obtain ⟨p1, p2⟩ := pr_inj (m := L) (a := num u G d (i + 1) (tk ||| 2 ^ G i) (L - 1)) (a' := num u G' d (i + 1) (tk ||| 2 ^ G' i) (L - 1)) (b := cf tk 0 (G i)) (b' := cf tk 0 (G' i)) (by omega) (by omega) (by omega)
      have eg := cf_inj g2 g2' p2
      rw [← eg] at p1
      have hs' := h'.st (by omega) q
      rw [← eg] at hs'
      intro k a b z
      by_cases ek : k = i
      · rw [ek]
        exact eg
      · exact num_inj d (i + 1) (tk ||| 2 ^ G i) (L - 1) (by omega) (by omega) (h.st (by omega) q) hs' p1 k (by omega) b z
theorem num_congr {n u : Nat} {G G' : Nat → Nat} : ∀ (d i tk L : Nat), i + d = n → (∀ k, i ≤ k → k < n → G k = G' k) → num u G d i tk L = num u G' d i tk L
  | 0, i, tk, L, _, _ => rfl
  | d + 1, i, tk, L, e, h => by
    unfold num
    rw [h i (Nat.le_refl i) (by omega), num_congr d (i + 1) tk L (by omega) (fun k a b => h k (by omega) b), num_congr d (i + 1) (tk ||| 2 ^ G' i) (L - 1) (by omega) (fun k a b => h k (by omega) b)]
/-! lists out of bijections -/
theorem gd_map (f : Nat → Nat) : ∀ {l : List Nat} {i : Nat}, i < l.length → gd (l.map f) i = f (gd l i)
  | [], i, h => absurd h (Nat.not_lt_zero i)
  | a :: l, 0, _ => rfl
  | a :: l, i + 1, h => gd_map f (l := l) (by simpa using h)
theorem nd_gd : ∀ {l : List Nat}, (∀ i j, i < l.length → j < l.length → gd l i = gd l j → i = j) → l.Nodup
  | [], _ => List.nodup_nil
  | a :: l, h => List.nodup_cons.mpr ⟨fun z => by
      obtain ⟨p1, p2⟩ := px_mem z
      have := h 0 (px l a + 1) (by simp) (by simpa using p1) p2.symm
      omega, nd_gd (fun i j hi hj e => by
      have := h (i + 1) (j + 1) (by simpa using hi) (by simpa using hj) e
      omega)⟩
theorem gd_ext : ∀ {l m : List Nat}, l.length = m.length → (∀ i, i < l.length → gd l i = gd m i) → l = m
  | [], [], _, _ => rfl
  | [], b :: m, h, _ => by simp at h
  | a :: l, [], h, _ => by simp at h
  | a :: l, b :: m, h, q => by
    have e1 : a = b := q 0 (by simp)
    have e2 := gd_ext (l := l) (m := m) (by simpa using h) (fun i hi => q (i + 1) (by simpa using hi))
    rw [e1, e2]
theorem PL_of {n : Nat} {g : Nat → Nat} (h1 : 1 ≤ n) (hl : ∀ k, k < n → g k < n) (hi : ∀ k k', k < n → k' < n → g k = g k' → k = k') (h0 : g 0 = 0) : ∃ l, PL n l ∧ ∀ k, k < n → px l k = g k := by
  have gA : ∀ k, k < n → gd ((List.range n).map g) k = g k := fun k hk => by
    rw [gd_map g (by rw [List.length_range]; exact hk), gd_rg hk]
  have lA : ((List.range n).map g).length = n := by rw [List.length_map, List.length_range]
  have A : PL n ((List.range n).map g) := ⟨lA, nd_gd (fun i j a b e => by
    rw [lA] at a b
    rw [gA i a, gA j b] at e
    exact hi i j a b e), fun x hx => by
    obtain ⟨k, k1, k2⟩ := List.mem_map.mp hx
    rw [← k2]
    exact hl k (List.mem_range.mp k1), (gA 0 (by omega)).trans h0⟩
  have gl : ∀ k, k < n → gd ((List.range n).map (px ((List.range n).map g))) k = px ((List.range n).map g) k := fun k hk => by
    rw [gd_map _ (by rw [List.length_range]; exact hk), gd_rg hk]
  have ll : ((List.range n).map (px ((List.range n).map g))).length = n := by rw [List.length_map, List.length_range]
  have B : PL n ((List.range n).map (px ((List.range n).map g))) := ⟨ll, nd_gd (fun i j a b e => by
    rw [ll] at a b
    rw [gl i a, gl j b] at e
    rw [← A.gp a, ← A.gp b, e]), fun x hx => by
    obtain ⟨k, k1, k2⟩ := List.mem_map.mp hx
    rw [← k2]
    exact A.pl (List.mem_range.mp k1), by
    rw [gl 0 (by omega)]
    have := A.pg (i := 0) (by omega)
    rw [gA 0 (by omega), h0] at this
    exact this⟩
  refine ⟨_, B, fun k hk => ?_⟩
  have e1 : gd ((List.range n).map (px ((List.range n).map g))) (g k) = k := by
    rw [gl _ (hl k hk), ← gA k hk]
    exact A.pg hk
  have e2 := B.pg (hl k hk)
  rw [e1] at e2
  exact e2
theorem PL_px {n : Nat} {l m : List Nat} (hl : PL n l) (hm : PL n m) (h : ∀ k, k < n → px l k = px m k) : l = m := gd_ext (by rw [hl.1, hm.1]) (fun i hi => by
  rw [hl.1] at hi
  have y := hl.gl hi
  have e := h _ y
  rw [hl.pg hi] at e
  have z := hm.gp y
  rw [← e] at z
  exact z.symm)
