/-! contracts of the leaves -/
abbrev xf_fill (h : xm_H) (k N : Nat) (v : Int32) : xm_H := (h.1, h.2.1, va_up h.2.2 k (fun j => if j < N then v else h.2.2 k j))
theorem xf_fill0 (h : xm_H) (k : Nat) (v : Int32) : xf_fill h k 0 v = h := by
  obtain ⟨a, b, c⟩ := h
  simp only [xf_fill, Prod.mk.injEq, true_and]
  funext q j
  unfold va_up
  split
  · rename_i e; subst e; simp
  · rfl
theorem xf_fillS (h : xm_H) (k i : Nat) (v : Int32) : xm_sm (xf_fill h k i v) k i v = xf_fill h k (i + 1) v := by
  simp only [xm_sm, xf_fill, Prod.mk.injEq, true_and]
  funext q j
  unfold va_up upd
  by_cases e : q = k
  · subst e
    simp only [if_true]
    by_cases e2 : j = i
    · subst e2; simp
    · have : j < i + 1 ↔ j < i := by omega
      simp [e2, this]
  · simp [e]
theorem c_fill {G : xm_G} {l : Launch} {d : Nat} {h : xm_H} {k N : Nat} (hk : h.1[k]? = some (0, N)) (hN : N < 2 ^ 31) (v : Int32) : xm_C G l xi_Arrays_fill d 0 0 [.ref k, .int v] h (fun r h' => r = none ∧ h' = xf_fill h k N v) := by
  refine xm_enter' (by decide) rfl (Nat.le_of_ble_eq_true rfl) rfl ?_
  refine xm_step rfl rfl ?_
  refine xm_step rfl rfl ?_
  refine xm_step rfl rfl ?_
  refine xm_alen rfl hk ?_
  refine xm_step rfl rfl ?_
  have L : ∀ (n i : Nat), i ≤ N → N + 1 ≤ i + n → xm_X G l xi_Arrays_fill d 0 0 0 0 5 [some (.ref k), some (.int v), some (.int (nI i)), some (.int (nI N))] [] (xf_fill h k i v) (fun r h' => r = none ∧ h' = xf_fill h k N v) := by
    intro n
    induction n with
    | zero => intro i h1 h2; omega
    | succ n ih =>
      intro i h1 h2
      refine xm_step rfl rfl ?_
      refine xm_step rfl rfl ?_
      refine xm_if rfl rfl (fun hc => ?_) (fun hc => ?_)
      · have hc : nI N ≤ nI i := hc
        have e : i = N := by have := (nI_leI hN (by omega)).mp hc; omega
        subst e
        exact xm_retV rfl rfl (Nat.le_refl _) (Nat.le_refl _) ⟨rfl, rfl⟩
      · have hc : ¬ nI N ≤ nI i := hc
        have hlt : i < N := by
          rcases Nat.lt_or_ge i N with q | q
          · exact q
          · exact absurd (nI_le q (by omega)) hc
        refine xm_step rfl rfl ?_
        refine xm_step rfl rfl ?_
        refine xm_step rfl rfl ?_
        refine xm_iast rfl hk (vp_in_nI hlt hN) ?_
        rw [nI_clamp (by omega), xf_fillS]
        refine xm_step rfl rfl ?_
        refine xm_step rfl rfl ?_
        have := ih (i + 1) (by omega) (by omega)
        rw [nI_succ] at this
        exact this
  have := L (N + 1) 0 (by omega) (by omega)
  rw [xf_fill0] at this
  exact this
/-! a table: its object k, its cells kc -/
def xt_T (h : xm_H) (k kc : Nat) : Prop := h.1[k]? = some (3, 2) ∧ h.2.1 k 1 = some kc ∧ h.1[kc]? = some (0, 64)
theorem xt_T.ne {h : xm_H} {k kc : Nat} (hT : xt_T h k kc) : k ≠ kc := fun e => by
  have h1 := hT.1
  rw [e, hT.2.2] at h1
  cases h1
theorem xt_8 : (Int8.ofInt 8).toInt32 = nI 8 := by decide +kernel
theorem c_put {G : xm_G} {l : Launch} {d : Nat} {h : xm_H} {k kc n i j : Nat} (hT : xt_T h k kc) (hn : h.2.2 k 0 = nI n) (hn8 : n ≤ 8) (hi : i < n) (hj : j < n) (v : Int32) : xm_C G l xi_Table_put d 0 0 [.ref k, .int (nI i), .int (nI j), .int v] h (fun r h' => r = none ∧ h' = xm_sm h kc (8 * i + j) v) := by
  refine xm_enter' (by decide) rfl (Nat.le_of_ble_eq_true rfl) rfl ?_
  refine xm_step rfl rfl ?_
  refine xm_if rfl rfl (fun hc => absurd hc (nI_pos (by omega))) (fun _ => ?_)
  refine xm_step rfl rfl ?_
  refine xm_step rfl rfl ?_
  refine xm_getI rfl hT.1 rfl ?_
  refine xm_if rfl rfl (fun hc => absurd (show h.2.2 k 0 ≤ nI i from hc) (by rw [hn]; exact nI_ge hi (by omega))) (fun _ => ?_)
  refine xm_step rfl rfl ?_
  refine xm_if rfl rfl (fun hc => absurd hc (nI_pos (by omega))) (fun _ => ?_)
  refine xm_step rfl rfl ?_
  refine xm_step rfl rfl ?_
  refine xm_getI rfl hT.1 rfl ?_
  refine xm_if rfl rfl (fun hc => absurd (show h.2.2 k 0 ≤ nI j from hc) (by rw [hn]; exact nI_ge hj (by omega))) (fun _ => ?_)
  refine xm_step rfl rfl ?_
  refine xm_getR rfl hT.1 rfl hT.2.1 ?_
  refine xm_step rfl rfl ?_
  refine xm_step rfl rfl ?_
  refine xm_step rfl rfl ?_
  refine xm_step rfl rfl ?_
  refine xm_step rfl rfl ?_
  refine xm_step rfl rfl ?_
  have e : (Int8.ofInt 8).toInt32 * nI i + nI j = nI (8 * i + j) := by rw [xt_8, pk_mul, nI_add]
  dsimp only
  rw [e]
  refine xm_iast rfl hT.2.2 (vp_in_nI (by omega) (by omega)) ?_
  rw [nI_clamp (by omega)]
  exact xm_retV rfl rfl (Nat.le_refl _) (Nat.le_refl _) ⟨rfl, rfl⟩
def xf_row (i : Nat) (f : Nat → Int32) : Nat → Int32 := fun j => if j < 64 then (if j < i then nI j else if j % 8 = 0 ∧ j / 8 < i then nI (j / 8) else -1) else f j
theorem xf_rowS (i : Nat) (hi : i < 8) (f : Nat → Int32) : upd (upd (xf_row i f) i (nI i)) (8 * i) (nI i) = xf_row (i + 1) f := by
  funext j
  unfold upd xf_row
  by_cases e1 : j = 8 * i
  · subst e1
    rw [if_pos rfl, if_pos (by omega)]
    by_cases e2 : 8 * i < i + 1
    · rw [if_pos e2]
      have : i = 0 := by omega
      subst this
      rfl
    · rw [if_neg e2, if_pos ⟨by omega, by omega⟩]
      congr 1
      omega
  · rw [if_neg e1]
    by_cases e2 : j = i
    · subst e2
      rw [if_pos rfl, if_pos (by omega), if_pos (by omega)]
    · rw [if_neg e2]
      have e3 : j < i + 1 ↔ j < i := by omega
      have e4 : (j % 8 = 0 ∧ j / 8 < i + 1) ↔ (j % 8 = 0 ∧ j / 8 < i) := by omega
      simp only [e3, e4]
abbrev xf_rst (h : xm_H) (k kc m i : Nat) : xm_H := (h.1, h.2.1, va_up (va_up h.2.2 k (upd (h.2.2 k) 0 (nI m))) kc (xf_row i (h.2.2 kc)))
theorem c_restart {G : xm_G} {l : Launch} {d : Nat} {h : xm_H} {k kc m : Nat} (hT : xt_T h k kc) (hm1 : 1 ≤ m) (hm8 : m ≤ 8) : xm_C G l xi_Table_restart (d + 1) 0 0 [.ref k, .int (nI m)] h (fun r h' => r = none ∧ h' = xf_rst h k kc m m) := by
  have hne := hT.ne
  refine xm_enter' (by decide) rfl (Nat.le_of_ble_eq_true rfl) rfl ?_
  refine xm_step rfl rfl ?_
  refine xm_step rfl rfl ?_
  refine xm_step rfl rfl ?_
  refine xm_step rfl rfl ?_
  refine xm_mmin (u := nI m) (w := nI 8) rfl (by omega) (Nat.le_refl _) (Nat.le_refl _) (Nat.le_of_ble_eq_true rfl) ?_
  have e1 : (if nI 8 < nI m then nI 8 else nI m) = nI m := if_neg (nI_nlt hm8 (by omega))
  rw [e1]
  refine xm_mmax (u := 1) (w := nI m) rfl (by omega) (Nat.le_refl _) (Nat.le_refl _) (Nat.le_of_ble_eq_true rfl) ?_
  have e2 : (if (1 : Int32) < nI m then nI m else 1) = nI m := by
    by_cases hc : (1 : Int32) < nI m
    · rw [if_pos hc]
    · rw [if_neg hc]
      have : ¬ nI 1 < nI m := hc
      have h2 : ¬ 1 < m := fun q => this (nI_lt q (by omega))
      have : m = 1 := by omega
      subst this
      rfl
  rw [e2]
  refine xm_putI rfl hT.1 rfl ?_
  refine xm_step rfl rfl ?_
  refine xm_getR rfl hT.1 rfl hT.2.1 ?_
  refine xm_step rfl rfl ?_
  refine xm_callS (As := [.ref kc, .int (-1)]) (rest := []) (d' := d) (mc' := 0) (ms' := 0) rfl (c_fill (h := xm_sm h k 0 (nI m)) (N := 64) hT.2.2 (by decide) (-1)) rfl (Nat.le_refl _) (Nat.le_refl _) (Nat.le_refl _) (Nat.le_of_ble_eq_true rfl) (fun r h' hp => ?_)
  obtain ⟨rfl, rfl⟩ := hp
  refine xm_step rfl rfl ?_
  refine xm_step rfl rfl ?_
  have L : ∀ (n i : Nat), i ≤ m → m + 1 ≤ i + n → xm_X G l xi_Table_restart (d + 1) 0 0 0 0 24 [some (.ref k), some (.int (nI m)), some (.int (nI i))] [] (xf_rst h k kc m i) (fun r h9 => r = none ∧ h9 = xf_rst h k kc m m) := by
    intro n
    induction n with
    | zero => intro i h1 h2; omega
    | succ n ih =>
      intro i h1 h2
      have hT' : xt_T (xf_rst h k kc m i) k kc := hT
      have hn' : (xf_rst h k kc m i).2.2 k 0 = nI m := by simp [va_up, hne, upd]
      refine xm_step rfl rfl ?_
      refine xm_step rfl rfl ?_
      refine xm_getI rfl hT.1 rfl ?_
      refine xm_if rfl rfl (fun hc => ?_) (fun hc => ?_)
      · have hc : (xf_rst h k kc m i).2.2 k 0 ≤ nI i := hc
        rw [hn'] at hc
        have e : i = m := by have := (nI_leI (by omega) (by omega)).mp hc; omega
        subst e
        exact xm_retV rfl rfl (Nat.le_refl _) (Nat.le_refl _) ⟨rfl, rfl⟩
      · have hc : ¬ (xf_rst h k kc m i).2.2 k 0 ≤ nI i := hc
        rw [hn'] at hc
        have hlt : i < m := by
          rcases Nat.lt_or_ge i m with q | q
          · exact q
          · exact absurd (nI_le q (by omega)) hc
        refine xm_step rfl rfl ?_
        refine xm_step rfl rfl ?_
        refine xm_step rfl rfl ?_
        refine xm_step rfl rfl ?_
        refine xm_callV (As := [.int (nI 0), .int (nI i), .int (nI i)]) (rest := []) (d' := d) (mc' := 0) (ms' := 0) (ci := 0) rfl hT.1 rfl (c_put hT' hn' hm8 (by omega) hlt (nI i)) rfl (Nat.le_refl _) (Nat.le_refl _) (Nat.le_refl _) (Nat.le_of_ble_eq_true rfl) (fun r g1 hp => ?_)
        obtain ⟨rfl, rfl⟩ := hp
        refine xm_step rfl rfl ?_
        refine xm_step rfl rfl ?_
        refine xm_step rfl rfl ?_
        refine xm_step rfl rfl ?_
        refine xm_callV (As := [.int (nI i), .int (nI 0), .int (nI i)]) (rest := []) (d' := d) (mc' := 0) (ms' := 0) (ci := 0) rfl hT.1 rfl (c_put (h := xm_sm (xf_rst h k kc m i) kc (8 * 0 + i) (nI i)) (n := m) (i := i) (j := 0) hT' (by simp [va_up, hne, upd]) hm8 hlt (by omega) (nI i)) rfl (Nat.le_refl _) (Nat.le_refl _) (Nat.le_refl _) (Nat.le_of_ble_eq_true rfl) (fun r g1 hp => ?_)
        obtain ⟨rfl, rfl⟩ := hp
        refine xm_step rfl rfl ?_
        refine xm_step rfl rfl ?_
        have IH := ih (i + 1) (by omega) (by omega)
        rw [nI_succ] at IH
        have eh : xm_sm (xm_sm (xf_rst h k kc m i) kc (8 * 0 + i) (nI i)) kc (8 * i + 0) (nI i) = xf_rst h k kc m (i + 1) := by
          simp only [xm_sm, xf_rst, Prod.mk.injEq, true_and]
          funext q
          unfold va_up
          by_cases e : q = kc
          · subst e
            simp only [if_true]
            rw [← xf_rowS i (by omega)]
            simp
          · simp [e]
        rw [eh]
        exact IH
  have R := L (m + 1) 0 (by omega) (by omega)
  have e0 : xf_fill (xm_sm h k 0 (nI m)) kc 64 (-1) = xf_rst h k kc m 0 := by
    simp only [xm_sm, xf_rst, xf_fill, Prod.mk.injEq, true_and]
    funext q
    unfold va_up
    by_cases e : q = kc
    · subst e
      simp only [if_true]
      funext j
      have hk : ¬ q = k := fun z => hne z.symm
      simp [xf_row, hk]
    · simp [e]
  exact e0 ▸ R
