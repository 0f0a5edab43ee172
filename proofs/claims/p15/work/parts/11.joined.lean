/-! conditions as Bools; entries; more room does no harm -/
def xe_cd (c : ClassFile.Cond) (x y : Int32) : Bool := match c with
  | .eq => decide (x = y)
  | .ne => !decide (x = y)
  | .lt => decide (x < y)
  | .ge => decide (y ≤ x)
  | .gt => decide (y < x)
  | .le => decide (x ≤ y)
theorem xe_cd_iff (c : ClassFile.Cond) (x y : Int32) : xe_cd c x y = true ↔ xm_cd c x y := by cases c <;> simp [xe_cd, xm_cd]
theorem xm_enter' {G : xm_G} {l : Launch} {y d mc ms : Nat} {as : List Value} {h : xm_H} {post : Option Value → xm_H → Prop} {ls : List (Option Value)} (hy : y < xm_N - 1 ∧ (y ≠ 151 ∧ y ≠ 152)) (hc : as.all (fun v => v.category == 1) = true) (hn : as.length ≤ xm_mL y) (hls : xm_en as (xm_mL y) = ls) (hX : xm_X G l y d mc ms 0 0 0 ls [] h post) : xm_C G l y d mc ms as h post :=
  xm_enter hy.1 hy.2 (fun v hv => by simpa using List.all_eq_true.mp hc v hv) hn (hls ▸ hX)
theorem xm_dm {G : xm_G} {l : Launch} {y d d' mc ms cs zs pc : Nat} {ls : List (Option Value)} {st : List Value} {h : xm_H} {post : Option Value → xm_H → Prop} (hd : d ≤ d') (k : xm_X G l y d mc ms cs zs pc ls st h post) : xm_X G l y d' mc ms cs zs pc ls st h post := by
  intro p e R s m args below meth c H locs base lsA Q hS hmc hms hL hW hF hk
  obtain ⟨g1, g2, ⟨g3, g4, g5⟩, g6⟩ := hS
  exact k p e R s m args below meth c H locs base lsA Q ⟨g1, g2, ⟨by omega, by omega, g5⟩, g6⟩ hmc hms hL hW hF hk
/-! contracts of the leaves -/
abbrev xf_fill (h : xm_H) (k N : Nat) (v : Int32) : xm_H := (h.1, h.2.1, va_up h.2.2 k (fun j => if j < N then v else h.2.2 k j))
theorem xf_fill0 (h : xm_H) (k : Nat) (v : Int32) : xf_fill h k 0 v = h := by
  obtain ⟨a, b, c⟩ := h
  simp only [xf_fill, Prod.mk.injEq, true_and]
  funext q j
  unfold va_up
  split
  · rename_i e; subst e; simp
  · rfl
theorem xf_fillS (h : xm_H) (k i : Nat) (v : Int32) : xm_sm (xf_fill h k i v) k i v = xf_fill h k (i + 1) v := by
  simp only [xm_sm, xf_fill, Prod.mk.injEq, true_and]
  funext q j
  unfold va_up upd
  by_cases e : q = k
  · subst e
    simp only [if_true]
    by_cases e2 : j = i
    · subst e2; simp
    · have : j < i + 1 ↔ j < i := by omega
      simp [e2, this]
  · simp [e]
theorem c_fill {G : xm_G} {l : Launch} {d : Nat} {h : xm_H} {k N : Nat} (hk : h.1[k]? = some (0, N)) (hN : N < 2 ^ 31) (v : Int32) : xm_C G l xi_Arrays_fill d 0 0 [.ref k, .int v] h (fun r h' => r = none ∧ h' = xf_fill h k N v) := by
  refine xm_enter' (by decide) rfl (Nat.le_of_ble_eq_true rfl) rfl ?_
  refine xm_step rfl rfl ?_
  refine xm_step rfl rfl ?_
  refine xm_step rfl rfl ?_
  refine xm_alen rfl hk ?_
  refine xm_step rfl rfl ?_
  have L : ∀ (n i : Nat), i ≤ N → N + 1 ≤ i + n → xm_X G l xi_Arrays_fill d 0 0 0 0 5 [some (.ref k), some (.int v), some (.int (nI i)), some (.int (nI N))] [] (xf_fill h k i v) (fun r h' => r = none ∧ h' = xf_fill h k N v) := by
    intro n
    induction n with
    | zero => intro i h1 h2; omega
    | succ n ih =>
      intro i h1 h2
      refine xm_step rfl rfl ?_
      refine xm_step rfl rfl ?_
      refine xm_if rfl rfl (fun hc => ?_) (fun hc => ?_)
      · have hc : nI N ≤ nI i := hc
        have e : i = N := by have := (nI_leI hN (by omega)).mp hc; omega
        subst e
        exact xm_retV rfl rfl (Nat.le_refl _) (Nat.le_refl _) ⟨rfl, rfl⟩
      · have hc : ¬ nI N ≤ nI i := hc
        have hlt : i < N := by
          rcases Nat.lt_or_ge i N with q | q
          · exact q
          · exact absurd (nI_le q (by omega)) hc
        refine xm_step rfl rfl ?_
        refine xm_step rfl rfl ?_
        refine xm_step rfl rfl ?_
        refine xm_iast rfl hk (vp_in_nI hlt hN) ?_
        rw [nI_clamp (by omega), xf_fillS]
        refine xm_step rfl rfl ?_
        refine xm_step rfl rfl ?_
        have := ih (i + 1) (by omega) (by omega)
        rw [nI_succ] at this
        exact this
  have := L (N + 1) 0 (by omega) (by omega)
  rw [xf_fill0] at this
  exact this
/-! a table: its object k, its cells kc -/
def xt_T (h : xm_H) (k kc : Nat) : Prop := h.1[k]? = some (3, 2) ∧ h.2.1 k 1 = some kc ∧ h.1[kc]? = some (0, 64)
theorem xt_T.ne {h : xm_H} {k kc : Nat} (hT : xt_T h k kc) : k ≠ kc := fun e => by
  have h1 := hT.1
  rw [e, hT.2.2] at h1
  cases h1
theorem xt_8 : (Int8.ofInt 8).toInt32 = nI 8 := by decide +kernel
theorem c_put {G : xm_G} {l : Launch} {d : Nat} {h : xm_H} {k kc n i j : Nat} (hT : xt_T h k kc) (hn : h.2.2 k 0 = nI n) (hn8 : n ≤ 8) (hi : i < n) (hj : j < n) (v : Int32) : xm_C G l xi_Table_put d 0 0 [.ref k, .int (nI i), .int (nI j), .int v] h (fun r h' => r = none ∧ h' = xm_sm h kc (8 * i + j) v) := by
  refine xm_enter' (by decide) rfl (Nat.le_of_ble_eq_true rfl) rfl ?_
  refine xm_step rfl rfl ?_
  refine xm_if rfl rfl (fun hc => absurd hc (nI_pos (by omega))) (fun _ => ?_)
  refine xm_step rfl rfl ?_
  refine xm_step rfl rfl ?_
  refine xm_getI rfl hT.1 rfl ?_
  refine xm_if rfl rfl (fun hc => absurd (show h.2.2 k 0 ≤ nI i from hc) (by rw [hn]; exact nI_ge hi (by omega))) (fun _ => ?_)
  refine xm_step rfl rfl ?_
  refine xm_if rfl rfl (fun hc => absurd hc (nI_pos (by omega))) (fun _ => ?_)
  refine xm_step rfl rfl ?_
  refine xm_step rfl rfl ?_
  refine xm_getI rfl hT.1 rfl ?_
  refine xm_if rfl rfl (fun hc => absurd (show h.2.2 k 0 ≤ nI j from hc) (by rw [hn]; exact nI_ge hj (by omega))) (fun _ => ?_)
  refine xm_step rfl rfl ?_
  refine xm_getR rfl hT.1 rfl hT.2.1 ?_
  refine xm_step rfl rfl ?_
  refine xm_step rfl rfl ?_
  refine xm_step rfl rfl ?_
  refine xm_step rfl rfl ?_
  refine xm_step rfl rfl ?_
  refine xm_step rfl rfl ?_
  have e : (Int8.ofInt 8).toInt32 * nI i + nI j = nI (8 * i + j) := by rw [xt_8, pk_mul, nI_add]
  dsimp only
  rw [e]
  refine xm_iast rfl hT.2.2 (vp_in_nI (by omega) (by omega)) ?_
  rw [nI_clamp (by omega)]
  exact xm_retV rfl rfl (Nat.le_refl _) (Nat.le_refl _) ⟨rfl, rfl⟩
def xf_row (i : Nat) (f : Nat → Int32) : Nat → Int32 := fun j => if j < 64 then (if j < i then nI j else if j % 8 = 0 ∧ j / 8 < i then nI (j / 8) else -1) else f j
theorem xf_rowS (i : Nat) (hi : i < 8) (f : Nat → Int32) : upd (upd (xf_row i f) i (nI i)) (8 * i) (nI i) = xf_row (i + 1) f := by
  funext j
  unfold upd xf_row
  by_cases e1 : j = 8 * i
  · subst e1
    rw [if_pos rfl, if_pos (by omega)]
    by_cases e2 : 8 * i < i + 1
    · rw [if_pos e2]
      have : i = 0 := by omega
      subst this
      rfl
    · rw [if_neg e2, if_pos ⟨by omega, by omega⟩]
      congr 1
      omega
  · rw [if_neg e1]
    by_cases e2 : j = i
    · subst e2
      rw [if_pos rfl, if_pos (by omega), if_pos (by omega)]
    · rw [if_neg e2]
      have e3 : j < i + 1 ↔ j < i := by omega
      have e4 : (j % 8 = 0 ∧ j / 8 < i + 1) ↔ (j % 8 = 0 ∧ j / 8 < i) := by omega
      simp only [e3, e4]
abbrev xf_rst (h : xm_H) (k kc m i : Nat) : xm_H := (h.1, h.2.1, va_up (va_up h.2.2 k (upd (h.2.2 k) 0 (nI m))) kc (xf_row i (h.2.2 kc)))
theorem c_restart {G : xm_G} {l : Launch} {d : Nat} {h : xm_H} {k kc m : Nat} (hT : xt_T h k kc) (hm1 : 1 ≤ m) (hm8 : m ≤ 8) : xm_C G l xi_Table_restart (d + 1) 0 0 [.ref k, .int (nI m)] h (fun r h' => r = none ∧ h' = xf_rst h k kc m m) := by
  have hne := hT.ne
  refine xm_enter' (by decide) rfl (Nat.le_of_ble_eq_true rfl) rfl ?_
  refine xm_step rfl rfl ?_
  refine xm_step rfl rfl ?_
  refine xm_step rfl rfl ?_
  refine xm_step rfl rfl ?_
  refine xm_mmin (u := nI m) (w := nI 8) rfl (by omega) (Nat.le_refl _) (Nat.le_refl _) (Nat.le_of_ble_eq_true rfl) ?_
  have e1 : (if nI 8 < nI m then nI 8 else nI m) = nI m := if_neg (nI_nlt hm8 (by omega))
  rw [e1]
  refine xm_mmax (u := 1) (w := nI m) rfl (by omega) (Nat.le_refl _) (Nat.le_refl _) (Nat.le_of_ble_eq_true rfl) ?_
  have e2 : (if (1 : Int32) < nI m then nI m else 1) = nI m := by
    by_cases hc : (1 : Int32) < nI m
    · rw [if_pos hc]
    · rw [if_neg hc]
      have : ¬ nI 1 < nI m := hc
      have h2 : ¬ 1 < m := fun q => this (nI_lt q (by omega))
      have : m = 1 := by omega
      subst this
      rfl
  rw [e2]
  refine xm_putI rfl hT.1 rfl ?_
  refine xm_step rfl rfl ?_
  refine xm_getR rfl hT.1 rfl hT.2.1 ?_
  refine xm_step rfl rfl ?_
  refine xm_callS (As := [.ref kc, .int (-1)]) (rest := []) (d' := d) (mc' := 0) (ms' := 0) rfl (c_fill (h := xm_sm h k 0 (nI m)) (N := 64) hT.2.2 (by decide) (-1)) rfl (Nat.le_refl _) (Nat.le_refl _) (Nat.le_refl _) (Nat.le_of_ble_eq_true rfl) (fun r h' hp => ?_)
  obtain ⟨rfl, rfl⟩ := hp
  refine xm_step rfl rfl ?_
  refine xm_step rfl rfl ?_
  have L : ∀ (n i : Nat), i ≤ m → m + 1 ≤ i + n → xm_X G l xi_Table_restart (d + 1) 0 0 0 0 24 [some (.ref k), some (.int (nI m)), some (.int (nI i))] [] (xf_rst h k kc m i) (fun r h9 => r = none ∧ h9 = xf_rst h k kc m m) := by
    intro n
    induction n with
    | zero => intro i h1 h2; omega
    | succ n ih =>
      intro i h1 h2
      have hT' : xt_T (xf_rst h k kc m i) k kc := hT
      have hn' : (xf_rst h k kc m i).2.2 k 0 = nI m := by simp [va_up, hne, upd]
      refine xm_step rfl rfl ?_
      refine xm_step rfl rfl ?_
      refine xm_getI rfl hT.1 rfl ?_
      refine xm_if rfl rfl (fun hc => ?_) (fun hc => ?_)
      · have hc : (xf_rst h k kc m i).2.2 k 0 ≤ nI i := hc
        rw [hn'] at hc
        have e : i = m := by have := (nI_leI (by omega) (by omega)).mp hc; omega
        subst e
        exact xm_retV rfl rfl (Nat.le_refl _) (Nat.le_refl _) ⟨rfl, rfl⟩
      · have hc : ¬ (xf_rst h k kc m i).2.2 k 0 ≤ nI i := hc
        rw [hn'] at hc
        have hlt : i < m := by
          rcases Nat.lt_or_ge i m with q | q
          · exact q
          · exact absurd (nI_le q (by omega)) hc
        refine xm_step rfl rfl ?_
        refine xm_step rfl rfl ?_
        refine xm_step rfl rfl ?_
        refine xm_step rfl rfl ?_
        refine xm_callV (As := [.int (nI 0), .int (nI i), .int (nI i)]) (rest := []) (d' := d) (mc' := 0) (ms' := 0) (ci := 0) rfl hT.1 rfl (c_put hT' hn' hm8 (by omega) hlt (nI i)) rfl (Nat.le_refl _) (Nat.le_refl _) (Nat.le_refl _) (Nat.le_of_ble_eq_true rfl) (fun r g1 hp => ?_)
        obtain ⟨rfl, rfl⟩ := hp
        refine xm_step rfl rfl ?_
        refine xm_step rfl rfl ?_
        refine xm_step rfl rfl ?_
        refine xm_step rfl rfl ?_
        refine xm_callV (As := [.int (nI i), .int (nI 0), .int (nI i)]) (rest := []) (d' := d) (mc' := 0) (ms' := 0) (ci := 0) rfl hT.1 rfl (c_put (h := xm_sm (xf_rst h k kc m i) kc (8 * 0 + i) (nI i)) (n := m) (i := i) (j := 0) hT' (by simp [va_up, hne, upd]) hm8 hlt (by omega) (nI i)) rfl (Nat.le_refl _) (Nat.le_refl _) (Nat.le_refl _) (Nat.le_of_ble_eq_true rfl) (fun r g1 hp => ?_)
        obtain ⟨rfl, rfl⟩ := hp
        refine xm_step rfl rfl ?_
        refine xm_step rfl rfl ?_
        have IH := ih (i + 1) (by omega) (by omega)
        rw [nI_succ] at IH
        have eh : xm_sm (xm_sm (xf_rst h k kc m i) kc (8 * 0 + i) (nI i)) kc (8 * i + 0) (nI i) = xf_rst h k kc m (i + 1) := by
          simp only [xm_sm, xf_rst, Prod.mk.injEq, true_and]
          funext q
          unfold va_up
          by_cases e : q = kc
          · subst e
            simp only [if_true]
            rw [← xf_rowS i (by omega)]
            simp
          · simp [e]
        rw [eh]
        exact IH
  have R := L (m + 1) 0 (by omega) (by omega)
  have e0 : xf_fill (xm_sm h k 0 (nI m)) kc 64 (-1) = xf_rst h k kc m 0 := by
    simp only [xm_sm, xf_rst, xf_fill, Prod.mk.injEq, true_and]
    funext q
    unfold va_up
    by_cases e : q = kc
    · subst e
      simp only [if_true]
      funext j
      have hk : ¬ q = k := fun z => hne z.symm
      simp [xf_row, hk]
    · simp [e]
  exact e0 ▸ R
/-! the constructors; the heap of the two new objects -/
def xf_T (h : xm_H) (k n : Nat) : xm_H := xf_rst (xm_sr (xm_psh h (0, 64)) k 1 (some n)) k n 1 1
theorem xf_app {sh : List (Nat × Nat)} {k : Nat} {q q2 : Nat × Nat} (h : sh[k]? = some q) : (sh ++ [q2])[k]? = some q := by
  rw [List.getElem?_append_left (List.getElem?_eq_some_iff.mp h).1]
  exact h
theorem c_Table {G : xm_G} {l : Launch} {d : Nat} {h : xm_H} {k n : Nat} (hk : h.1[k]? = some (3, 2)) (hn : h.1.length = n) : xm_C G l xi_Table_init (d + 2) 1 64 [.ref k] h (fun r h' => r = none ∧ h' = xf_T h k n) := by
  subst hn
  refine xm_enter' (by decide) rfl (Nat.le_of_ble_eq_true rfl) rfl ?_
  refine xm_step rfl rfl ?_
  refine xm_objI (b := 8) rfl (by omega) (Nat.le_of_ble_eq_true rfl) ?_
  refine xm_step rfl rfl ?_
  refine xm_step rfl rfl ?_
  refine xm_newI (N := 64) rfl (by decide) (by decide) (by decide) (by decide) (by decide) ?_
  refine xm_putR (N := 2) rfl (xf_app hk) rfl (fun q => ⟨rfl, rfl⟩) ?_
  refine xm_step rfl rfl ?_
  refine xm_step rfl rfl ?_
  have hT : xt_T (xm_sr (xm_psh h (0, 64)) k 1 (some h.1.length)) k h.1.length := ⟨xf_app hk, by simp [va_up], by simp⟩
  refine xm_callV (As := [.int (nI 1)]) (rest := []) (d' := d + 1) (mc' := 0) (ms' := 0) (ci := 0) rfl hT.1 rfl (c_restart (m := 1) hT (by decide) (by decide)) rfl (Nat.le_refl _) (by decide) (by decide) (Nat.le_of_ble_eq_true rfl) (fun r g1 hp => ?_)
  obtain ⟨rfl, rfl⟩ := hp
  exact xm_retV rfl rfl (by decide) (by decide) ⟨rfl, rfl⟩
def hx0 : xm_H := xm_psh xm_H0 (7, 5)
def hx1 : xm_H := xm_sr (xm_psh hx0 (2, 4)) 0 0 (some 1)
def hx2 : xm_H := xm_sr (xf_T (xm_psh hx1 (3, 2)) 2 3) 1 0 (some 2)
def hx3 : xm_H := xm_sr (xf_T (xm_psh hx2 (3, 2)) 4 5) 1 1 (some 4)
def hx4 : xm_H := xm_sr (xf_T (xm_psh hx3 (3, 2)) 6 7) 1 2 (some 6)
def hx5 : xm_H := xm_sr (xf_T (xm_psh hx4 (3, 2)) 8 9) 1 3 (some 8)
def hx6 : xm_H := xm_sr (xf_T (xm_psh hx5 (3, 2)) 10 11) 0 1 (some 10)
def hx7 : xm_H := xm_psh hx6 (4, 8)
def hx7a : xm_H := xm_sr (xf_T (xm_psh hx7 (3, 2)) 13 14) 12 0 (some 13)
def hx7b : xm_H := xm_sr (xf_T (xm_psh hx7a (3, 2)) 15 16) 12 1 (some 15)
def hx7c : xm_H := xm_sr (xm_psh hx7b (0, 25)) 12 2 (some 17)
def hx7d : xm_H := xm_sr (xm_psh hx7c (0, 8)) 12 4 (some 18)
def hx8 : xm_H := xm_sr (xm_psh hx7d (0, 8)) 12 5 (some 19)
def hx9 : xm_H := xm_sr hx8 0 2 (some 12)
def hx10 : xm_H := xm_psh hx9 (5, 7)
def hx10a : xm_H := xm_sr (xm_psh hx10 (0, 343)) 20 1 (some 21)
def hx10b : xm_H := xm_sr (xm_psh hx10a (0, 343)) 20 2 (some 22)
def hx10c : xm_H := xm_sr (xm_psh hx10b (0, 7)) 20 3 (some 23)
def hx10d : xm_H := xm_sr (xm_psh hx10c (0, 49)) 20 4 (some 24)
def hx11 : xm_H := xm_sr (xm_psh hx10d (0, 7)) 20 6 (some 25)
def hx12 : xm_H := xm_sr hx11 0 3 (some 20)
def hx13 : xm_H := xm_psh hx12 (6, 5)
def hx13a : xm_H := xm_sr (xf_T (xm_psh hx13 (3, 2)) 27 28) 26 0 (some 27)
def hx13b : xm_H := xm_sr (xm_psh hx13a (0, 8)) 26 1 (some 29)
def hx13c : xm_H := xm_sr (xm_psh hx13b (0, 8)) 26 2 (some 30)
def hx14 : xm_H := xm_sr (xm_psh hx13c (0, 8)) 26 3 (some 31)
def hx15 : xm_H := xm_sr hx14 0 4 (some 26)
def hx16 : xm_H := xm_psh hx15 (8, 7)
def hx16a : xm_H := xm_sr (xm_psh hx16 (0, 6)) 32 0 (some 33)
def hx16b : xm_H := xm_sr (xm_psh hx16a (0, 384)) 32 1 (some 34)
def hx16c : xm_H := xm_sr (xm_psh hx16b (0, 64)) 32 3 (some 35)
def hx16d : xm_H := xm_sr (xm_psh hx16c (0, 8)) 32 4 (some 36)
def hx16e : xm_H := xm_sr (xm_psh hx16d (0, 35280)) 32 5 (some 37)
def hx16f : xm_H := xm_sr (xm_psh hx16e (1, 5040)) 32 6 (some 38)
def hx17 : xm_H := xm_sm (xm_sm (xm_sm (xm_sm (xm_sm (xm_sm hx16f 33 0 1) 33 1 1) 33 2 1) 33 3 1) 33 4 1) 33 5 1
theorem c_Endings {G : xm_G} {l : Launch} {d : Nat} : xm_C G l xi_Endings_init (d + 3) 7 173 [.ref 12] hx7 (fun r h' => r = none ∧ h' = hx8) := by
  refine xm_enter' (by decide) rfl (Nat.le_of_ble_eq_true rfl) rfl ?_
  refine xm_step rfl rfl ?_
  refine xm_objI (b := 8) rfl (by omega) (Nat.le_of_ble_eq_true rfl) ?_
  refine xm_step rfl rfl ?_
  refine xm_new (q := ("LatinLaws$Table", xm_T0, 2)) rfl rfl (by decide) (by decide) ?_
  refine xm_step rfl rfl ?_
  refine xm_callI (As := []) (k := 13) (rest := [.ref 13, .ref 12]) (d' := d + 2) (mc' := 1) (ms' := 64) rfl (c_Table (k := 13) (n := 14) (h := xm_psh hx7 (3, 2)) rfl rfl) rfl (by omega) (by decide) (by decide) (Nat.le_of_ble_eq_true rfl) (fun r g1 hp => ?_)
  obtain ⟨rfl, rfl⟩ := hp
  refine xm_putR (N := 8) (r := 13) rfl rfl rfl (fun q => ⟨rfl, rfl⟩) ?_
  refine xm_step rfl rfl ?_
  refine xm_new (q := ("LatinLaws$Table", xm_T0, 2)) rfl rfl (by decide) (by decide) ?_
  refine xm_step rfl rfl ?_
  refine xm_callI (As := []) (k := 15) (rest := [.ref 15, .ref 12]) (d' := d + 2) (mc' := 1) (ms' := 64) rfl (c_Table (k := 15) (n := 16) (h := xm_psh hx7a (3, 2)) rfl rfl) rfl (by omega) (by decide) (by decide) (Nat.le_of_ble_eq_true rfl) (fun r g1 hp => ?_)
  obtain ⟨rfl, rfl⟩ := hp
  refine xm_putR (N := 8) (r := 15) rfl rfl rfl (fun q => ⟨rfl, rfl⟩) ?_
  refine xm_step rfl rfl ?_
  refine xm_step rfl rfl ?_
  refine xm_newI (N := 25) rfl (by decide) (by decide) (by decide) (by decide) (by decide) ?_
  refine xm_putR (N := 8) (r := 17) rfl rfl rfl (fun q => ⟨rfl, rfl⟩) ?_
  refine xm_step rfl rfl ?_
  refine xm_step rfl rfl ?_
  refine xm_newI (N := 8) rfl (by decide) (by decide) (by decide) (by decide) (by decide) ?_
  refine xm_putR (N := 8) (r := 18) rfl rfl rfl (fun q => ⟨rfl, rfl⟩) ?_
  refine xm_step rfl rfl ?_
  refine xm_step rfl rfl ?_
  refine xm_newI (N := 8) rfl (by decide) (by decide) (by decide) (by decide) (by decide) ?_
  refine xm_putR (N := 8) (r := 19) rfl rfl rfl (fun q => ⟨rfl, rfl⟩) ?_
  exact xm_retV rfl rfl (by decide) (by decide) ⟨rfl, rfl⟩
theorem c_Turns {G : xm_G} {l : Launch} {d : Nat} : xm_C G l xi_Turns_init (d + 1) 5 749 [.ref 20] hx10 (fun r h' => r = none ∧ h' = hx11) := by
  refine xm_enter' (by decide) rfl (Nat.le_of_ble_eq_true rfl) rfl ?_
  refine xm_step rfl rfl ?_
  refine xm_objI (b := 8) rfl (by omega) (Nat.le_of_ble_eq_true rfl) ?_
  refine xm_step rfl rfl ?_
  refine xm_step rfl rfl ?_
  refine xm_newI (N := 343) rfl (by decide) (by decide) (by decide) (by decide) (by decide) ?_
  refine xm_putR (N := 7) (r := 21) rfl rfl rfl (fun q => ⟨rfl, rfl⟩) ?_
  refine xm_step rfl rfl ?_
  refine xm_step rfl rfl ?_
  refine xm_newI (N := 343) rfl (by decide) (by decide) (by decide) (by decide) (by decide) ?_
  refine xm_putR (N := 7) (r := 22) rfl rfl rfl (fun q => ⟨rfl, rfl⟩) ?_
  refine xm_step rfl rfl ?_
  refine xm_step rfl rfl ?_
  refine xm_newI (N := 7) rfl (by decide) (by decide) (by decide) (by decide) (by decide) ?_
  refine xm_putR (N := 7) (r := 23) rfl rfl rfl (fun q => ⟨rfl, rfl⟩) ?_
  refine xm_step rfl rfl ?_
  refine xm_step rfl rfl ?_
  refine xm_newI (N := 49) rfl (by decide) (by decide) (by decide) (by decide) (by decide) ?_
  refine xm_putR (N := 7) (r := 24) rfl rfl rfl (fun q => ⟨rfl, rfl⟩) ?_
  refine xm_step rfl rfl ?_
  refine xm_step rfl rfl ?_
  refine xm_newI (N := 7) rfl (by decide) (by decide) (by decide) (by decide) (by decide) ?_
  refine xm_putR (N := 7) (r := 25) rfl rfl rfl (fun q => ⟨rfl, rfl⟩) ?_
  exact xm_retV rfl rfl (by decide) (by decide) ⟨rfl, rfl⟩
theorem c_Renamings {G : xm_G} {l : Launch} {d : Nat} : xm_C G l xi_Renamings_init (d + 3) 5 90 [.ref 26] hx13 (fun r h' => r = none ∧ h' = hx14) := by
  refine xm_enter' (by decide) rfl (Nat.le_of_ble_eq_true rfl) rfl ?_
  refine xm_step rfl rfl ?_
  refine xm_objI (b := 8) rfl (by omega) (Nat.le_of_ble_eq_true rfl) ?_
  refine xm_step rfl rfl ?_
  refine xm_new (q := ("LatinLaws$Table", xm_T0, 2)) rfl rfl (by decide) (by decide) ?_
  refine xm_step rfl rfl ?_
  refine xm_callI (As := []) (k := 27) (rest := [.ref 27, .ref 26]) (d' := d + 2) (mc' := 1) (ms' := 64) rfl (c_Table (k := 27) (n := 28) (h := xm_psh hx13 (3, 2)) rfl rfl) rfl (by omega) (by decide) (by decide) (Nat.le_of_ble_eq_true rfl) (fun r g1 hp => ?_)
  obtain ⟨rfl, rfl⟩ := hp
  refine xm_putR (N := 5) (r := 27) rfl rfl rfl (fun q => ⟨rfl, rfl⟩) ?_
  refine xm_step rfl rfl ?_
  refine xm_step rfl rfl ?_
  refine xm_newI (N := 8) rfl (by decide) (by decide) (by decide) (by decide) (by decide) ?_
  refine xm_putR (N := 5) (r := 29) rfl rfl rfl (fun q => ⟨rfl, rfl⟩) ?_
  refine xm_step rfl rfl ?_
  refine xm_step rfl rfl ?_
  refine xm_newI (N := 8) rfl (by decide) (by decide) (by decide) (by decide) (by decide) ?_
  refine xm_putR (N := 5) (r := 30) rfl rfl rfl (fun q => ⟨rfl, rfl⟩) ?_
  refine xm_step rfl rfl ?_
  refine xm_step rfl rfl ?_
  refine xm_newI (N := 8) rfl (by decide) (by decide) (by decide) (by decide) (by decide) ?_
  refine xm_putR (N := 5) (r := 31) rfl rfl rfl (fun q => ⟨rfl, rfl⟩) ?_
  exact xm_retV rfl rfl (by decide) (by decide) ⟨rfl, rfl⟩
theorem c_Latin {G : xm_G} {l : Launch} {d : Nat} : xm_C G l xi_L_init (d + 4) 31 1366 [.ref 0] hx0 (fun r h' => r = none ∧ h' = hx15) := by
  refine xm_enter' (by decide) rfl (Nat.le_of_ble_eq_true rfl) rfl ?_
  refine xm_step rfl rfl ?_
  refine xm_objI (b := 8) rfl (by omega) (Nat.le_of_ble_eq_true rfl) ?_
  refine xm_step rfl rfl ?_
  refine xm_step rfl rfl ?_
  refine xm_newQ (N := 4) rfl (by decide) (by decide) (by decide) (by decide) (by decide) ?_
  refine xm_putR (N := 5) (r := 1) rfl rfl rfl (fun q => ⟨rfl, rfl⟩) ?_
  refine xm_step rfl rfl ?_
  refine xm_step rfl rfl ?_
  refine xm_step rfl rfl ?_
  refine xm_step rfl rfl ?_
  refine xm_if rfl rfl (fun hc => absurd ((xe_cd_iff _ _ _).mpr hc) (by decide)) (fun _ => ?_)
  refine xm_step rfl rfl ?_
  refine xm_getR (N := 5) (r := 1) rfl rfl rfl rfl ?_
  refine xm_step rfl rfl ?_
  refine xm_new (q := ("LatinLaws$Table", xm_T0, 2)) rfl rfl (by decide) (by decide) ?_
  refine xm_step rfl rfl ?_
  refine xm_callI (As := []) (k := 2) (rest := [.ref 2, .int 0, .ref 1]) (d' := d + 3) (mc' := 1) (ms' := 64) rfl (c_Table (k := 2) (n := 3) (h := xm_psh hx1 (3, 2)) rfl rfl) rfl (by omega) (by decide) (by decide) (Nat.le_of_ble_eq_true rfl) (fun r g1 hp => ?_)
  obtain ⟨rfl, rfl⟩ := hp
  refine xm_aast (k := 1) (N := 4) (N2 := 2) (r := 2) (i := 0) rfl rfl rfl (by unfold vp_in; decide) ?_
  refine xm_step rfl rfl ?_
  refine xm_step rfl rfl ?_
  refine xm_step rfl rfl ?_
  refine xm_step rfl rfl ?_
  refine xm_if rfl rfl (fun hc => absurd ((xe_cd_iff _ _ _).mpr hc) (by decide)) (fun _ => ?_)
  refine xm_step rfl rfl ?_
  refine xm_getR (N := 5) (r := 1) rfl rfl rfl rfl ?_
  refine xm_step rfl rfl ?_
  refine xm_new (q := ("LatinLaws$Table", xm_T0, 2)) rfl rfl (by decide) (by decide) ?_
  refine xm_step rfl rfl ?_
  refine xm_callI (As := []) (k := 4) (rest := [.ref 4, .int 1, .ref 1]) (d' := d + 3) (mc' := 1) (ms' := 64) rfl (c_Table (k := 4) (n := 5) (h := xm_psh hx2 (3, 2)) rfl rfl) rfl (by omega) (by decide) (by decide) (Nat.le_of_ble_eq_true rfl) (fun r g1 hp => ?_)
  obtain ⟨rfl, rfl⟩ := hp
  refine xm_aast (k := 1) (N := 4) (N2 := 2) (r := 4) (i := 1) rfl rfl rfl (by unfold vp_in; decide) ?_
  refine xm_step rfl rfl ?_
  refine xm_step rfl rfl ?_
  refine xm_step rfl rfl ?_
  refine xm_step rfl rfl ?_
  refine xm_if rfl rfl (fun hc => absurd ((xe_cd_iff _ _ _).mpr hc) (by decide)) (fun _ => ?_)
  refine xm_step rfl rfl ?_
  refine xm_getR (N := 5) (r := 1) rfl rfl rfl rfl ?_
  refine xm_step rfl rfl ?_
  refine xm_new (q := ("LatinLaws$Table", xm_T0, 2)) rfl rfl (by decide) (by decide) ?_
  refine xm_step rfl rfl ?_
  refine xm_callI (As := []) (k := 6) (rest := [.ref 6, .int 2, .ref 1]) (d' := d + 3) (mc' := 1) (ms' := 64) rfl (c_Table (k := 6) (n := 7) (h := xm_psh hx3 (3, 2)) rfl rfl) rfl (by omega) (by decide) (by decide) (Nat.le_of_ble_eq_true rfl) (fun r g1 hp => ?_)
  obtain ⟨rfl, rfl⟩ := hp
  refine xm_aast (k := 1) (N := 4) (N2 := 2) (r := 6) (i := 2) rfl rfl rfl (by unfold vp_in; decide) ?_
  refine xm_step rfl rfl ?_
  refine xm_step rfl rfl ?_
  refine xm_step rfl rfl ?_
  refine xm_step rfl rfl ?_
  refine xm_if rfl rfl (fun hc => absurd ((xe_cd_iff _ _ _).mpr hc) (by decide)) (fun _ => ?_)
  refine xm_step rfl rfl ?_
  refine xm_getR (N := 5) (r := 1) rfl rfl rfl rfl ?_
  refine xm_step rfl rfl ?_
  refine xm_new (q := ("LatinLaws$Table", xm_T0, 2)) rfl rfl (by decide) (by decide) ?_
  refine xm_step rfl rfl ?_
  refine xm_callI (As := []) (k := 8) (rest := [.ref 8, .int 3, .ref 1]) (d' := d + 3) (mc' := 1) (ms' := 64) rfl (c_Table (k := 8) (n := 9) (h := xm_psh hx4 (3, 2)) rfl rfl) rfl (by omega) (by decide) (by decide) (Nat.le_of_ble_eq_true rfl) (fun r g1 hp => ?_)
  obtain ⟨rfl, rfl⟩ := hp
  refine xm_aast (k := 1) (N := 4) (N2 := 2) (r := 8) (i := 3) rfl rfl rfl (by unfold vp_in; decide) ?_
  refine xm_step rfl rfl ?_
  refine xm_step rfl rfl ?_
  refine xm_step rfl rfl ?_
  refine xm_step rfl rfl ?_
  refine xm_if rfl rfl (fun _ => ?_) (fun hc => absurd ((xe_cd_iff _ _ _).mp (by decide)) hc)
  refine xm_step rfl rfl ?_
  refine xm_new (q := ("LatinLaws$Table", xm_T0, 2)) rfl rfl (by decide) (by decide) ?_
  refine xm_step rfl rfl ?_
  refine xm_callI (As := []) (k := 10) (rest := [.ref 10, .ref 0]) (d' := d + 3) (mc' := 1) (ms' := 64) rfl (c_Table (k := 10) (n := 11) (h := xm_psh hx5 (3, 2)) rfl rfl) rfl (by omega) (by decide) (by decide) (Nat.le_of_ble_eq_true rfl) (fun r g1 hp => ?_)
  obtain ⟨rfl, rfl⟩ := hp
  refine xm_putR (N := 5) (r := 10) rfl rfl rfl (fun q => ⟨rfl, rfl⟩) ?_
  refine xm_step rfl rfl ?_
  refine xm_new (q := ("LatinLaws$Endings", xm_T1, 8)) rfl rfl (by decide) (by decide) ?_
  refine xm_step rfl rfl ?_
  refine xm_callI (As := []) (k := 12) (rest := [.ref 12, .ref 0]) (d' := d + 3) (mc' := 7) (ms' := 173) rfl (c_Endings (d := d)) rfl (by omega) (by decide) (by decide) (Nat.le_of_ble_eq_true rfl) (fun r g1 hp => ?_)
  obtain ⟨rfl, rfl⟩ := hp
  refine xm_putR (N := 5) (r := 12) rfl rfl rfl (fun q => ⟨rfl, rfl⟩) ?_
  refine xm_step rfl rfl ?_
  refine xm_new (q := ("LatinLaws$Turns", xm_T2, 7)) rfl rfl (by decide) (by decide) ?_
  refine xm_step rfl rfl ?_
  refine xm_callI (As := []) (k := 20) (rest := [.ref 20, .ref 0]) (d' := d + 3) (mc' := 5) (ms' := 749) rfl (c_Turns (d := d + 2)) rfl (by omega) (by decide) (by decide) (Nat.le_of_ble_eq_true rfl) (fun r g1 hp => ?_)
  obtain ⟨rfl, rfl⟩ := hp
  refine xm_putR (N := 5) (r := 20) rfl rfl rfl (fun q => ⟨rfl, rfl⟩) ?_
  refine xm_step rfl rfl ?_
  refine xm_new (q := ("LatinLaws$Renamings", xm_T3, 5)) rfl rfl (by decide) (by decide) ?_
  refine xm_step rfl rfl ?_
  refine xm_callI (As := []) (k := 26) (rest := [.ref 26, .ref 0]) (d' := d + 3) (mc' := 5) (ms' := 90) rfl (c_Renamings (d := d)) rfl (by omega) (by decide) (by decide) (Nat.le_of_ble_eq_true rfl) (fun r g1 hp => ?_)
  obtain ⟨rfl, rfl⟩ := hp
  refine xm_putR (N := 5) (r := 26) rfl rfl rfl (fun q => ⟨rfl, rfl⟩) ?_
  exact xm_retV rfl rfl (by decide) (by decide) ⟨rfl, rfl⟩
theorem c_Model {G : xm_G} {l : Launch} {d : Nat} : xm_C G l xi_M_init (d + 1) 6 40782 [.ref 32] hx16 (fun r h' => r = none ∧ h' = hx17) := by
  refine xm_enter' (by decide) rfl (Nat.le_of_ble_eq_true rfl) rfl ?_
  refine xm_step rfl rfl ?_
  refine xm_objI (b := 8) rfl (by omega) (Nat.le_of_ble_eq_true rfl) ?_
  refine xm_step rfl rfl ?_
  refine xm_step rfl rfl ?_
  refine xm_newI (N := 6) rfl (by decide) (by decide) (by decide) (by decide) (by decide) ?_
  refine xm_putR (N := 7) (r := 33) rfl rfl rfl (fun q => ⟨rfl, rfl⟩) ?_
  refine xm_step rfl rfl ?_
  refine xm_step rfl rfl ?_
  refine xm_newI (N := 384) rfl (by decide) (by decide) (by decide) (by decide) (by decide) ?_
  refine xm_putR (N := 7) (r := 34) rfl rfl rfl (fun q => ⟨rfl, rfl⟩) ?_
  refine xm_step rfl rfl ?_
  refine xm_step rfl rfl ?_
  refine xm_newI (N := 64) rfl (by decide) (by decide) (by decide) (by decide) (by decide) ?_
  refine xm_putR (N := 7) (r := 35) rfl rfl rfl (fun q => ⟨rfl, rfl⟩) ?_
  refine xm_step rfl rfl ?_
  refine xm_step rfl rfl ?_
  refine xm_newI (N := 8) rfl (by decide) (by decide) (by decide) (by decide) (by decide) ?_
  refine xm_putR (N := 7) (r := 36) rfl rfl rfl (fun q => ⟨rfl, rfl⟩) ?_
  refine xm_step rfl rfl ?_
  refine xm_step rfl rfl ?_
  refine xm_newI (N := 35280) rfl (by decide) (by decide) (by decide) (by decide) (by decide) ?_
  refine xm_putR (N := 7) (r := 37) rfl rfl rfl (fun q => ⟨rfl, rfl⟩) ?_
  refine xm_step rfl rfl ?_
  refine xm_step rfl rfl ?_
  refine xm_newZ (N := 5040) rfl (by decide) (by decide) (by decide) (by decide) (by decide) ?_
  refine xm_putR (N := 7) (r := 38) rfl rfl rfl (fun q => ⟨rfl, rfl⟩) ?_
  refine xm_step rfl rfl ?_
  refine xm_step rfl rfl ?_
  refine xm_step rfl rfl ?_
  refine xm_step rfl rfl ?_
  refine xm_if rfl rfl (fun hc => absurd ((xe_cd_iff _ _ _).mpr hc) (by decide)) (fun _ => ?_)
  refine xm_step rfl rfl ?_
  refine xm_getR (N := 7) (r := 33) rfl rfl rfl rfl ?_
  refine xm_step rfl rfl ?_
  refine xm_step rfl rfl ?_
  refine xm_iast (k := 33) (N := 6) (i := 0) rfl rfl (by unfold vp_in; decide) ?_
  refine xm_step rfl rfl ?_
  refine xm_step rfl rfl ?_
  refine xm_step rfl rfl ?_
  refine xm_step rfl rfl ?_
  refine xm_if rfl rfl (fun hc => absurd ((xe_cd_iff _ _ _).mpr hc) (by decide)) (fun _ => ?_)
  refine xm_step rfl rfl ?_
  refine xm_getR (N := 7) (r := 33) rfl rfl rfl rfl ?_
  refine xm_step rfl rfl ?_
  refine xm_step rfl rfl ?_
  refine xm_iast (k := 33) (N := 6) (i := 1) rfl rfl (by unfold vp_in; decide) ?_
  refine xm_step rfl rfl ?_
  refine xm_step rfl rfl ?_
  refine xm_step rfl rfl ?_
  refine xm_step rfl rfl ?_
  refine xm_if rfl rfl (fun hc => absurd ((xe_cd_iff _ _ _).mpr hc) (by decide)) (fun _ => ?_)
  refine xm_step rfl rfl ?_
  refine xm_getR (N := 7) (r := 33) rfl rfl rfl rfl ?_
  refine xm_step rfl rfl ?_
  refine xm_step rfl rfl ?_
  refine xm_iast (k := 33) (N := 6) (i := 2) rfl rfl (by unfold vp_in; decide) ?_
  refine xm_step rfl rfl ?_
  refine xm_step rfl rfl ?_
  refine xm_step rfl rfl ?_
  refine xm_step rfl rfl ?_
  refine xm_if rfl rfl (fun hc => absurd ((xe_cd_iff _ _ _).mpr hc) (by decide)) (fun _ => ?_)
  refine xm_step rfl rfl ?_
  refine xm_getR (N := 7) (r := 33) rfl rfl rfl rfl ?_
  refine xm_step rfl rfl ?_
  refine xm_step rfl rfl ?_
  refine xm_iast (k := 33) (N := 6) (i := 3) rfl rfl (by unfold vp_in; decide) ?_
  refine xm_step rfl rfl ?_
  refine xm_step rfl rfl ?_
  refine xm_step rfl rfl ?_
  refine xm_step rfl rfl ?_
  refine xm_if rfl rfl (fun hc => absurd ((xe_cd_iff _ _ _).mpr hc) (by decide)) (fun _ => ?_)
  refine xm_step rfl rfl ?_
  refine xm_getR (N := 7) (r := 33) rfl rfl rfl rfl ?_
  refine xm_step rfl rfl ?_
  refine xm_step rfl rfl ?_
  refine xm_iast (k := 33) (N := 6) (i := 4) rfl rfl (by unfold vp_in; decide) ?_
  refine xm_step rfl rfl ?_
  refine xm_step rfl rfl ?_
  refine xm_step rfl rfl ?_
  refine xm_step rfl rfl ?_
  refine xm_if rfl rfl (fun hc => absurd ((xe_cd_iff _ _ _).mpr hc) (by decide)) (fun _ => ?_)
  refine xm_step rfl rfl ?_
  refine xm_getR (N := 7) (r := 33) rfl rfl rfl rfl ?_
  refine xm_step rfl rfl ?_
  refine xm_step rfl rfl ?_
  refine xm_iast (k := 33) (N := 6) (i := 5) rfl rfl (by unfold vp_in; decide) ?_
  refine xm_step rfl rfl ?_
  refine xm_step rfl rfl ?_
  refine xm_step rfl rfl ?_
  refine xm_step rfl rfl ?_
  refine xm_if rfl rfl (fun _ => ?_) (fun hc => absurd ((xe_cd_iff _ _ _).mp (by decide)) hc)
  exact xm_retV rfl rfl (by decide) (by decide) ⟨rfl, rfl⟩
/-! the heap of the two new objects: its shape, its references, its ints -/
def xp_rf : Nat → Nat → Option Nat := hx17.2.1
def xp_mm : Nat → Nat → Int32 := hx17.2.2
def xp_sh : List (Nat × Nat) := [(7, 5), (2, 4), (3, 2), (0, 64), (3, 2), (0, 64), (3, 2), (0, 64), (3, 2), (0, 64), (3, 2), (0, 64), (4, 8), (3, 2), (0, 64), (3, 2), (0, 64), (0, 25), (0, 8), (0, 8), (5, 7), (0, 343), (0, 343), (0, 7), (0, 49), (0, 7), (6, 5), (3, 2), (0, 64), (0, 8), (0, 8), (0, 8), (8, 7), (0, 6), (0, 384), (0, 64), (0, 8), (0, 35280), (1, 5040)]
theorem xp_eq : hx17 = (xp_sh, xp_rf, xp_mm) := rfl
