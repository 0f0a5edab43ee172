/-! EVALUATION: rows to reckon with the functions -/
def zb (x : Bool) : Int32 := bif x then nI 1 else nI 0
theorem zb_ne (x : Bool) : xe_cd .ne (zb x) 0 = x := by cases x <;> decide
theorem zb_eq (x : Bool) : xe_cd .eq (zb x) 0 = !x := by cases x <;> decide
theorem zb_eq1 (x : Bool) : xe_cd .eq (zb x) (nI 1) = x := by cases x <;> decide
theorem zb_01 (x : Bool) : (zb x = 0 ∨ zb x = 1) = True := by cases x <;> simp [zb] <;> decide
theorem z_00 : (nI 0 = 0 ∨ nI 0 = 1) = True := by simp [nI_0]
theorem z_01 : (nI 1 = 0 ∨ nI 1 = 1) = True := eq_true (Or.inr rfl)
theorem z_11 : (nI 1 = 1) = True := eq_true rfl
theorem zb_T : zb true = nI 1 := rfl
theorem zb_F : zb false = nI 0 := rfl
theorem zb_f (x : Bool) : (bif x then nI 1 else nI 0) = zb x := rfl
theorem zand_e (a b : zB) (ls : zL) (M : zM) : zand a b ls M = (a ls M).bind (fun r => bif r.1 then b ls r.2 else some (false, r.2)) := by
  unfold zand
  cases a ls M with
  | none => rfl
  | some r =>
    obtain ⟨x, M1⟩ := r
    cases x <;> rfl
theorem zor_e (a b : zB) (ls : zL) (M : zM) : zor a b ls M = (a ls M).bind (fun r => bif r.1 then some (true, r.2) else b ls r.2) := by
  unfold zor
  cases a ls M with
  | none => rfl
  | some r =>
    obtain ⟨x, M1⟩ := r
    cases x <;> rfl
theorem zite_e (c : zB) (a b : zE) (ls : zL) (M : zM) : zite c a b ls M = (c ls M).bind (fun r => bif r.1 then a ls r.2 else b ls r.2) := by
  unfold zite
  cases c ls M with
  | none => rfl
  | some r =>
    obtain ⟨x, M1⟩ := r
    cases x <;> rfl
theorem zbite_e (c a b : zB) (ls : zL) (M : zM) : zbite c a b ls M = (c ls M).bind (fun r => bif r.1 then a ls r.2 else b ls r.2) := by
  unfold zbite
  cases c ls M with
  | none => rfl
  | some r =>
    obtain ⟨x, M1⟩ := r
    cases x <;> rfl
theorem zif_e (c : zB) (a b : zS) (ls : zL) (M : zM) : zif c a b ls M = (c ls M).bind (fun r => bif r.1 then a ls r.2 else b ls r.2) := by
  unfold zif
  cases c ls M with
  | none => rfl
  | some r =>
    obtain ⟨x, M1⟩ := r
    cases x <;> rfl
theorem znot_e (a : zB) (ls : zL) (M : zM) : znot a ls M = (a ls M).bind (fun r => some (!r.1, r.2)) := by
  unfold znot
  cases a ls M with
  | none => rfl
  | some r => rfl
theorem zbm1 (x y : Bool) (M : zM) : (bif x then some (true, M) else some (y, M)) = some (x || y, M) := by cases x <;> rfl
theorem zbm2 (x y : Bool) (M : zM) : (bif x then some (y, M) else some (false, M)) = some (x && y, M) := by cases x <;> rfl
theorem zbm5 (x y : Bool) (M : zM) : (bif x then some (false, M) else some (y, M)) = some (!x && y, M) := by cases x <;> rfl
theorem zbm6 (x y : Bool) (M : zM) : (bif x then some (y, M) else some (true, M)) = some (!x || y, M) := by cases x <;> cases y <;> rfl
theorem zbm3 (x : Bool) (v w : Value) (M : zM) : (bif x then some (v, M) else some (w, M)) = some (bif x then v else w, M) := by cases x <;> rfl
theorem zbm4 (x : Bool) (v w : Int32) : (bif x then Value.int v else Value.int w) = Value.int (bif x then v else w) := by cases x <;> rfl
theorem zc_lt {a b : Nat} (ha : a < 2 ^ 31) (hb : b < 2 ^ 31) : xe_cd .lt (nI a) (nI b) = decide (a < b) := by
  show decide (nI a < nI b) = _
  exact decide_eq_decide.mpr (nI_ltI ha hb)
theorem zc_gt {a b : Nat} (ha : a < 2 ^ 31) (hb : b < 2 ^ 31) : xe_cd .gt (nI a) (nI b) = decide (b < a) := by
  show decide (nI b < nI a) = _
  exact decide_eq_decide.mpr (nI_ltI hb ha)
theorem zc_le {a b : Nat} (ha : a < 2 ^ 31) (hb : b < 2 ^ 31) : xe_cd .le (nI a) (nI b) = decide (a ≤ b) := by
  show decide (nI a ≤ nI b) = _
  exact decide_eq_decide.mpr (nI_leI ha hb)
theorem zc_ge {a b : Nat} (ha : a < 2 ^ 31) (hb : b < 2 ^ 31) : xe_cd .ge (nI a) (nI b) = decide (b ≤ a) := by
  show decide (nI b ≤ nI a) = _
  exact decide_eq_decide.mpr (nI_leI hb ha)
theorem zc_eq {a b : Nat} (ha : a < 2 ^ 31) (hb : b < 2 ^ 31) : xe_cd .eq (nI a) (nI b) = decide (a = b) := by
  show decide (nI a = nI b) = _
  exact decide_eq_decide.mpr (nI_eq ha hb)
theorem zc_ne {a b : Nat} (ha : a < 2 ^ 31) (hb : b < 2 ^ 31) : xe_cd .ne (nI a) (nI b) = !decide (a = b) := by
  show (!decide (nI a = nI b)) = _
  rw [decide_eq_decide.mpr (nI_eq ha hb)]
theorem zc_lt0 {a : Nat} (ha : a < 2 ^ 31) : xe_cd .lt (nI a) 0 = false := by
  have := zc_lt (b := 0) ha (by decide)
  rw [nI_0] at this
  rw [this]
  simp
theorem zc_ge0 {a : Nat} (ha : a < 2 ^ 31) : xe_cd .ge (nI a) 0 = true := by
  have := zc_ge (b := 0) ha (by decide)
  rw [nI_0] at this
  rw [this]
  simp
theorem zc_gt0 {a : Nat} (ha : a < 2 ^ 31) : xe_cd .gt (nI a) 0 = decide (0 < a) := by
  have := zc_gt (b := 0) ha (by decide)
  rw [nI_0] at this
  exact this
theorem zc_eq0 {a : Nat} (ha : a < 2 ^ 31) : xe_cd .eq (nI a) 0 = decide (a = 0) := by
  have := zc_eq (b := 0) ha (by decide)
  rw [nI_0] at this
  exact this
theorem zc_ne0 {a : Nat} (ha : a < 2 ^ 31) : xe_cd .ne (nI a) 0 = !decide (a = 0) := by
  have := zc_ne (b := 0) ha (by decide)
  rw [nI_0] at this
  exact this
theorem zmod_n {a d : Nat} (ha : a < 2 ^ 31) (h0 : 0 < d) (hd : d < 2 ^ 31) : zmod (nI a) (nI d) = nI (a % d) := pk_rem ha h0 hd
theorem zup_e (M : zM) (k j : Nat) (x : Int32) (k' j' : Nat) : zup M k j x k' j' = if k' = k ∧ j' = j then x else M k' j' := by
  unfold zup va_up upd
  by_cases h : k' = k
  · subst h
    by_cases h2 : j' = j
    · simp [h2]
    · simp [h2]
  · simp [h]
/-! places of a frame -/
theorem zg_0 (a0 : Option Value) (l : zL) : (a0 :: l)[0]? = some a0 := rfl
theorem zg_1 (a0 a1 : Option Value) (l : zL) : (a0 :: a1 :: l)[1]? = some a1 := rfl
theorem zg_2 (a0 a1 a2 : Option Value) (l : zL) : (a0 :: a1 :: a2 :: l)[2]? = some a2 := rfl
theorem zg_3 (a0 a1 a2 a3 : Option Value) (l : zL) : (a0 :: a1 :: a2 :: a3 :: l)[3]? = some a3 := rfl
theorem zg_4 (a0 a1 a2 a3 a4 : Option Value) (l : zL) : (a0 :: a1 :: a2 :: a3 :: a4 :: l)[4]? = some a4 := rfl
theorem zg_5 (a0 a1 a2 a3 a4 a5 : Option Value) (l : zL) : (a0 :: a1 :: a2 :: a3 :: a4 :: a5 :: l)[5]? = some a5 := rfl
theorem zg_6 (a0 a1 a2 a3 a4 a5 a6 : Option Value) (l : zL) : (a0 :: a1 :: a2 :: a3 :: a4 :: a5 :: a6 :: l)[6]? = some a6 := rfl
theorem zg_7 (a0 a1 a2 a3 a4 a5 a6 a7 : Option Value) (l : zL) : (a0 :: a1 :: a2 :: a3 :: a4 :: a5 :: a6 :: a7 :: l)[7]? = some a7 := rfl
theorem zg_8 (a0 a1 a2 a3 a4 a5 a6 a7 a8 : Option Value) (l : zL) : (a0 :: a1 :: a2 :: a3 :: a4 :: a5 :: a6 :: a7 :: a8 :: l)[8]? = some a8 := rfl
theorem zg_9 (a0 a1 a2 a3 a4 a5 a6 a7 a8 a9 : Option Value) (l : zL) : (a0 :: a1 :: a2 :: a3 :: a4 :: a5 :: a6 :: a7 :: a8 :: a9 :: l)[9]? = some a9 := rfl
/-! places -/
def ztb (k : Nat) : Prop := k = 2 ∨ k = 4 ∨ k = 6 ∨ k = 8 ∨ k = 10 ∨ k = 13 ∨ k = 15 ∨ k = 27
theorem ztb_rf {k : Nat} (h : ztb k) : xp_rf k 1 = some (k + 1) := by
  rcases h with h | h | h | h | h | h | h | h <;> subst h <;> rfl
theorem ztb_tag {k : Nat} (h : ztb k) : ztag k 3 = true := by
  rcases h with h | h | h | h | h | h | h | h <;> subst h <;> rfl
theorem ztb_sh {k : Nat} (h : ztb k) : xp_sh[k + 1]? = some (0, 64) := by
  rcases h with h | h | h | h | h | h | h | h <;> subst h <;> rfl
theorem zin_nI {t k i N : Nat} (hk : xp_sh[k]? = some (t, N)) (h : i < N) (hN : N < 2 ^ 31) : zin t k (nI i) = true := by
  unfold zin
  rw [hk]
  simp [nI_pos (n := i) (by omega), nI_clamp (n := i) (by omega), h]
theorem ztb_in {k i : Nat} (h : ztb k) (hi : i < 64) : zin 0 (k + 1) (nI i) = true := zin_nI (ztb_sh h) hi (by decide)
theorem zi_33 {i : Nat} (h : i < 6) : zin 0 33 (nI i) = true := zin_nI (N := 6) rfl h (by decide)
theorem zi_34 {i : Nat} (h : i < 384) : zin 0 34 (nI i) = true := zin_nI (N := 384) rfl h (by decide)
theorem zi_35 {i : Nat} (h : i < 64) : zin 0 35 (nI i) = true := zin_nI (N := 64) rfl h (by decide)
theorem zi_36 {i : Nat} (h : i < 8) : zin 0 36 (nI i) = true := zin_nI (N := 8) rfl h (by decide)
theorem zi_37 {i : Nat} (h : i < 35280) : zin 0 37 (nI i) = true := zin_nI (N := 35280) rfl h (by decide)
theorem zi_38 {i : Nat} (h : i < 5040) : zin 1 38 (nI i) = true := zin_nI (N := 5040) rfl h (by decide)
theorem zi_1 {i : Nat} (h : i < 4) : zin 2 1 (nI i) = true := zin_nI (N := 4) rfl h (by decide)
theorem zi_17 {i : Nat} (h : i < 25) : zin 0 17 (nI i) = true := zin_nI (N := 25) rfl h (by decide)
theorem zi_18 {i : Nat} (h : i < 8) : zin 0 18 (nI i) = true := zin_nI (N := 8) rfl h (by decide)
theorem zi_19 {i : Nat} (h : i < 8) : zin 0 19 (nI i) = true := zin_nI (N := 8) rfl h (by decide)
theorem zi_21 {i : Nat} (h : i < 343) : zin 0 21 (nI i) = true := zin_nI (N := 343) rfl h (by decide)
theorem zi_22 {i : Nat} (h : i < 343) : zin 0 22 (nI i) = true := zin_nI (N := 343) rfl h (by decide)
theorem zi_23 {i : Nat} (h : i < 7) : zin 0 23 (nI i) = true := zin_nI (N := 7) rfl h (by decide)
theorem zi_24 {i : Nat} (h : i < 49) : zin 0 24 (nI i) = true := zin_nI (N := 49) rfl h (by decide)
theorem zi_25 {i : Nat} (h : i < 7) : zin 0 25 (nI i) = true := zin_nI (N := 7) rfl h (by decide)
theorem zi_29 {i : Nat} (h : i < 8) : zin 0 29 (nI i) = true := zin_nI (N := 8) rfl h (by decide)
theorem zi_30 {i : Nat} (h : i < 8) : zin 0 30 (nI i) = true := zin_nI (N := 8) rfl h (by decide)
theorem zi_31 {i : Nat} (h : i < 8) : zin 0 31 (nI i) = true := zin_nI (N := 8) rfl h (by decide)
theorem zt_0 : ztag 0 7 = true := rfl
theorem zt_12 : ztag 12 4 = true := rfl
theorem zt_20 : ztag 20 5 = true := rfl
theorem zt_26 : ztag 26 6 = true := rfl
theorem zt_32 : ztag 32 8 = true := rfl
theorem zf_0_0 : xp_rf 0 0 = some 1 := rfl
theorem zf_0_1 : xp_rf 0 1 = some 10 := rfl
theorem zf_0_2 : xp_rf 0 2 = some 12 := rfl
theorem zf_0_3 : xp_rf 0 3 = some 20 := rfl
theorem zf_0_4 : xp_rf 0 4 = some 26 := rfl
theorem zf_1 {t : Nat} (h : t < 4) : xp_rf 1 t = some (2 + 2 * t) := by
  match t, h with
  | 0, _ => rfl
  | 1, _ => rfl
  | 2, _ => rfl
  | 3, _ => rfl
theorem zf_12_0 : xp_rf 12 0 = some 13 := rfl
theorem zf_12_1 : xp_rf 12 1 = some 15 := rfl
theorem zf_12_2 : xp_rf 12 2 = some 17 := rfl
theorem zf_12_4 : xp_rf 12 4 = some 18 := rfl
theorem zf_12_5 : xp_rf 12 5 = some 19 := rfl
theorem zf_20_1 : xp_rf 20 1 = some 21 := rfl
theorem zf_20_2 : xp_rf 20 2 = some 22 := rfl
theorem zf_20_3 : xp_rf 20 3 = some 23 := rfl
theorem zf_20_4 : xp_rf 20 4 = some 24 := rfl
theorem zf_20_6 : xp_rf 20 6 = some 25 := rfl
theorem zf_26_0 : xp_rf 26 0 = some 27 := rfl
theorem zf_26_1 : xp_rf 26 1 = some 29 := rfl
theorem zf_26_2 : xp_rf 26 2 = some 30 := rfl
theorem zf_26_3 : xp_rf 26 3 = some 31 := rfl
theorem zf_32_0 : xp_rf 32 0 = some 33 := rfl
theorem zf_32_1 : xp_rf 32 1 = some 34 := rfl
theorem zf_32_3 : xp_rf 32 3 = some 35 := rfl
theorem zf_32_4 : xp_rf 32 4 = some 36 := rfl
theorem zf_32_5 : xp_rf 32 5 = some 37 := rfl
theorem zf_32_6 : xp_rf 32 6 = some 38 := rfl
/-! loops -/
theorem zwh_up {c : zB} {s : zS} (L : Nat → zL) (N : Nat → zM) {n : Nat} : ∀ (d i : Nat), i + d = n → (∀ j, i ≤ j → j < n → c (L j) (N j) = some (true, N j)) → (∀ j, i ≤ j → j < n → s (L j) (N j) = some (none, L (j + 1), N (j + 1))) → c (L n) (N n) = some (false, N n) → zwh c s (L i) (N i) = some (none, L n, N n)
  | 0, i, h, _, _, he => by
    have : i = n := by omega
    subst this
    exact zwh_f he
  | d + 1, i, h, hc, hs, he => zwh_t (hc i (Nat.le_refl _) (by omega)) (hs i (Nat.le_refl _) (by omega)) (zwh_up L N d (i + 1) (by omega) (fun j h1 h2 => hc j (by omega) h2) (fun j h1 h2 => hs j (by omega) h2) he)
theorem zwh_rt {c : zB} {s : zS} (L : Nat → zL) (N : Nat → zM) {n : Nat} {v : Option Int32} {ls' : zL} {M' : zM} : ∀ (d i : Nat), i + d = n → (∀ j, i ≤ j → j ≤ n → c (L j) (N j) = some (true, N j)) → (∀ j, i ≤ j → j < n → s (L j) (N j) = some (none, L (j + 1), N (j + 1))) → s (L n) (N n) = some (some v, ls', M') → zwh c s (L i) (N i) = some (some v, ls', M')
  | 0, i, h, hc, _, he => by
    have : i = n := by omega
    subst this
    exact zwh_r (hc i (Nat.le_refl _) (Nat.le_refl _)) he
  | d + 1, i, h, hc, hs, he => zwh_t (hc i (Nat.le_refl _) (by omega)) (hs i (Nat.le_refl _) (by omega)) (zwh_rt L N d (i + 1) (by omega) (fun j h1 h2 => hc j (by omega) h2) (fun j h1 h2 => hs j (by omega) h2) he)
def zwp (s : zS) (ls : zL) (M : zM) (Q : Option (Option Int32) → zL → zM → Prop) : Prop := ∃ r ls' M', s ls M = some (r, ls', M') ∧ Q r ls' M'
theorem zwh_inv {c : zB} {s : zS} (I : Nat → zL → zM → Prop) {Q : Option (Option Int32) → zL → zM → Prop} {n : Nat} (he : ∀ ls M, I n ls M → c ls M = some (false, M) ∧ Q none ls M) : ∀ (d i : Nat), i + d = n → (∀ j ls M, i ≤ j → j < n → I j ls M → c ls M = some (true, M) ∧ zwp s ls M (fun r ls' M' => match r with
    | none => I (j + 1) ls' M'
    | some v => Q (some v) ls' M')) → ∀ ls M, I i ls M → zwp (zwh c s) ls M Q
  | 0, i, h, _, ls, M, h0 => by
    have : i = n := by omega
    subst this
    obtain ⟨h1, h2⟩ := he ls M h0
    exact ⟨_, _, _, zwh_f h1, h2⟩
  | d + 1, i, h, hs, ls, M, h0 => by
    obtain ⟨h1, r, ls', M', h2, h3⟩ := hs i ls M (Nat.le_refl _) (by omega) h0
    cases r with
    | some v => exact ⟨_, _, _, zwh_r h1 h2, h3⟩
    | none =>
      obtain ⟨r, ls2, M2, h4, h5⟩ := zwh_inv I he d (i + 1) (by omega) (fun j ls M g1 g2 g3 => hs j ls M (by omega) g2 g3) ls' M' h3
      exact ⟨_, _, _, zwh_t h1 h2 h4, h5⟩
