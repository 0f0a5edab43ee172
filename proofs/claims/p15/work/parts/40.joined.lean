/-! EVALUATION: rows to reckon with the functions -/
def zb (x : Bool) : Int32 := bif x then nI 1 else nI 0
theorem zb_ne (x : Bool) : xe_cd .ne (zb x) 0 = x := by cases x <;> decide
theorem zb_eq (x : Bool) : xe_cd .eq (zb x) 0 = !x := by cases x <;> decide
theorem zb_eq1 (x : Bool) : xe_cd .eq (zb x) (nI 1) = x := by cases x <;> decide
theorem zb_01 (x : Bool) : (zb x = 0 ∨ zb x = 1) = True := by cases x <;> simp [zb] <;> decide
theorem z_00 : (nI 0 = 0 ∨ nI 0 = 1) = True := by simp [nI_0]
theorem z_01 : (nI 1 = 0 ∨ nI 1 = 1) = True := eq_true (Or.inr rfl)
theorem z_11 : (nI 1 = 1) = True := eq_true rfl
theorem zb_T : zb true = nI 1 := rfl
theorem zb_F : zb false = nI 0 := rfl
theorem zb_f (x : Bool) : (bif x then nI 1 else nI 0) = zb x := rfl
theorem zand_e (a b : zB) (ls : zL) (M : zM) : zand a b ls M = (a ls M).bind (fun r => bif r.1 then b ls r.2 else some (false, r.2)) := by
  unfold zand
  cases a ls M with
  | none => rfl
  | some r =>
    obtain ⟨x, M1⟩ := r
    cases x <;> rfl
theorem zor_e (a b : zB) (ls : zL) (M : zM) : zor a b ls M = (a ls M).bind (fun r => bif r.1 then some (true, r.2) else b ls r.2) := by
  unfold zor
  cases a ls M with
  | none => rfl
  | some r =>
    obtain ⟨x, M1⟩ := r
    cases x <;> rfl
theorem zite_e (c : zB) (a b : zE) (ls : zL) (M : zM) : zite c a b ls M = (c ls M).bind (fun r => bif r.1 then a ls r.2 else b ls r.2) := by
  unfold zite
  cases c ls M with
  | none => rfl
  | some r =>
    obtain ⟨x, M1⟩ := r
    cases x <;> rfl
theorem zbite_e (c a b : zB) (ls : zL) (M : zM) : zbite c a b ls M = (c ls M).bind (fun r => bif r.1 then a ls r.2 else b ls r.2) := by
  unfold zbite
  cases c ls M with
  | none => rfl
  | some r =>
    obtain ⟨x, M1⟩ := r
    cases x <;> rfl
theorem zif_e (c : zB) (a b : zS) (ls : zL) (M : zM) : zif c a b ls M = (c ls M).bind (fun r => bif r.1 then a ls r.2 else b ls r.2) := by
  unfold zif
  cases c ls M with
  | none => rfl
  | some r =>
    obtain ⟨x, M1⟩ := r
    cases x <;> rfl
theorem znot_e (a : zB) (ls : zL) (M : zM) : znot a ls M = (a ls M).bind (fun r => some (!r.1, r.2)) := by
  unfold znot
  cases a ls M with
  | none => rfl
  | some r => rfl
theorem zbm1 (x y : Bool) (M : zM) : (bif x then some (true, M) else some (y, M)) = some (x || y, M) := by cases x <;> rfl
theorem zbm2 (x y : Bool) (M : zM) : (bif x then some (y, M) else some (false, M)) = some (x && y, M) := by cases x <;> rfl
theorem zbm5 (x y : Bool) (M : zM) : (bif x then some (false, M) else some (y, M)) = some (!x && y, M) := by cases x <;> rfl
theorem zbm6 (x y : Bool) (M : zM) : (bif x then some (y, M) else some (true, M)) = some (!x || y, M) := by cases x <;> cases y <;> rfl
theorem zbm3 (x : Bool) (v w : Value) (M : zM) : (bif x then some (v, M) else some (w, M)) = some (bif x then v else w, M) := by cases x <;> rfl
theorem zbm4 (x : Bool) (v w : Int32) : (bif x then Value.int v else Value.int w) = Value.int (bif x then v else w) := by cases x <;> rfl
theorem zc_lt {a b : Nat} (ha : a < 2 ^ 31) (hb : b < 2 ^ 31) : xe_cd .lt (nI a) (nI b) = decide (a < b) := by
  show decide (nI a < nI b) = _
  exact decide_eq_decide.mpr (nI_ltI ha hb)
theorem zc_gt {a b : Nat} (ha : a < 2 ^ 31) (hb : b < 2 ^ 31) : xe_cd .gt (nI a) (nI b) = decide (b < a) := by
  show decide (nI b < nI a) = _
  exact decide_eq_decide.mpr (nI_ltI hb ha)
theorem zc_le {a b : Nat} (ha : a < 2 ^ 31) (hb : b < 2 ^ 31) : xe_cd .le (nI a) (nI b) = decide (a ≤ b) := by
  show decide (nI a ≤ nI b) = _
  exact decide_eq_decide.mpr (nI_leI ha hb)
theorem zc_ge {a b : Nat} (ha : a < 2 ^ 31) (hb : b < 2 ^ 31) : xe_cd .ge (nI a) (nI b) = decide (b ≤ a) := by
  show decide (nI b ≤ nI a) = _
  exact decide_eq_decide.mpr (nI_leI hb ha)
theorem zc_eq {a b : Nat} (ha : a < 2 ^ 31) (hb : b < 2 ^ 31) : xe_cd .eq (nI a) (nI b) = decide (a = b) := by
  show decide (nI a = nI b) = _
  exact decide_eq_decide.mpr (nI_eq ha hb)
theorem zc_ne {a b : Nat} (ha : a < 2 ^ 31) (hb : b < 2 ^ 31) : xe_cd .ne (nI a) (nI b) = !decide (a = b) := by
  show (!decide (nI a = nI b)) = _
  rw [decide_eq_decide.mpr (nI_eq ha hb)]
theorem zc_lt0 {a : Nat} (ha : a < 2 ^ 31) : xe_cd .lt (nI a) 0 = false := by
  have := zc_lt (b := 0) ha (by decide)
  rw [nI_0] at this
  rw [this]
  simp
theorem zc_ge0 {a : Nat} (ha : a < 2 ^ 31) : xe_cd .ge (nI a) 0 = true := by
  have := zc_ge (b := 0) ha (by decide)
  rw [nI_0] at this
  rw [this]
  simp
theorem zc_gt0 {a : Nat} (ha : a < 2 ^ 31) : xe_cd .gt (nI a) 0 = decide (0 < a) := by
  have := zc_gt (b := 0) ha (by decide)
  rw [nI_0] at this
  exact this
theorem zc_eq0 {a : Nat} (ha : a < 2 ^ 31) : xe_cd .eq (nI a) 0 = decide (a = 0) := by
  have := zc_eq (b := 0) ha (by decide)
  rw [nI_0] at this
  exact this
theorem zc_ne0 {a : Nat} (ha : a < 2 ^ 31) : xe_cd .ne (nI a) 0 = !decide (a = 0) := by
  have := zc_ne (b := 0) ha (by decide)
  rw [nI_0] at this
  exact this
theorem zmod_n {a d : Nat} (ha : a < 2 ^ 31) (h0 : 0 < d) (hd : d < 2 ^ 31) : zmod (nI a) (nI d) = nI (a % d) := pk_rem ha h0 hd
theorem zup_e (M : zM) (k j : Nat) (x : Int32) (k' j' : Nat) : zup M k j x k' j' = if k' = k ∧ j' = j then x else M k' j' := by
  unfold zup va_up upd
  by_cases h : k' = k
  · subst h
    by_cases h2 : j' = j
    · simp [h2]
    · simp [h2]
  · simp [h]
/-! places of a frame -/
theorem zg_0 (a0 : Option Value) (l : zL) : (a0 :: l)[0]? = some a0 := rfl
theorem zg_1 (a0 a1 : Option Value) (l : zL) : (a0 :: a1 :: l)[1]? = some a1 := rfl
theorem zg_2 (a0 a1 a2 : Option Value) (l : zL) : (a0 :: a1 :: a2 :: l)[2]? = some a2 := rfl
theorem zg_3 (a0 a1 a2 a3 : Option Value) (l : zL) : (a0 :: a1 :: a2 :: a3 :: l)[3]? = some a3 := rfl
theorem zg_4 (a0 a1 a2 a3 a4 : Option Value) (l : zL) : (a0 :: a1 :: a2 :: a3 :: a4 :: l)[4]? = some a4 := rfl
theorem zg_5 (a0 a1 a2 a3 a4 a5 : Option Value) (l : zL) : (a0 :: a1 :: a2 :: a3 :: a4 :: a5 :: l)[5]? = some a5 := rfl
theorem zg_6 (a0 a1 a2 a3 a4 a5 a6 : Option Value) (l : zL) : (a0 :: a1 :: a2 :: a3 :: a4 :: a5 :: a6 :: l)[6]? = some a6 := rfl
theorem zg_7 (a0 a1 a2 a3 a4 a5 a6 a7 : Option Value) (l : zL) : (a0 :: a1 :: a2 :: a3 :: a4 :: a5 :: a6 :: a7 :: l)[7]? = some a7 := rfl
theorem zg_8 (a0 a1 a2 a3 a4 a5 a6 a7 a8 : Option Value) (l : zL) : (a0 :: a1 :: a2 :: a3 :: a4 :: a5 :: a6 :: a7 :: a8 :: l)[8]? = some a8 := rfl
theorem zg_9 (a0 a1 a2 a3 a4 a5 a6 a7 a8 a9 : Option Value) (l : zL) : (a0 :: a1 :: a2 :: a3 :: a4 :: a5 :: a6 :: a7 :: a8 :: a9 :: l)[9]? = some a9 := rfl
/-! places -/
def ztb (k : Nat) : Prop := k = 2 ∨ k = 4 ∨ k = 6 ∨ k = 8 ∨ k = 10 ∨ k = 13 ∨ k = 15 ∨ k = 27
theorem ztb_rf {k : Nat} (h : ztb k) : xp_rf k 1 = some (k + 1) := by
  rcases h with h | h | h | h | h | h | h | h <;> subst h <;> rfl
theorem ztb_tag {k : Nat} (h : ztb k) : ztag k 3 = true := by
  rcases h with h | h | h | h | h | h | h | h <;> subst h <;> rfl
theorem ztb_sh {k : Nat} (h : ztb k) : xp_sh[k + 1]? = some (0, 64) := by
  rcases h with h | h | h | h | h | h | h | h <;> subst h <;> rfl
theorem zin_nI {t k i N : Nat} (hk : xp_sh[k]? = some (t, N)) (h : i < N) (hN : N < 2 ^ 31) : zin t k (nI i) = true := by
  unfold zin
  rw [hk]
  simp [nI_pos (n := i) (by omega), nI_clamp (n := i) (by omega), h]
theorem ztb_in {k i : Nat} (h : ztb k) (hi : i < 64) : zin 0 (k + 1) (nI i) = true := zin_nI (ztb_sh h) hi (by decide)
theorem zi_33 {i : Nat} (h : i < 6) : zin 0 33 (nI i) = true := zin_nI (N := 6) rfl h (by decide)
theorem zi_34 {i : Nat} (h : i < 384) : zin 0 34 (nI i) = true := zin_nI (N := 384) rfl h (by decide)
theorem zi_35 {i : Nat} (h : i < 64) : zin 0 35 (nI i) = true := zin_nI (N := 64) rfl h (by decide)
theorem zi_36 {i : Nat} (h : i < 8) : zin 0 36 (nI i) = true := zin_nI (N := 8) rfl h (by decide)
theorem zi_37 {i : Nat} (h : i < 35280) : zin 0 37 (nI i) = true := zin_nI (N := 35280) rfl h (by decide)
theorem zi_38 {i : Nat} (h : i < 5040) : zin 1 38 (nI i) = true := zin_nI (N := 5040) rfl h (by decide)
theorem zi_1 {i : Nat} (h : i < 4) : zin 2 1 (nI i) = true := zin_nI (N := 4) rfl h (by decide)
theorem zi_17 {i : Nat} (h : i < 25) : zin 0 17 (nI i) = true := zin_nI (N := 25) rfl h (by decide)
theorem zi_18 {i : Nat} (h : i < 8) : zin 0 18 (nI i) = true := zin_nI (N := 8) rfl h (by decide)
theorem zi_19 {i : Nat} (h : i < 8) : zin 0 19 (nI i) = true := zin_nI (N := 8) rfl h (by decide)
theorem zi_21 {i : Nat} (h : i < 343) : zin 0 21 (nI i) = true := zin_nI (N := 343) rfl h (by decide)
theorem zi_22 {i : Nat} (h : i < 343) : zin 0 22 (nI i) = true := zin_nI (N := 343) rfl h (by decide)
theorem zi_23 {i : Nat} (h : i < 7) : zin 0 23 (nI i) = true := zin_nI (N := 7) rfl h (by decide)
theorem zi_24 {i : Nat} (h : i < 49) : zin 0 24 (nI i) = true := zin_nI (N := 49) rfl h (by decide)
theorem zi_25 {i : Nat} (h : i < 7) : zin 0 25 (nI i) = true := zin_nI (N := 7) rfl h (by decide)
theorem zi_29 {i : Nat} (h : i < 8) : zin 0 29 (nI i) = true := zin_nI (N := 8) rfl h (by decide)
theorem zi_30 {i : Nat} (h : i < 8) : zin 0 30 (nI i) = true := zin_nI (N := 8) rfl h (by decide)
theorem zi_31 {i : Nat} (h : i < 8) : zin 0 31 (nI i) = true := zin_nI (N := 8) rfl h (by decide)
theorem zt_0 : ztag 0 7 = true := rfl
theorem zt_12 : ztag 12 4 = true := rfl
theorem zt_20 : ztag 20 5 = true := rfl
theorem zt_26 : ztag 26 6 = true := rfl
theorem zt_32 : ztag 32 8 = true := rfl
theorem zf_0_0 : xp_rf 0 0 = some 1 := rfl
theorem zf_0_1 : xp_rf 0 1 = some 10 := rfl
theorem zf_0_2 : xp_rf 0 2 = some 12 := rfl
theorem zf_0_3 : xp_rf 0 3 = some 20 := rfl
theorem zf_0_4 : xp_rf 0 4 = some 26 := rfl
theorem zf_1 {t : Nat} (h : t < 4) : xp_rf 1 t = some (2 + 2 * t) := by
  match t, h with
  | 0, _ => rfl
  | 1, _ => rfl
  | 2, _ => rfl
  | 3, _ => rfl
theorem zf_12_0 : xp_rf 12 0 = some 13 := rfl
theorem zf_12_1 : xp_rf 12 1 = some 15 := rfl
theorem zf_12_2 : xp_rf 12 2 = some 17 := rfl
theorem zf_12_4 : xp_rf 12 4 = some 18 := rfl
theorem zf_12_5 : xp_rf 12 5 = some 19 := rfl
theorem zf_20_1 : xp_rf 20 1 = some 21 := rfl
theorem zf_20_2 : xp_rf 20 2 = some 22 := rfl
theorem zf_20_3 : xp_rf 20 3 = some 23 := rfl
theorem zf_20_4 : xp_rf 20 4 = some 24 := rfl
theorem zf_20_6 : xp_rf 20 6 = some 25 := rfl
theorem zf_26_0 : xp_rf 26 0 = some 27 := rfl
theorem zf_26_1 : xp_rf 26 1 = some 29 := rfl
theorem zf_26_2 : xp_rf 26 2 = some 30 := rfl
theorem zf_26_3 : xp_rf 26 3 = some 31 := rfl
theorem zf_32_0 : xp_rf 32 0 = some 33 := rfl
theorem zf_32_1 : xp_rf 32 1 = some 34 := rfl
theorem zf_32_3 : xp_rf 32 3 = some 35 := rfl
theorem zf_32_4 : xp_rf 32 4 = some 36 := rfl
theorem zf_32_5 : xp_rf 32 5 = some 37 := rfl
theorem zf_32_6 : xp_rf 32 6 = some 38 := rfl
/-! loops -/
theorem zwh_up {c : zB} {s : zS} (L : Nat → zL) (N : Nat → zM) {n : Nat} : ∀ (d i : Nat), i + d = n → (∀ j, i ≤ j → j < n → c (L j) (N j) = some (true, N j)) → (∀ j, i ≤ j → j < n → s (L j) (N j) = some (none, L (j + 1), N (j + 1))) → c (L n) (N n) = some (false, N n) → zwh c s (L i) (N i) = some (none, L n, N n)
  | 0, i, h, _, _, he => by
    have : i = n := by omega
    subst this
    exact zwh_f he
  | d + 1, i, h, hc, hs, he => zwh_t (hc i (Nat.le_refl _) (by omega)) (hs i (Nat.le_refl _) (by omega)) (zwh_up L N d (i + 1) (by omega) (fun j h1 h2 => hc j (by omega) h2) (fun j h1 h2 => hs j (by omega) h2) he)
theorem zwh_rt {c : zB} {s : zS} (L : Nat → zL) (N : Nat → zM) {n : Nat} {v : Option Int32} {ls' : zL} {M' : zM} : ∀ (d i : Nat), i + d = n → (∀ j, i ≤ j → j ≤ n → c (L j) (N j) = some (true, N j)) → (∀ j, i ≤ j → j < n → s (L j) (N j) = some (none, L (j + 1), N (j + 1))) → s (L n) (N n) = some (some v, ls', M') → zwh c s (L i) (N i) = some (some v, ls', M')
  | 0, i, h, hc, _, he => by
    have : i = n := by omega
    subst this
    exact zwh_r (hc i (Nat.le_refl _) (Nat.le_refl _)) he
  | d + 1, i, h, hc, hs, he => zwh_t (hc i (Nat.le_refl _) (by omega)) (hs i (Nat.le_refl _) (by omega)) (zwh_rt L N d (i + 1) (by omega) (fun j h1 h2 => hc j (by omega) h2) (fun j h1 h2 => hs j (by omega) h2) he)
def zwp (s : zS) (ls : zL) (M : zM) (Q : Option (Option Int32) → zL → zM → Prop) : Prop := ∃ r ls' M', s ls M = some (r, ls', M') ∧ Q r ls' M'
theorem zwh_inv {c : zB} {s : zS} (I : Nat → zL → zM → Prop) {Q : Option (Option Int32) → zL → zM → Prop} {n : Nat} (he : ∀ ls M, I n ls M → c ls M = some (false, M) ∧ Q none ls M) : ∀ (d i : Nat), i + d = n → (∀ j ls M, i ≤ j → j < n → I j ls M → c ls M = some (true, M) ∧ zwp s ls M (fun r ls' M' => match r with
    | none => I (j + 1) ls' M'
    | some v => Q (some v) ls' M')) → ∀ ls M, I i ls M → zwp (zwh c s) ls M Q
  | 0, i, h, _, ls, M, h0 => by
    have : i = n := by omega
    subst this
    obtain ⟨h1, h2⟩ := he ls M h0
    exact ⟨_, _, _, zwh_f h1, h2⟩
  | d + 1, i, h, hs, ls, M, h0 => by
    obtain ⟨h1, r, ls', M', h2, h3⟩ := hs i ls M (Nat.le_refl _) (by omega) h0
    cases r with
    | some v => exact ⟨_, _, _, zwh_r h1 h2, h3⟩
    | none =>
      obtain ⟨r, ls2, M2, h4, h5⟩ := zwh_inv I he d (i + 1) (by omega) (fun j ls M g1 g2 g3 => hs j ls M (by omega) g2 g3) ls' M' h3
      exact ⟨_, _, _, zwh_t h1 h2 h4, h5⟩
/-! BASICS: the small methods of both sides -/
theorem qT_times {M : zM} {k n a b : Nat} (hk : ztb k) (hn : M k 0 = nI n) (h8 : n ≤ 8) (ha : a < n) (hb : b < n) : zf_Table_times [.ref k, .int (nI a), .int (nI b)] M = some (some (M (k + 1) (8 * a + b)), M) := by
  simp (disch := omega) [zf_Table_times, zmeth, xm_en, zret, zretz, zretv, zseq, zst, zinc, zkl, zskip, zk, zi, za, zbin, zdiv, zrem, zgi, zgr, zld, zldr, zlen, zn, zc, zcall, zcallv, zrcv, zdo, zdov, zpf, zpfc, zas, zasc, zmin, zmax, zcmp, zcz, zand_e, zor_e, zite_e, zbite_e, zif_e, znot_e, z_add, z_sub, z_mul, z_and, z_or, z_xor, z_shl, z_shr, zcpy, -List.getElem?_cons_succ, zg_0, zg_1, zg_2, zg_3, zg_4, zg_5, zg_6, zg_7, zg_8, zg_9, zc_lt, zc_le, zc_gt, zc_ge, zc_eq, zc_ne, zc_lt0, zc_ge0, zc_gt0, zc_eq0, zc_ne0, zb_ne, zb_eq, zb_01, z_00, z_01, z_11, zb_f, zb_T, zb_F, zbm1, zbm2, zbm5, zbm6, zbm3, zbm4, nI_clamp, zmod_n, pk_div, nI_ne0, pk_mul, nI_add, nI_1, ztb_tag hk, ztb_rf hk, hn, ha, hb, ztb_in hk]
theorem qT_put {M : zM} {k n a b : Nat} {v : Int32} (hk : ztb k) (hn : M k 0 = nI n) (h8 : n ≤ 8) (ha : a < n) (hb : b < n) : zf_Table_put [.ref k, .int (nI a), .int (nI b), .int v] M = some (none, zup M (k + 1) (8 * a + b) v) := by
  simp (disch := omega) [zf_Table_put, zmeth, xm_en, zret, zretz, zretv, zseq, zst, zinc, zkl, zskip, zk, zi, za, zbin, zdiv, zrem, zgi, zgr, zld, zldr, zlen, zn, zc, zcall, zcallv, zrcv, zdo, zdov, zpf, zpfc, zas, zasc, zmin, zmax, zcmp, zcz, zand_e, zor_e, zite_e, zbite_e, zif_e, znot_e, z_add, z_sub, z_mul, z_and, z_or, z_xor, z_shl, z_shr, zcpy, -List.getElem?_cons_succ, zg_0, zg_1, zg_2, zg_3, zg_4, zg_5, zg_6, zg_7, zg_8, zg_9, zc_lt, zc_le, zc_gt, zc_ge, zc_eq, zc_ne, zc_lt0, zc_ge0, zc_gt0, zc_eq0, zc_ne0, zb_ne, zb_eq, zb_01, z_00, z_01, z_11, zb_f, zb_T, zb_F, zbm1, zbm2, zbm5, zbm6, zbm3, zbm4, nI_clamp, zmod_n, pk_div, nI_ne0, pk_mul, nI_add, nI_1, ztb_tag hk, ztb_rf hk, hn, ha, hb, ztb_in hk]
theorem qM_cell {M : zM} {t a b : Nat} (h : 64 * t + 8 * a + b < 384) : zf_M_cell [.ref 32, .int (nI t), .int (nI a), .int (nI b)] M = some (some (M 34 (64 * t + 8 * a + b)), M) := by
  simp (disch := omega) [zf_M_cell, zmeth, xm_en, zret, zretz, zretv, zseq, zst, zinc, zkl, zskip, zk, zi, za, zbin, zdiv, zrem, zgi, zgr, zld, zldr, zlen, zn, zc, zcall, zcallv, zrcv, zdo, zdov, zpf, zpfc, zas, zasc, zmin, zmax, zcmp, zcz, zand_e, zor_e, zite_e, zbite_e, zif_e, znot_e, z_add, z_sub, z_mul, z_and, z_or, z_xor, z_shl, z_shr, zcpy, -List.getElem?_cons_succ, zg_0, zg_1, zg_2, zg_3, zg_4, zg_5, zg_6, zg_7, zg_8, zg_9, zc_lt, zc_le, zc_gt, zc_ge, zc_eq, zc_ne, zc_lt0, zc_ge0, zc_gt0, zc_eq0, zc_ne0, zb_ne, zb_eq, zb_01, z_00, z_01, z_11, zb_f, zb_T, zb_F, zbm1, zbm2, zbm5, zbm6, zbm3, zbm4, nI_clamp, zmod_n, pk_div, nI_ne0, pk_mul, nI_add, nI_1, zt_0, zt_12, zt_20, zt_26, zt_32, zf_0_0, zf_0_1, zf_0_2, zf_0_3, zf_0_4, zf_12_0, zf_12_1, zf_12_2, zf_12_4, zf_12_5, zf_20_1, zf_20_2, zf_20_3, zf_20_4, zf_20_6, zf_26_0, zf_26_1, zf_26_2, zf_26_3, zf_32_0, zf_32_1, zf_32_3, zf_32_4, zf_32_5, zf_32_6, zi_34]
theorem qM_puts {M : zM} {t a b : Nat} {v : Int32} (h : 64 * t + 8 * a + b < 384) : zf_M_puts [.ref 32, .int (nI t), .int (nI a), .int (nI b), .int v] M = some (none, zup M 34 (64 * t + 8 * a + b) v) := by
  simp (disch := omega) [zf_M_puts, zmeth, xm_en, zret, zretz, zretv, zseq, zst, zinc, zkl, zskip, zk, zi, za, zbin, zdiv, zrem, zgi, zgr, zld, zldr, zlen, zn, zc, zcall, zcallv, zrcv, zdo, zdov, zpf, zpfc, zas, zasc, zmin, zmax, zcmp, zcz, zand_e, zor_e, zite_e, zbite_e, zif_e, znot_e, z_add, z_sub, z_mul, z_and, z_or, z_xor, z_shl, z_shr, zcpy, -List.getElem?_cons_succ, zg_0, zg_1, zg_2, zg_3, zg_4, zg_5, zg_6, zg_7, zg_8, zg_9, zc_lt, zc_le, zc_gt, zc_ge, zc_eq, zc_ne, zc_lt0, zc_ge0, zc_gt0, zc_eq0, zc_ne0, zb_ne, zb_eq, zb_01, z_00, z_01, z_11, zb_f, zb_T, zb_F, zbm1, zbm2, zbm5, zbm6, zbm3, zbm4, nI_clamp, zmod_n, pk_div, nI_ne0, pk_mul, nI_add, nI_1, zt_0, zt_12, zt_20, zt_26, zt_32, zf_0_0, zf_0_1, zf_0_2, zf_0_3, zf_0_4, zf_12_0, zf_12_1, zf_12_2, zf_12_4, zf_12_5, zf_20_1, zf_20_2, zf_20_3, zf_20_4, zf_20_6, zf_26_0, zf_26_1, zf_26_2, zf_26_3, zf_32_0, zf_32_1, zf_32_3, zf_32_4, zf_32_5, zf_32_6, zi_34]
def zlt (x : Int32) (n : Nat) : Bool := !decide (x < 0) && decide (x < nI n)
theorem zlt_nI {j n : Nat} (hj : j < 2 ^ 31) (hn : n < 2 ^ 31) : zlt (nI j) n = decide (j < n) := by
  unfold zlt
  rw [decide_eq_false (nI_pos hj)]
  simp [nI_ltI hj hn]
theorem zlt_t {x : Int32} {n : Nat} (hn : n < 2 ^ 31) (h : zlt x n = true) : ∃ j, j < n ∧ x = nI j := by
  simp only [zlt, Bool.and_eq_true, Bool.not_eq_true', decide_eq_false_iff_not, decide_eq_true_eq] at h
  rcases pk_ix x hn with g | g | g
  · exact absurd g h.1
  · exact absurd h.2 (Int32.not_lt.mpr g)
  · exact g
theorem qL_isBelow {M : zM} {x : Int32} {n : Nat} : zf_L_isBelow [.int x, .int (nI n)] M = some (some (zb (zlt x n)), M) := by
  have e : xe_cd .ge x 0 = !decide (x < 0) := by
    show decide ((0 : Int32) ≤ x) = !decide (x < 0)
    rw [← decide_not]
    exact decide_eq_decide.mpr Int32.not_lt.symm
  have e2 : xe_cd .lt x (nI n) = decide (x < nI n) := rfl
  simp [zf_L_isBelow, zmeth, xm_en, zret, zretz, zretv, zseq, zst, zinc, zkl, zskip, zk, zi, za, zbin, zdiv, zrem, zgi, zgr, zld, zldr, zlen, zn, zc, zcall, zcallv, zrcv, zdo, zdov, zpf, zpfc, zas, zasc, zmin, zmax, zcmp, zcz, zand_e, zor_e, zite_e, zbite_e, zif_e, znot_e, z_add, z_sub, z_mul, z_and, z_or, z_xor, z_shl, z_shr, zcpy, -List.getElem?_cons_succ, zg_0, zg_1, zg_2, zg_3, zg_4, zg_5, zg_6, zg_7, zg_8, zg_9, e, e2, zbm2, zbm3, zbm4, zb_f, zb_01, zlt]
/-! NUMBERS AND BITS -/
def zall (p : Nat → Bool) : Nat → Bool
  | 0 => true
  | n + 1 => zall p n && p n
theorem zall_t {p : Nat → Bool} : ∀ {n : Nat}, zall p n = true ↔ ∀ i, i < n → p i = true
  | 0 => by simp [zall]
  | n + 1 => by
    simp only [zall, Bool.and_eq_true, zall_t (n := n)]
    constructor
    · intro h i hi
      rcases Nat.lt_succ_iff_lt_or_eq.mp hi with h2 | h2
      · exact h.1 i h2
      · subst h2; exact h.2
    · intro h
      exact ⟨fun i hi => h i (by omega), h n (by omega)⟩
def zany (p : Nat → Bool) : Nat → Bool
  | 0 => false
  | n + 1 => zany p n || p n
theorem zany_t {p : Nat → Bool} : ∀ {n : Nat}, zany p n = true ↔ ∃ i, i < n ∧ p i = true
  | 0 => by simp [zany]
  | n + 1 => by
    simp only [zany, Bool.or_eq_true, zany_t (n := n)]
    constructor
    · intro h
      rcases h with ⟨i, h1, h2⟩ | h
      · exact ⟨i, by omega, h2⟩
      · exact ⟨n, by omega, h⟩
    · intro h
      obtain ⟨i, hi, h2⟩ := h
      rcases Nat.lt_succ_iff_lt_or_eq.mp hi with h3 | h3
      · exact Or.inl ⟨i, h3, h2⟩
      · subst h3; exact Or.inr h2
theorem zall_congr {p q : Nat → Bool} {n : Nat} (h : ∀ i, i < n → p i = q i) : zall p n = zall q n := by
  induction n with
  | zero => rfl
  | succ n ih => unfold zall; rw [ih (fun i hi => h i (by omega)), h n (by omega)]
theorem zany_congr {p q : Nat → Bool} {n : Nat} (h : ∀ i, i < n → p i = q i) : zany p n = zany q n := by
  induction n with
  | zero => rfl
  | succ n ih => unfold zany; rw [ih (fun i hi => h i (by omega)), h n (by omega)]
def zsum (f : Nat → Nat) : Nat → Nat
  | 0 => 0
  | n + 1 => zsum f n + f n
theorem zsum_le {f : Nat → Nat} {b : Nat} : ∀ {n : Nat}, (∀ i, i < n → f i ≤ b) → zsum f n ≤ n * b
  | 0, _ => by simp [zsum]
  | n + 1, h => by
    have h1 := zsum_le (f := f) (b := b) (n := n) (fun i hi => h i (by omega))
    have h2 := h n (by omega)
    unfold zsum
    rw [Nat.succ_mul]
    omega
theorem zsum_congr {f g : Nat → Nat} {n : Nat} (h : ∀ i, i < n → f i = g i) : zsum f n = zsum g n := by
  induction n with
  | zero => rfl
  | succ n ih => unfold zsum; rw [ih (fun i hi => h i (by omega)), h n (by omega)]
theorem zsum_0 {f : Nat → Nat} : ∀ {n : Nat}, zsum f n = 0 ↔ ∀ i, i < n → f i = 0
  | 0 => by simp [zsum]
  | n + 1 => by
    unfold zsum
    rw [Nat.add_eq_zero_iff, zsum_0]
    constructor
    · intro h i hi
      rcases Nat.lt_succ_iff_lt_or_eq.mp hi with h2 | h2
      · exact h.1 i h2
      · subst h2; exact h.2
    · intro h
      exact ⟨fun i hi => h i (by omega), h n (by omega)⟩
theorem zsum_mono {f : Nat → Nat} {i n : Nat} (h : i ≤ n) : zsum f i ≤ zsum f n := by
  induction h with
  | refl => exact Nat.le_refl _
  | step _ ih => exact Nat.le_trans ih (Nat.le_add_right _ _)
/-! ints as bits -/
theorem nI_bv (a : Nat) : (nI a).toBitVec = BitVec.ofNat 32 a := rfl
theorem nI_or (a b : Nat) : nI a ||| nI b = nI (a ||| b) := by
  apply Int32.toBitVec_inj.mp
  show (nI a).toBitVec ||| (nI b).toBitVec = (nI (a ||| b)).toBitVec
  rw [nI_bv, nI_bv, nI_bv]
  apply BitVec.eq_of_toNat_eq
  simp [Nat.or_mod_two_pow]
theorem nI_and (a b : Nat) : nI a &&& nI b = nI (a &&& b) := by
  apply Int32.toBitVec_inj.mp
  show (nI a).toBitVec &&& (nI b).toBitVec = (nI (a &&& b)).toBitVec
  rw [nI_bv, nI_bv, nI_bv]
  apply BitVec.eq_of_toNat_eq
  simp [Nat.and_mod_two_pow]
theorem nI_31 {v : Nat} (hv : v < 32) : nI v &&& 31 = nI v := by
  rw [pk_andN (n := v) (by omega) 5 (by decide)]
  congr 1
  omega
theorem nI_smod : ∀ v, v < 32 → ((nI v).toBitVec.smod 32).toNat = v := by decide
theorem nI_shl {n v : Nat} (hv : v < 32) (h : n * 2 ^ v < 2 ^ 32) : nI n <<< (nI v &&& 31) = nI (n * 2 ^ v) := by
  rw [nI_31 hv]
  exact pk_shlN _ v (nI_smod v hv) h
theorem nI_shl1 {v : Nat} (hv : v < 32) : nI 1 <<< (nI v &&& 31) = nI (2 ^ v) := by
  rw [nI_shl hv, Nat.one_mul]
  rw [Nat.one_mul]
  exact Nat.pow_lt_pow_right (by decide) hv
theorem nI_shr {n v : Nat} (hn : n < 2 ^ 31) (hv : v < 32) : nI n >>> (nI v &&& 31) = nI (n >>> v) := by
  rw [nI_31 hv, Nat.shiftRight_eq_div_pow]
  exact pk_shrN hn _ v (nI_smod v hv)
theorem nI_bit {n v : Nat} (hn : n < 2 ^ 31) (hv : v < 32) : (nI n >>> (nI v &&& 31)) &&& nI 1 = zb (n.testBit v) := by
  rw [nI_shr hn hv, nI_and, Nat.and_one_is_mod]
  unfold zb
  rw [Nat.testBit_eq_decide_div_mod_eq, Nat.shiftRight_eq_div_pow]
  have h2 : n / 2 ^ v % 2 = 0 ∨ n / 2 ^ v % 2 = 1 := by omega
  rcases h2 with h2 | h2 <;> rw [h2] <;> rfl
/-- the set of the f i, i below n with p i, as bits -/
def zim (f : Nat → Nat) (p : Nat → Bool) : Nat → Nat
  | 0 => 0
  | n + 1 => zim f p n ||| (bif p n then 2 ^ f n else 0)
theorem zim_t {f : Nat → Nat} {p : Nat → Bool} {v : Nat} : ∀ {n : Nat}, (zim f p n).testBit v = zany (fun i => p i && decide (f i = v)) n
  | 0 => by simp [zim, zany]
  | n + 1 => by
    unfold zim zany
    rw [Nat.testBit_or, zim_t]
    congr 1
    cases p n with
    | false => simp
    | true => simp [Nat.testBit_two_pow]
theorem zim_lt {f : Nat → Nat} {p : Nat → Bool} {m : Nat} : ∀ {n : Nat}, (∀ i, i < n → p i = true → f i < m) → zim f p n < 2 ^ m
  | 0, _ => by unfold zim; exact Nat.two_pow_pos m
  | n + 1, h => by
    unfold zim
    refine Nat.or_lt_two_pow (zim_lt (fun i hi => h i (by omega))) ?_
    cases hp : p n with
    | false => exact Nat.two_pow_pos m
    | true => exact Nat.pow_lt_pow_right (by decide) (h n (by omega) hp)
theorem zim_congr {f g : Nat → Nat} {p q : Nat → Bool} {n : Nat} (h : ∀ i, i < n → f i = g i) (h2 : ∀ i, i < n → p i = q i) : zim f p n = zim g q n := by
  induction n with
  | zero => rfl
  | succ n ih => unfold zim; rw [ih (fun i hi => h i (by omega)) (fun i hi => h2 i (by omega)), h n (by omega), h2 n (by omega)]
theorem zsum_b {f : Nat → Nat} {n : Nat} (h : ∀ i, f i ≤ 1) : zsum f n ≤ n := by
  have := zsum_le (f := f) (b := 1) (n := n) (fun i _ => h i)
  omega
/-- the first from i on, of d, with p; i + d, if there is none -/
def zidx (p : Nat → Bool) : Nat → Nat → Nat
  | i, 0 => i
  | i, d + 1 => bif p i then i else zidx p (i + 1) d
theorem zidx_le {p : Nat → Bool} : ∀ (d i : Nat), i ≤ zidx p i d ∧ zidx p i d ≤ i + d
  | 0, i => ⟨Nat.le_refl _, Nat.le_refl _⟩
  | d + 1, i => by
    unfold zidx
    cases p i with
    | true => exact ⟨Nat.le_refl _, by dsimp only [cond]; omega⟩
    | false =>
      have := zidx_le (p := p) d (i + 1)
      dsimp only [cond]
      omega
theorem zidx_lt {p : Nat → Bool} : ∀ (d i : Nat), zidx p i d < i + d → p (zidx p i d) = true
  | 0, i, h => by unfold zidx at h; omega
  | d + 1, i, h => by
    unfold zidx at h ⊢
    cases hp : p i with
    | true => exact hp
    | false =>
      rw [hp] at h
      exact zidx_lt d (i + 1) (by dsimp only [cond] at h; omega)
theorem zidx_no {p : Nat → Bool} : ∀ (d i j : Nat), i ≤ j → j < zidx p i d → p j = false
  | 0, i, j, h1, h2 => by unfold zidx at h2; omega
  | d + 1, i, j, h1, h2 => by
    unfold zidx at h2
    cases hp : p i with
    | true => rw [hp] at h2; dsimp only [cond] at h2; omega
    | false =>
      rw [hp] at h2
      rcases Nat.lt_or_ge i j with h | h
      · exact zidx_no d (i + 1) j h h2
      · have : j = i := by omega
        subst this
        exact hp
theorem zidx_is {p : Nat → Bool} {d i j : Nat} (h1 : i ≤ j) (h2 : j < i + d) (h3 : p j = true) (h4 : ∀ k, i ≤ k → k < j → p k = false) : zidx p i d = j := by
  rcases Nat.lt_trichotomy (zidx p i d) j with h | h | h
  · have a := zidx_le (p := p) d i
    have b := zidx_lt (p := p) d i (by omega)
    rw [h4 _ a.1 h] at b
    cases b
  · exact h
  · have := zidx_no (p := p) d i j h1 h
    rw [h3] at this
    cases this
theorem zidx_congr {p q : Nat → Bool} : ∀ (d i : Nat), (∀ j, i ≤ j → j < i + d → p j = q j) → zidx p i d = zidx q i d
  | 0, i, _ => rfl
  | d + 1, i, h => by
    unfold zidx
    rw [h i (Nat.le_refl _) (by omega), zidx_congr d (i + 1) (fun j h1 h2 => h j (by omega) (by omega))]
/-- a search through a loop -/
theorem zwh_find {c : zB} {s : zS} (L : Nat → zL) (N : zM) (p : Nat → Bool) (v : Nat → Option Int32) (L' : Nat → zL) {n : Nat} (he : c (L n) N = some (false, N)) : ∀ (d i : Nat), i + d = n → (∀ j, i ≤ j → j < n → c (L j) N = some (true, N)) → (∀ j, i ≤ j → j < n → p j = false → s (L j) N = some (none, L (j + 1), N)) → (∀ j, i ≤ j → j < n → p j = true → s (L j) N = some (some (v j), L' j, N)) → zwh c s (L i) N = if zidx p i d < n then some (some (v (zidx p i d)), L' (zidx p i d), N) else some (none, L n, N)
  | 0, i, h, _, _, _ => by
    have : i = n := by omega
    subst this
    rw [if_neg (by unfold zidx; omega)]
    exact zwh_f he
  | d + 1, i, h, hc, hs, hr => by
    unfold zidx
    cases hp : p i with
    | true =>
      dsimp only [cond]
      rw [if_pos (by omega)]
      exact zwh_r (hc i (Nat.le_refl _) (by omega)) (hr i (Nat.le_refl _) (by omega) hp)
    | false =>
      have ih := zwh_find L N p v L' he d (i + 1) (by omega) (fun j h1 h2 => hc j (by omega) h2) (fun j h1 h2 => hs j (by omega) h2) (fun j h1 h2 => hr j (by omega) h2)
      dsimp only [cond]
      split at ih
      · rename_i h9
        rw [if_pos h9]
        exact zwh_t (hc i (Nat.le_refl _) (by omega)) (hs i (Nat.le_refl _) (by omega) hp) ih
      · rename_i h9
        rw [if_neg h9]
        exact zwh_t (hc i (Nat.le_refl _) (by omega)) (hs i (Nat.le_refl _) (by omega) hp) ih
theorem zpig : ∀ (n : Nat) (f : Nat → Nat), (∀ i, i < n → f i < n) → (∀ i j, i < n → j < n → f i = f j → i = j) → ∀ v, v < n → ∃ i, i < n ∧ f i = v
  | 0, _, _, _, v, hv => by omega
  | n + 1, f, hf, hi, v, hv => by
    have ih := zpig n (fun i => if f i = n then f n else f i) (fun i h => by
      try dsimp only
      have h1 := hf i (by omega)
      have h2 := hf n (by omega)
      split
      · rename_i h3
        have : f n ≠ n := fun h4 => by
          have := hi i n (by omega) (by omega) (h3.trans h4.symm)
          omega
        omega
      · omega) (fun i j h1 h2 h3 => by
      try dsimp only at h3
      have a := hf i (by omega)
      have b := hf j (by omega)
      split at h3
      · rename_i g1
        split at h3
        · rename_i g2
          exact hi i j (by omega) (by omega) (g1.trans g2.symm)
        · have := hi n j (by omega) (by omega) h3
          omega
      · split at h3
        · have := hi i n (by omega) (by omega) h3
          omega
        · exact hi i j (by omega) (by omega) h3)
    by_cases h1 : v = f n
    · exact ⟨n, by omega, h1.symm⟩
    · have h2 := hf n (by omega)
      by_cases h3 : v = n
      · obtain ⟨i, h4, h5⟩ := ih (f n) (by omega)
        try dsimp only at h5
        split at h5
        · rename_i h6
          exact ⟨i, by omega, by omega⟩
        · have := hi i n (by omega) (by omega) h5
          omega
      · obtain ⟨i, h4, h5⟩ := ih v (by omega)
        try dsimp only at h5
        split at h5
        · omega
        · exact ⟨i, by omega, h5⟩
/-! TABLES: cells as numbers, 8 is an empty one -/
def zcl (e : Int32) (v : Nat) : Int32 := if v < 8 then nI v else e
abbrev tC : Type := Nat → Nat → Nat
def kT (M : zM) (k n : Nat) (c : tC) : Prop := M k 0 = nI n ∧ ∀ a b, a < n → b < n → M (k + 1) (8 * a + b) = zcl (-1) (c a b)
def rT (M : zM) (t n : Nat) (c : tC) : Prop := M 33 t = nI n ∧ ∀ a b, a < n → b < n → M 34 (64 * t + 8 * a + b) = zcl (-4) (c a b)
/-- a latin table with a unit, cells may be empty -/
def tO (n : Nat) (c : tC) : Prop := (1 ≤ n ∧ n ≤ 8) ∧ (∀ a, a < n → c 0 a = a ∧ c a 0 = a) ∧ (∀ a b, a < n → b < n → c a b < n ∨ c a b = 8) ∧ (∀ a b d, a < n → b < n → d < n → c a b = c a d → c a b < 8 → b = d) ∧ (∀ a b d, a < n → b < n → d < n → c a d = c b d → c a d < 8 → a = b)
def tF (n : Nat) (c : tC) : Prop := ∀ a b, a < n → b < n → c a b < n
def tE (c : tC) (n : Nat) (a : Nat) : Nat := zsum (fun b => if 8 ≤ c a b then 1 else 0) n
theorem tE_le (c : tC) (n a : Nat) : tE c n a ≤ n := zsum_b (fun i => by split <;> omega)
theorem zcl_lt {e : Int32} {v : Nat} (h : v < 8) : zcl e v = nI v := if_pos h
theorem zcl_ge {e : Int32} {v : Nat} (h : ¬ v < 8) : zcl e v = e := if_neg h
theorem zcl_m1 (v : Nat) : xe_cd .eq (zcl (-1) v) (-1) = decide (8 ≤ v) := by
  unfold zcl
  by_cases h : v < 8
  · rw [if_pos h]
    have : ¬ 8 ≤ v := by omega
    rw [decide_eq_false this]
    match v, h with
    | 0, _ => decide
    | 1, _ => decide
    | 2, _ => decide
    | 3, _ => decide
    | 4, _ => decide
    | 5, _ => decide
    | 6, _ => decide
    | 7, _ => decide
    | n + 8, h => omega
  · rw [if_neg h]
    have : 8 ≤ v := by omega
    rw [decide_eq_true this]
    decide
theorem zcl_m4 (v : Nat) : xe_cd .lt (zcl (-4) v) 0 = decide (8 ≤ v) := by
  unfold zcl
  by_cases h : v < 8
  · rw [if_pos h, zc_lt0 (by omega)]
    have : ¬ 8 ≤ v := by omega
    rw [decide_eq_false this]
  · rw [if_neg h]
    have : 8 ≤ v := by omega
    rw [decide_eq_true this]
    decide
theorem qT_cell {M : zM} {k n a b : Nat} {c : tC} (hk : ztb k) (h : kT M k n c) (h8 : n ≤ 8) (ha : a < n) (hb : b < n) : zf_Table_times [.ref k, .int (nI a), .int (nI b)] M = some (some (zcl (-1) (c a b)), M) := by
  rw [qT_times hk h.1 h8 ha hb, h.2 a b ha hb]
theorem qM_rcell {M : zM} {t n a b : Nat} {c : tC} (ht : t < 6) (h : rT M t n c) (h8 : n ≤ 8) (ha : a < n) (hb : b < n) : zf_M_cell [.ref 32, .int (nI t), .int (nI a), .int (nI b)] M = some (some (zcl (-4) (c a b)), M) := by
  rw [qM_cell (by omega), h.2 a b ha hb]
theorem qT_countEmpty2 {M : zM} {k n a x : Nat} {c : tC} (hk : ztb k) (h : kT M k n c) (h8 : n ≤ 8) (h0 : ∀ a, a < n → c a 0 = a) (ha : a < n) (hx : x ≤ 100) : zwh zc_Table_countEmpty_2 zs_Table_countEmpty_2 [some (Value.ref (k)), some (Value.int (nI x)), some (Value.int (nI a)), some (Value.int (nI 1))] M = some (none, [some (Value.ref (k)), some (Value.int (nI (x + tE c n a))), some (Value.int (nI a)), some (Value.int (nI n))], M) := by
  have e1 : tE c 1 a = 0 := by
    have := h0 a ha
    simp only [tE, zsum, this]
    rw [if_neg (by omega)]
  have hle : ∀ j, j ≤ n → tE c j a ≤ 8 := fun j hj => Nat.le_trans (tE_le c j a) (by omega)
  have R := zwh_up (c := zc_Table_countEmpty_2) (s := zs_Table_countEmpty_2) (fun j => [some (Value.ref (k)), some (Value.int (nI (x + tE c j a))), some (Value.int (nI a)), some (Value.int (nI j))]) (fun _ => M) (n := n) (n - 1) 1 (by omega) ?_ ?_ ?_
  · rw [e1] at R
    exact R
  · intro j h1 h2
    simp (disch := omega) [zc_Table_countEmpty_2, zmeth, xm_en, zret, zretz, zretv, zseq, zst, zinc, zkl, zskip, zk, zi, za, zbin, zdiv, zrem, zgi, zgr, zld, zldr, zlen, zn, zc, zcall, zcallv, zrcv, zdo, zdov, zpf, zpfc, zas, zasc, zmin, zmax, zcmp, zcz, zand_e, zor_e, zite_e, zbite_e, zif_e, znot_e, z_add, z_sub, z_mul, z_and, z_or, z_xor, z_shl, z_shr, zcpy, -List.getElem?_cons_succ, zg_0, zg_1, zg_2, zg_3, zg_4, zg_5, zg_6, zg_7, zg_8, zg_9, zc_lt, zc_le, zc_gt, zc_ge, zc_eq, zc_ne, zc_lt0, zc_ge0, zc_gt0, zc_eq0, zc_ne0, zb_ne, zb_eq, zb_01, z_00, z_01, z_11, zb_f, zb_T, zb_F, zbm1, zbm2, zbm5, zbm6, zbm3, zbm4, nI_clamp, zmod_n, pk_div, nI_ne0, pk_mul, nI_add, nI_1, ztb_tag hk, h.1, h2]
  · intro j h1 h2
    have e2 : tE c (j + 1) a = tE c j a + if 8 ≤ c a j then 1 else 0 := rfl
    by_cases hc : 8 ≤ c a j
    · simp (disch := omega) [zs_Table_countEmpty_2, zmeth, xm_en, zret, zretz, zretv, zseq, zst, zinc, zkl, zskip, zk, zi, za, zbin, zdiv, zrem, zgi, zgr, zld, zldr, zlen, zn, zc, zcall, zcallv, zrcv, zdo, zdov, zpf, zpfc, zas, zasc, zmin, zmax, zcmp, zcz, zand_e, zor_e, zite_e, zbite_e, zif_e, znot_e, z_add, z_sub, z_mul, z_and, z_or, z_xor, z_shl, z_shr, zcpy, -List.getElem?_cons_succ, zg_0, zg_1, zg_2, zg_3, zg_4, zg_5, zg_6, zg_7, zg_8, zg_9, zc_lt, zc_le, zc_gt, zc_ge, zc_eq, zc_ne, zc_lt0, zc_ge0, zc_gt0, zc_eq0, zc_ne0, zb_ne, zb_eq, zb_01, z_00, z_01, z_11, zb_f, zb_T, zb_F, zbm1, zbm2, zbm5, zbm6, zbm3, zbm4, nI_clamp, zmod_n, pk_div, nI_ne0, pk_mul, nI_add, nI_1, ztb_tag hk, qT_cell hk h h8 ha h2, zcl_m1, hc, e2, Nat.add_assoc]
    · simp (disch := omega) [zs_Table_countEmpty_2, zmeth, xm_en, zret, zretz, zretv, zseq, zst, zinc, zkl, zskip, zk, zi, za, zbin, zdiv, zrem, zgi, zgr, zld, zldr, zlen, zn, zc, zcall, zcallv, zrcv, zdo, zdov, zpf, zpfc, zas, zasc, zmin, zmax, zcmp, zcz, zand_e, zor_e, zite_e, zbite_e, zif_e, znot_e, z_add, z_sub, z_mul, z_and, z_or, z_xor, z_shl, z_shr, zcpy, -List.getElem?_cons_succ, zg_0, zg_1, zg_2, zg_3, zg_4, zg_5, zg_6, zg_7, zg_8, zg_9, zc_lt, zc_le, zc_gt, zc_ge, zc_eq, zc_ne, zc_lt0, zc_ge0, zc_gt0, zc_eq0, zc_ne0, zb_ne, zb_eq, zb_01, z_00, z_01, z_11, zb_f, zb_T, zb_F, zbm1, zbm2, zbm5, zbm6, zbm3, zbm4, nI_clamp, zmod_n, pk_div, nI_ne0, pk_mul, nI_add, nI_1, ztb_tag hk, qT_cell hk h h8 ha h2, zcl_m1, hc, e2]
  · simp (disch := omega) [zc_Table_countEmpty_2, zmeth, xm_en, zret, zretz, zretv, zseq, zst, zinc, zkl, zskip, zk, zi, za, zbin, zdiv, zrem, zgi, zgr, zld, zldr, zlen, zn, zc, zcall, zcallv, zrcv, zdo, zdov, zpf, zpfc, zas, zasc, zmin, zmax, zcmp, zcz, zand_e, zor_e, zite_e, zbite_e, zif_e, znot_e, z_add, z_sub, z_mul, z_and, z_or, z_xor, z_shl, z_shr, zcpy, -List.getElem?_cons_succ, zg_0, zg_1, zg_2, zg_3, zg_4, zg_5, zg_6, zg_7, zg_8, zg_9, zc_lt, zc_le, zc_gt, zc_ge, zc_eq, zc_ne, zc_lt0, zc_ge0, zc_gt0, zc_eq0, zc_ne0, zb_ne, zb_eq, zb_01, z_00, z_01, z_11, zb_f, zb_T, zb_F, zbm1, zbm2, zbm5, zbm6, zbm3, zbm4, nI_clamp, zmod_n, pk_div, nI_ne0, pk_mul, nI_add, nI_1, ztb_tag hk, h.1]
theorem tE_0 {n : Nat} {c : tC} (h : tO n c) : tE c n 0 = 0 := by
  refine zsum_0.mpr (fun i hi => ?_)
  rw [(h.2.1 i hi).1, if_neg (by have := h.1.2; omega)]
def tN (n : Nat) (c : tC) : Nat := zsum (tE c n) n
theorem tN_le {n : Nat} {c : tC} (h8 : n ≤ 8) {j : Nat} (hj : j ≤ 8) : zsum (tE c n) j ≤ 64 := by
  have := zsum_le (f := tE c n) (b := 8) (n := j) (fun i _ => Nat.le_trans (tE_le c n i) h8)
  omega
theorem qT_countEmpty {M : zM} {k n : Nat} {c : tC} (hk : ztb k) (h : kT M k n c) (ho : tO n c) : zf_Table_countEmpty [.ref k] M = some (some (nI (tN n c)), M) := by
  have h8 := ho.1.2
  have h1 := ho.1.1
  have R := zwh_up (c := zc_Table_countEmpty_1) (s := zs_Table_countEmpty_1) (fun j => [some (Value.ref (k)), some (Value.int (nI (zsum (tE c n) j))), some (Value.int (nI j)), none]) (fun _ => M) (n := n) (n - 1) 1 (by omega) ?_ ?_ ?_
  · have e1 : zsum (tE c n) 1 = 0 := by simp [zsum, tE_0 ho]
    rw [e1] at R
    simp (disch := omega) [zf_Table_countEmpty, zmeth, xm_en, zret, zretz, zretv, zseq, zst, zinc, zkl, zskip, zk, zi, za, zbin, zdiv, zrem, zgi, zgr, zld, zldr, zlen, zn, zc, zcall, zcallv, zrcv, zdo, zdov, zpf, zpfc, zas, zasc, zmin, zmax, zcmp, zcz, zand_e, zor_e, zite_e, zbite_e, zif_e, znot_e, z_add, z_sub, z_mul, z_and, z_or, z_xor, z_shl, z_shr, zcpy, -List.getElem?_cons_succ, zg_0, zg_1, zg_2, zg_3, zg_4, zg_5, zg_6, zg_7, zg_8, zg_9, R, tN]
  · intro j h1 h2
    simp (disch := omega) [zc_Table_countEmpty_1, zmeth, xm_en, zret, zretz, zretv, zseq, zst, zinc, zkl, zskip, zk, zi, za, zbin, zdiv, zrem, zgi, zgr, zld, zldr, zlen, zn, zc, zcall, zcallv, zrcv, zdo, zdov, zpf, zpfc, zas, zasc, zmin, zmax, zcmp, zcz, zand_e, zor_e, zite_e, zbite_e, zif_e, znot_e, z_add, z_sub, z_mul, z_and, z_or, z_xor, z_shl, z_shr, zcpy, -List.getElem?_cons_succ, zg_0, zg_1, zg_2, zg_3, zg_4, zg_5, zg_6, zg_7, zg_8, zg_9, zc_lt, zc_le, zc_gt, zc_ge, zc_eq, zc_ne, zc_lt0, zc_ge0, zc_gt0, zc_eq0, zc_ne0, zb_ne, zb_eq, zb_01, z_00, z_01, z_11, zb_f, zb_T, zb_F, zbm1, zbm2, zbm5, zbm6, zbm3, zbm4, nI_clamp, zmod_n, pk_div, nI_ne0, pk_mul, nI_add, nI_1, ztb_tag hk, h.1, h2]
  · intro j h3 h4
    have h5 := tN_le (c := c) h8 (j := j) (by omega)
    have R2 := qT_countEmpty2 (x := zsum (tE c n) j) hk h h8 (fun a ha => (ho.2.1 a ha).2) h4 (by omega)
    simp (disch := omega) [zs_Table_countEmpty_1, zmeth, xm_en, zret, zretz, zretv, zseq, zst, zinc, zkl, zskip, zk, zi, za, zbin, zdiv, zrem, zgi, zgr, zld, zldr, zlen, zn, zc, zcall, zcallv, zrcv, zdo, zdov, zpf, zpfc, zas, zasc, zmin, zmax, zcmp, zcz, zand_e, zor_e, zite_e, zbite_e, zif_e, znot_e, z_add, z_sub, z_mul, z_and, z_or, z_xor, z_shl, z_shr, zcpy, -List.getElem?_cons_succ, zg_0, zg_1, zg_2, zg_3, zg_4, zg_5, zg_6, zg_7, zg_8, zg_9, zc_lt, zc_le, zc_gt, zc_ge, zc_eq, zc_ne, zc_lt0, zc_ge0, zc_gt0, zc_eq0, zc_ne0, zb_ne, zb_eq, zb_01, z_00, z_01, z_11, zb_f, zb_T, zb_F, zbm1, zbm2, zbm5, zbm6, zbm3, zbm4, nI_clamp, zmod_n, pk_div, nI_ne0, pk_mul, nI_add, nI_1, R2, zsum]
  · simp (disch := omega) [zc_Table_countEmpty_1, zmeth, xm_en, zret, zretz, zretv, zseq, zst, zinc, zkl, zskip, zk, zi, za, zbin, zdiv, zrem, zgi, zgr, zld, zldr, zlen, zn, zc, zcall, zcallv, zrcv, zdo, zdov, zpf, zpfc, zas, zasc, zmin, zmax, zcmp, zcz, zand_e, zor_e, zite_e, zbite_e, zif_e, znot_e, z_add, z_sub, z_mul, z_and, z_or, z_xor, z_shl, z_shr, zcpy, -List.getElem?_cons_succ, zg_0, zg_1, zg_2, zg_3, zg_4, zg_5, zg_6, zg_7, zg_8, zg_9, zc_lt, zc_le, zc_gt, zc_ge, zc_eq, zc_ne, zc_lt0, zc_ge0, zc_gt0, zc_eq0, zc_ne0, zb_ne, zb_eq, zb_01, z_00, z_01, z_11, zb_f, zb_T, zb_F, zbm1, zbm2, zbm5, zbm6, zbm3, zbm4, nI_clamp, zmod_n, pk_div, nI_ne0, pk_mul, nI_add, nI_1, ztb_tag hk, h.1]
def tB (n : Nat) (c : tC) : Bool := decide (tN n c = 0)
theorem tB_iff {n : Nat} {c : tC} (h : tO n c) : tB n c = true ↔ tF n c := by
  unfold tB tN
  rw [decide_eq_true_eq, zsum_0]
  constructor
  · intro g a b ha hb
    have g1 := zsum_0.mp (g a ha) b hb
    rcases h.2.2.1 a b ha hb with q | q
    · exact q
    · rw [q] at g1
      simp at g1
  · intro g a ha
    refine zsum_0.mpr (fun b hb => ?_)
    have := g a b ha hb
    rw [if_neg (by have := h.1.2; omega)]
theorem qT_isFull {M : zM} {k n : Nat} {c : tC} (hk : ztb k) (h : kT M k n c) (ho : tO n c) : zf_Table_isFull [.ref k] M = some (some (zb (tB n c)), M) := by
  have h5 := tN_le (c := c) ho.1.2 ho.1.2
  have h6 : tN n c < 2 ^ 31 := by unfold tN; omega
  simp (disch := omega) [zf_Table_isFull, zmeth, xm_en, zret, zretz, zretv, zseq, zst, zinc, zkl, zskip, zk, zi, za, zbin, zdiv, zrem, zgi, zgr, zld, zldr, zlen, zn, zc, zcall, zcallv, zrcv, zdo, zdov, zpf, zpfc, zas, zasc, zmin, zmax, zcmp, zcz, zand_e, zor_e, zite_e, zbite_e, zif_e, znot_e, z_add, z_sub, z_mul, z_and, z_or, z_xor, z_shl, z_shr, zcpy, -List.getElem?_cons_succ, zg_0, zg_1, zg_2, zg_3, zg_4, zg_5, zg_6, zg_7, zg_8, zg_9, zc_lt, zc_le, zc_gt, zc_ge, zc_eq, zc_ne, zc_lt0, zc_ge0, zc_gt0, zc_eq0, zc_ne0, zb_ne, zb_eq, zb_01, z_00, z_01, z_11, zb_f, zb_T, zb_F, zbm1, zbm2, zbm5, zbm6, zbm3, zbm4, nI_clamp, zmod_n, pk_div, nI_ne0, pk_mul, nI_add, nI_1, ztb_tag hk, qT_countEmpty hk h ho, tB]
theorem zcl_eq {e : Int32} {v w : Nat} (hw : w < 8) (he : e < 0) : xe_cd .eq (zcl e v) (nI w) = decide (v = w) := by
  unfold zcl
  by_cases h : v < 8
  · rw [if_pos h, zc_eq (by omega) (by omega)]
  · rw [if_neg h]
    have h2 : ¬ v = w := by omega
    rw [decide_eq_false h2]
    show decide (e = nI w) = false
    refine decide_eq_false (fun h3 => ?_)
    rw [h3] at he
    exact nI_pos (by omega) he
theorem zcl_eq1 {v w : Nat} (hw : w < 8) : xe_cd .eq (zcl (-1) v) (nI w) = decide (v = w) := zcl_eq hw (by decide)
theorem zcl_eq4 {v w : Nat} (hw : w < 8) : xe_cd .eq (zcl (-4) v) (nI w) = decide (v = w) := zcl_eq hw (by decide)
theorem qT_hasInLines {M : zM} {k n a b w : Nat} {c : tC} (hk : ztb k) (h : kT M k n c) (h8 : n ≤ 8) (ha : a < n) (hb : b < n) (hw : w < 8) : zf_Table_hasInLines [.ref k, .int (nI a), .int (nI b), .int (nI w)] M = some (some (zb (decide (zidx (fun x => decide (c a x = w) || decide (c x b = w)) 0 n < n))), M) := by
  have R := zwh_find (c := zc_Table_hasInLines_1) (s := zs_Table_hasInLines_1) (fun j => [some (Value.ref (k)), some (Value.int (nI a)), some (Value.int (nI b)), some (Value.int (nI w)), some (Value.int (nI j))]) M (fun x => decide (c a x = w) || decide (c x b = w)) (fun _ => some (nI 1)) (fun j => [some (Value.ref (k)), some (Value.int (nI a)), some (Value.int (nI b)), some (Value.int (nI w)), some (Value.int (nI j))]) (n := n) ?_ n 0 (by omega) ?_ ?_ ?_
  · by_cases hz : zidx (fun x => decide (c a x = w) || decide (c x b = w)) 0 n < n
    · rw [if_pos hz] at R
      simp (disch := omega) [zf_Table_hasInLines, zmeth, xm_en, zret, zretz, zretv, zseq, zst, zinc, zkl, zskip, zk, zi, za, zbin, zdiv, zrem, zgi, zgr, zld, zldr, zlen, zn, zc, zcall, zcallv, zrcv, zdo, zdov, zpf, zpfc, zas, zasc, zmin, zmax, zcmp, zcz, zand_e, zor_e, zite_e, zbite_e, zif_e, znot_e, z_add, z_sub, z_mul, z_and, z_or, z_xor, z_shl, z_shr, zcpy, -List.getElem?_cons_succ, zg_0, zg_1, zg_2, zg_3, zg_4, zg_5, zg_6, zg_7, zg_8, zg_9, R, hz, zb, z_00]
    · rw [if_neg hz] at R
      simp (disch := omega) [zf_Table_hasInLines, zmeth, xm_en, zret, zretz, zretv, zseq, zst, zinc, zkl, zskip, zk, zi, za, zbin, zdiv, zrem, zgi, zgr, zld, zldr, zlen, zn, zc, zcall, zcallv, zrcv, zdo, zdov, zpf, zpfc, zas, zasc, zmin, zmax, zcmp, zcz, zand_e, zor_e, zite_e, zbite_e, zif_e, znot_e, z_add, z_sub, z_mul, z_and, z_or, z_xor, z_shl, z_shr, zcpy, -List.getElem?_cons_succ, zg_0, zg_1, zg_2, zg_3, zg_4, zg_5, zg_6, zg_7, zg_8, zg_9, R, hz, zb, z_00]
  · simp (disch := omega) [zc_Table_hasInLines_1, zmeth, xm_en, zret, zretz, zretv, zseq, zst, zinc, zkl, zskip, zk, zi, za, zbin, zdiv, zrem, zgi, zgr, zld, zldr, zlen, zn, zc, zcall, zcallv, zrcv, zdo, zdov, zpf, zpfc, zas, zasc, zmin, zmax, zcmp, zcz, zand_e, zor_e, zite_e, zbite_e, zif_e, znot_e, z_add, z_sub, z_mul, z_and, z_or, z_xor, z_shl, z_shr, zcpy, -List.getElem?_cons_succ, zg_0, zg_1, zg_2, zg_3, zg_4, zg_5, zg_6, zg_7, zg_8, zg_9, zc_lt, zc_le, zc_gt, zc_ge, zc_eq, zc_ne, zc_lt0, zc_ge0, zc_gt0, zc_eq0, zc_ne0, zb_ne, zb_eq, zb_01, z_00, z_01, z_11, zb_f, zb_T, zb_F, zbm1, zbm2, zbm5, zbm6, zbm3, zbm4, nI_clamp, zmod_n, pk_div, nI_ne0, pk_mul, nI_add, nI_1, ztb_tag hk, h.1]
  · intro j _ h2
    simp (disch := omega) [zc_Table_hasInLines_1, zmeth, xm_en, zret, zretz, zretv, zseq, zst, zinc, zkl, zskip, zk, zi, za, zbin, zdiv, zrem, zgi, zgr, zld, zldr, zlen, zn, zc, zcall, zcallv, zrcv, zdo, zdov, zpf, zpfc, zas, zasc, zmin, zmax, zcmp, zcz, zand_e, zor_e, zite_e, zbite_e, zif_e, znot_e, z_add, z_sub, z_mul, z_and, z_or, z_xor, z_shl, z_shr, zcpy, -List.getElem?_cons_succ, zg_0, zg_1, zg_2, zg_3, zg_4, zg_5, zg_6, zg_7, zg_8, zg_9, zc_lt, zc_le, zc_gt, zc_ge, zc_eq, zc_ne, zc_lt0, zc_ge0, zc_gt0, zc_eq0, zc_ne0, zb_ne, zb_eq, zb_01, z_00, z_01, z_11, zb_f, zb_T, zb_F, zbm1, zbm2, zbm5, zbm6, zbm3, zbm4, nI_clamp, zmod_n, pk_div, nI_ne0, pk_mul, nI_add, nI_1, ztb_tag hk, h.1, h2]
  · intro j _ h2 hp
    simp only [Bool.or_eq_false_iff, decide_eq_false_iff_not] at hp
    simp (disch := omega) [zs_Table_hasInLines_1, zmeth, xm_en, zret, zretz, zretv, zseq, zst, zinc, zkl, zskip, zk, zi, za, zbin, zdiv, zrem, zgi, zgr, zld, zldr, zlen, zn, zc, zcall, zcallv, zrcv, zdo, zdov, zpf, zpfc, zas, zasc, zmin, zmax, zcmp, zcz, zand_e, zor_e, zite_e, zbite_e, zif_e, znot_e, z_add, z_sub, z_mul, z_and, z_or, z_xor, z_shl, z_shr, zcpy, -List.getElem?_cons_succ, zg_0, zg_1, zg_2, zg_3, zg_4, zg_5, zg_6, zg_7, zg_8, zg_9, zc_lt, zc_le, zc_gt, zc_ge, zc_eq, zc_ne, zc_lt0, zc_ge0, zc_gt0, zc_eq0, zc_ne0, zb_ne, zb_eq, zb_01, z_00, z_01, z_11, zb_f, zb_T, zb_F, zbm1, zbm2, zbm5, zbm6, zbm3, zbm4, nI_clamp, zmod_n, pk_div, nI_ne0, pk_mul, nI_add, nI_1, ztb_tag hk, qT_cell hk h h8 ha h2, qT_cell hk h h8 h2 hb, zcl_eq1 hw, hp.1, hp.2]
  · intro j _ h2 hp
    simp (disch := omega) [zs_Table_hasInLines_1, zmeth, xm_en, zret, zretz, zretv, zseq, zst, zinc, zkl, zskip, zk, zi, za, zbin, zdiv, zrem, zgi, zgr, zld, zldr, zlen, zn, zc, zcall, zcallv, zrcv, zdo, zdov, zpf, zpfc, zas, zasc, zmin, zmax, zcmp, zcz, zand_e, zor_e, zite_e, zbite_e, zif_e, znot_e, z_add, z_sub, z_mul, z_and, z_or, z_xor, z_shl, z_shr, zcpy, -List.getElem?_cons_succ, zg_0, zg_1, zg_2, zg_3, zg_4, zg_5, zg_6, zg_7, zg_8, zg_9, zc_lt, zc_le, zc_gt, zc_ge, zc_eq, zc_ne, zc_lt0, zc_ge0, zc_gt0, zc_eq0, zc_ne0, zb_ne, zb_eq, zb_01, z_00, z_01, z_11, zb_f, zb_T, zb_F, zbm1, zbm2, zbm5, zbm6, zbm3, zbm4, nI_clamp, zmod_n, pk_div, nI_ne0, pk_mul, nI_add, nI_1, ztb_tag hk, qT_cell hk h h8 ha h2, qT_cell hk h h8 h2 hb, zcl_eq1 hw]
    by_cases h5 : c a j = w
    · simp [h5, z_11]
    · have h6 : c j b = w := by simpa [h5] using hp
      simp [h5, h6, z_11]
theorem qT_under {M : zM} {k n a w : Nat} {c : tC} (hk : ztb k) (h : kT M k n c) (h8 : n ≤ 8) (ha : a < n) (hw : w < 8) (hx : zidx (fun b => decide (c a b = w)) 0 n < n) : zf_Table_under [.ref k, .int (nI a), .int (nI w)] M = some (some (nI (zidx (fun b => decide (c a b = w)) 0 n)), M) := by
  have R := zwh_find (c := zc_Table_under_1) (s := zs_Table_under_1) (fun j => [some (Value.ref (k)), some (Value.int (nI a)), some (Value.int (nI w)), some (Value.int (nI j))]) M (fun b => decide (c a b = w)) (fun j => some (nI j)) (fun j => [some (Value.ref (k)), some (Value.int (nI a)), some (Value.int (nI w)), some (Value.int (nI j))]) (n := n) ?_ n 0 (by omega) ?_ ?_ ?_
  · rw [if_pos hx] at R
    simp (disch := omega) [zf_Table_under, zmeth, xm_en, zret, zretz, zretv, zseq, zst, zinc, zkl, zskip, zk, zi, za, zbin, zdiv, zrem, zgi, zgr, zld, zldr, zlen, zn, zc, zcall, zcallv, zrcv, zdo, zdov, zpf, zpfc, zas, zasc, zmin, zmax, zcmp, zcz, zand_e, zor_e, zite_e, zbite_e, zif_e, znot_e, z_add, z_sub, z_mul, z_and, z_or, z_xor, z_shl, z_shr, zcpy, -List.getElem?_cons_succ, zg_0, zg_1, zg_2, zg_3, zg_4, zg_5, zg_6, zg_7, zg_8, zg_9, R]
  · simp (disch := omega) [zc_Table_under_1, zmeth, xm_en, zret, zretz, zretv, zseq, zst, zinc, zkl, zskip, zk, zi, za, zbin, zdiv, zrem, zgi, zgr, zld, zldr, zlen, zn, zc, zcall, zcallv, zrcv, zdo, zdov, zpf, zpfc, zas, zasc, zmin, zmax, zcmp, zcz, zand_e, zor_e, zite_e, zbite_e, zif_e, znot_e, z_add, z_sub, z_mul, z_and, z_or, z_xor, z_shl, z_shr, zcpy, -List.getElem?_cons_succ, zg_0, zg_1, zg_2, zg_3, zg_4, zg_5, zg_6, zg_7, zg_8, zg_9, zc_lt, zc_le, zc_gt, zc_ge, zc_eq, zc_ne, zc_lt0, zc_ge0, zc_gt0, zc_eq0, zc_ne0, zb_ne, zb_eq, zb_01, z_00, z_01, z_11, zb_f, zb_T, zb_F, zbm1, zbm2, zbm5, zbm6, zbm3, zbm4, nI_clamp, zmod_n, pk_div, nI_ne0, pk_mul, nI_add, nI_1, ztb_tag hk, h.1]
  · intro j _ h2
    simp (disch := omega) [zc_Table_under_1, zmeth, xm_en, zret, zretz, zretv, zseq, zst, zinc, zkl, zskip, zk, zi, za, zbin, zdiv, zrem, zgi, zgr, zld, zldr, zlen, zn, zc, zcall, zcallv, zrcv, zdo, zdov, zpf, zpfc, zas, zasc, zmin, zmax, zcmp, zcz, zand_e, zor_e, zite_e, zbite_e, zif_e, znot_e, z_add, z_sub, z_mul, z_and, z_or, z_xor, z_shl, z_shr, zcpy, -List.getElem?_cons_succ, zg_0, zg_1, zg_2, zg_3, zg_4, zg_5, zg_6, zg_7, zg_8, zg_9, zc_lt, zc_le, zc_gt, zc_ge, zc_eq, zc_ne, zc_lt0, zc_ge0, zc_gt0, zc_eq0, zc_ne0, zb_ne, zb_eq, zb_01, z_00, z_01, z_11, zb_f, zb_T, zb_F, zbm1, zbm2, zbm5, zbm6, zbm3, zbm4, nI_clamp, zmod_n, pk_div, nI_ne0, pk_mul, nI_add, nI_1, ztb_tag hk, h.1, h2]
  · intro j _ h2 hp
    simp (disch := omega) [zs_Table_under_1, zmeth, xm_en, zret, zretz, zretv, zseq, zst, zinc, zkl, zskip, zk, zi, za, zbin, zdiv, zrem, zgi, zgr, zld, zldr, zlen, zn, zc, zcall, zcallv, zrcv, zdo, zdov, zpf, zpfc, zas, zasc, zmin, zmax, zcmp, zcz, zand_e, zor_e, zite_e, zbite_e, zif_e, znot_e, z_add, z_sub, z_mul, z_and, z_or, z_xor, z_shl, z_shr, zcpy, -List.getElem?_cons_succ, zg_0, zg_1, zg_2, zg_3, zg_4, zg_5, zg_6, zg_7, zg_8, zg_9, zc_lt, zc_le, zc_gt, zc_ge, zc_eq, zc_ne, zc_lt0, zc_ge0, zc_gt0, zc_eq0, zc_ne0, zb_ne, zb_eq, zb_01, z_00, z_01, z_11, zb_f, zb_T, zb_F, zbm1, zbm2, zbm5, zbm6, zbm3, zbm4, nI_clamp, zmod_n, pk_div, nI_ne0, pk_mul, nI_add, nI_1, ztb_tag hk, qT_cell hk h h8 ha h2, zcl_eq1 hw, hp]
  · intro j _ h2 hp
    simp (disch := omega) [zs_Table_under_1, zmeth, xm_en, zret, zretz, zretv, zseq, zst, zinc, zkl, zskip, zk, zi, za, zbin, zdiv, zrem, zgi, zgr, zld, zldr, zlen, zn, zc, zcall, zcallv, zrcv, zdo, zdov, zpf, zpfc, zas, zasc, zmin, zmax, zcmp, zcz, zand_e, zor_e, zite_e, zbite_e, zif_e, znot_e, z_add, z_sub, z_mul, z_and, z_or, z_xor, z_shl, z_shr, zcpy, -List.getElem?_cons_succ, zg_0, zg_1, zg_2, zg_3, zg_4, zg_5, zg_6, zg_7, zg_8, zg_9, zc_lt, zc_le, zc_gt, zc_ge, zc_eq, zc_ne, zc_lt0, zc_ge0, zc_gt0, zc_eq0, zc_ne0, zb_ne, zb_eq, zb_01, z_00, z_01, z_11, zb_f, zb_T, zb_F, zbm1, zbm2, zbm5, zbm6, zbm3, zbm4, nI_clamp, zmod_n, pk_div, nI_ne0, pk_mul, nI_add, nI_1, ztb_tag hk, qT_cell hk h h8 ha h2, zcl_eq1 hw, hp]
theorem qT_over {M : zM} {k n b w : Nat} {c : tC} (hk : ztb k) (h : kT M k n c) (h8 : n ≤ 8) (hb : b < n) (hw : w < 8) (hx : zidx (fun a => decide (c a b = w)) 0 n < n) : zf_Table_over [.ref k, .int (nI w), .int (nI b)] M = some (some (nI (zidx (fun a => decide (c a b = w)) 0 n)), M) := by
  have R := zwh_find (c := zc_Table_over_1) (s := zs_Table_over_1) (fun j => [some (Value.ref (k)), some (Value.int (nI w)), some (Value.int (nI b)), some (Value.int (nI j))]) M (fun a => decide (c a b = w)) (fun j => some (nI j)) (fun j => [some (Value.ref (k)), some (Value.int (nI w)), some (Value.int (nI b)), some (Value.int (nI j))]) (n := n) ?_ n 0 (by omega) ?_ ?_ ?_
  · rw [if_pos hx] at R
    simp (disch := omega) [zf_Table_over, zmeth, xm_en, zret, zretz, zretv, zseq, zst, zinc, zkl, zskip, zk, zi, za, zbin, zdiv, zrem, zgi, zgr, zld, zldr, zlen, zn, zc, zcall, zcallv, zrcv, zdo, zdov, zpf, zpfc, zas, zasc, zmin, zmax, zcmp, zcz, zand_e, zor_e, zite_e, zbite_e, zif_e, znot_e, z_add, z_sub, z_mul, z_and, z_or, z_xor, z_shl, z_shr, zcpy, -List.getElem?_cons_succ, zg_0, zg_1, zg_2, zg_3, zg_4, zg_5, zg_6, zg_7, zg_8, zg_9, R]
  · simp (disch := omega) [zc_Table_over_1, zmeth, xm_en, zret, zretz, zretv, zseq, zst, zinc, zkl, zskip, zk, zi, za, zbin, zdiv, zrem, zgi, zgr, zld, zldr, zlen, zn, zc, zcall, zcallv, zrcv, zdo, zdov, zpf, zpfc, zas, zasc, zmin, zmax, zcmp, zcz, zand_e, zor_e, zite_e, zbite_e, zif_e, znot_e, z_add, z_sub, z_mul, z_and, z_or, z_xor, z_shl, z_shr, zcpy, -List.getElem?_cons_succ, zg_0, zg_1, zg_2, zg_3, zg_4, zg_5, zg_6, zg_7, zg_8, zg_9, zc_lt, zc_le, zc_gt, zc_ge, zc_eq, zc_ne, zc_lt0, zc_ge0, zc_gt0, zc_eq0, zc_ne0, zb_ne, zb_eq, zb_01, z_00, z_01, z_11, zb_f, zb_T, zb_F, zbm1, zbm2, zbm5, zbm6, zbm3, zbm4, nI_clamp, zmod_n, pk_div, nI_ne0, pk_mul, nI_add, nI_1, ztb_tag hk, h.1]
  · intro j _ h2
    simp (disch := omega) [zc_Table_over_1, zmeth, xm_en, zret, zretz, zretv, zseq, zst, zinc, zkl, zskip, zk, zi, za, zbin, zdiv, zrem, zgi, zgr, zld, zldr, zlen, zn, zc, zcall, zcallv, zrcv, zdo, zdov, zpf, zpfc, zas, zasc, zmin, zmax, zcmp, zcz, zand_e, zor_e, zite_e, zbite_e, zif_e, znot_e, z_add, z_sub, z_mul, z_and, z_or, z_xor, z_shl, z_shr, zcpy, -List.getElem?_cons_succ, zg_0, zg_1, zg_2, zg_3, zg_4, zg_5, zg_6, zg_7, zg_8, zg_9, zc_lt, zc_le, zc_gt, zc_ge, zc_eq, zc_ne, zc_lt0, zc_ge0, zc_gt0, zc_eq0, zc_ne0, zb_ne, zb_eq, zb_01, z_00, z_01, z_11, zb_f, zb_T, zb_F, zbm1, zbm2, zbm5, zbm6, zbm3, zbm4, nI_clamp, zmod_n, pk_div, nI_ne0, pk_mul, nI_add, nI_1, ztb_tag hk, h.1, h2]
  · intro j _ h2 hp
    simp (disch := omega) [zs_Table_over_1, zmeth, xm_en, zret, zretz, zretv, zseq, zst, zinc, zkl, zskip, zk, zi, za, zbin, zdiv, zrem, zgi, zgr, zld, zldr, zlen, zn, zc, zcall, zcallv, zrcv, zdo, zdov, zpf, zpfc, zas, zasc, zmin, zmax, zcmp, zcz, zand_e, zor_e, zite_e, zbite_e, zif_e, znot_e, z_add, z_sub, z_mul, z_and, z_or, z_xor, z_shl, z_shr, zcpy, -List.getElem?_cons_succ, zg_0, zg_1, zg_2, zg_3, zg_4, zg_5, zg_6, zg_7, zg_8, zg_9, zc_lt, zc_le, zc_gt, zc_ge, zc_eq, zc_ne, zc_lt0, zc_ge0, zc_gt0, zc_eq0, zc_ne0, zb_ne, zb_eq, zb_01, z_00, z_01, z_11, zb_f, zb_T, zb_F, zbm1, zbm2, zbm5, zbm6, zbm3, zbm4, nI_clamp, zmod_n, pk_div, nI_ne0, pk_mul, nI_add, nI_1, ztb_tag hk, qT_cell hk h h8 h2 hb, zcl_eq1 hw, hp]
  · intro j _ h2 hp
    simp (disch := omega) [zs_Table_over_1, zmeth, xm_en, zret, zretz, zretv, zseq, zst, zinc, zkl, zskip, zk, zi, za, zbin, zdiv, zrem, zgi, zgr, zld, zldr, zlen, zn, zc, zcall, zcallv, zrcv, zdo, zdov, zpf, zpfc, zas, zasc, zmin, zmax, zcmp, zcz, zand_e, zor_e, zite_e, zbite_e, zif_e, znot_e, z_add, z_sub, z_mul, z_and, z_or, z_xor, z_shl, z_shr, zcpy, -List.getElem?_cons_succ, zg_0, zg_1, zg_2, zg_3, zg_4, zg_5, zg_6, zg_7, zg_8, zg_9, zc_lt, zc_le, zc_gt, zc_ge, zc_eq, zc_ne, zc_lt0, zc_ge0, zc_gt0, zc_eq0, zc_ne0, zb_ne, zb_eq, zb_01, z_00, z_01, z_11, zb_f, zb_T, zb_F, zbm1, zbm2, zbm5, zbm6, zbm3, zbm4, nI_clamp, zmod_n, pk_div, nI_ne0, pk_mul, nI_add, nI_1, ztb_tag hk, qT_cell hk h h8 h2 hb, zcl_eq1 hw, hp]
/-! a row is filled, a table is begun anew, is taken over -/
def zfl (M : zM) (k N : Nat) (v : Int32) : zM := fun q j => if q = k ∧ j < N then v else M q j
theorem qA_fill {M : zM} {k N : Nat} {v : Int32} (hk : xp_sh[k]? = some (0, N)) (hN : N < 1000) : zf_Arrays_fill [.ref k, .int v] M = some (none, zfl M k N v) := by
  have e0 : zfl M k 0 v = M := by funext q j; simp [zfl]
  have eS : ∀ i, zup (zfl M k i v) k i v = zfl M k (i + 1) v := fun i => by
    funext q j
    rw [zup_e]
    unfold zfl
    by_cases h1 : q = k
    · by_cases h2 : j = i
      · simp [h1, h2]
      · have : j < i + 1 ↔ j < i := by omega
        simp [h1, h2, this]
    · simp [h1]
  have R := zwh_up (c := zc_Arrays_fill_1) (s := zs_Arrays_fill_1) (fun j => [some (Value.ref (k)), some (Value.int (v)), some (Value.int (nI j)), some (Value.int (nI N))]) (fun i => zfl M k i v) (n := N) N 0 (by omega) ?_ ?_ ?_
  · rw [e0] at R
    have hl : Int32.ofNat N = nI N := rfl
    simp (disch := omega) [zf_Arrays_fill, zmeth, xm_en, zret, zretz, zretv, zseq, zst, zinc, zkl, zskip, zk, zi, za, zbin, zdiv, zrem, zgi, zgr, zld, zldr, zlen, zn, zc, zcall, zcallv, zrcv, zdo, zdov, zpf, zpfc, zas, zasc, zmin, zmax, zcmp, zcz, zand_e, zor_e, zite_e, zbite_e, zif_e, znot_e, z_add, z_sub, z_mul, z_and, z_or, z_xor, z_shl, z_shr, zcpy, -List.getElem?_cons_succ, zg_0, zg_1, zg_2, zg_3, zg_4, zg_5, zg_6, zg_7, zg_8, zg_9, hk, hl, R]
  · intro j _ h2
    simp (disch := omega) [zc_Arrays_fill_1, zmeth, xm_en, zret, zretz, zretv, zseq, zst, zinc, zkl, zskip, zk, zi, za, zbin, zdiv, zrem, zgi, zgr, zld, zldr, zlen, zn, zc, zcall, zcallv, zrcv, zdo, zdov, zpf, zpfc, zas, zasc, zmin, zmax, zcmp, zcz, zand_e, zor_e, zite_e, zbite_e, zif_e, znot_e, z_add, z_sub, z_mul, z_and, z_or, z_xor, z_shl, z_shr, zcpy, -List.getElem?_cons_succ, zg_0, zg_1, zg_2, zg_3, zg_4, zg_5, zg_6, zg_7, zg_8, zg_9, zc_lt, zc_le, zc_gt, zc_ge, zc_eq, zc_ne, zc_lt0, zc_ge0, zc_gt0, zc_eq0, zc_ne0, zb_ne, zb_eq, zb_01, z_00, z_01, z_11, zb_f, zb_T, zb_F, zbm1, zbm2, zbm5, zbm6, zbm3, zbm4, nI_clamp, zmod_n, pk_div, nI_ne0, pk_mul, nI_add, nI_1, h2]
  · intro j _ h2
    simp (disch := omega) [zs_Arrays_fill_1, zmeth, xm_en, zret, zretz, zretv, zseq, zst, zinc, zkl, zskip, zk, zi, za, zbin, zdiv, zrem, zgi, zgr, zld, zldr, zlen, zn, zc, zcall, zcallv, zrcv, zdo, zdov, zpf, zpfc, zas, zasc, zmin, zmax, zcmp, zcz, zand_e, zor_e, zite_e, zbite_e, zif_e, znot_e, z_add, z_sub, z_mul, z_and, z_or, z_xor, z_shl, z_shr, zcpy, -List.getElem?_cons_succ, zg_0, zg_1, zg_2, zg_3, zg_4, zg_5, zg_6, zg_7, zg_8, zg_9, zc_lt, zc_le, zc_gt, zc_ge, zc_eq, zc_ne, zc_lt0, zc_ge0, zc_gt0, zc_eq0, zc_ne0, zb_ne, zb_eq, zb_01, z_00, z_01, z_11, zb_f, zb_T, zb_F, zbm1, zbm2, zbm5, zbm6, zbm3, zbm4, nI_clamp, zmod_n, pk_div, nI_ne0, pk_mul, nI_add, nI_1, zin_nI hk h2, eS]
  · simp (disch := omega) [zc_Arrays_fill_1, zmeth, xm_en, zret, zretz, zretv, zseq, zst, zinc, zkl, zskip, zk, zi, za, zbin, zdiv, zrem, zgi, zgr, zld, zldr, zlen, zn, zc, zcall, zcallv, zrcv, zdo, zdov, zpf, zpfc, zas, zasc, zmin, zmax, zcmp, zcz, zand_e, zor_e, zite_e, zbite_e, zif_e, znot_e, z_add, z_sub, z_mul, z_and, z_or, z_xor, z_shl, z_shr, zcpy, -List.getElem?_cons_succ, zg_0, zg_1, zg_2, zg_3, zg_4, zg_5, zg_6, zg_7, zg_8, zg_9, zc_lt, zc_le, zc_gt, zc_ge, zc_eq, zc_ne, zc_lt0, zc_ge0, zc_gt0, zc_eq0, zc_ne0, zb_ne, zb_eq, zb_01, z_00, z_01, z_11, zb_f, zb_T, zb_F, zbm1, zbm2, zbm5, zbm6, zbm3, zbm4, nI_clamp, zmod_n, pk_div, nI_ne0, pk_mul, nI_add, nI_1]
def zrs (M : zM) (k m i : Nat) : zM := fun q j => if q = k ∧ j = 0 then nI m else if q = k + 1 ∧ j < 64 then (if j < i then nI j else if j % 8 = 0 ∧ j / 8 < i then nI (j / 8) else -1) else M q j
theorem qT_restart {M : zM} {k m : Nat} (hk : ztb k) (h1 : 1 ≤ m) (h8 : m ≤ 8) : zf_Table_restart [.ref k, .int (nI m)] M = some (none, zrs M k m m) := by
  have hmin : (if nI 8 < nI m then nI 8 else nI m) = nI m := if_neg (nI_nlt h8 (by omega))
  have hmax : (if nI 1 < nI m then nI m else nI 1) = nI m := by
    by_cases hm : 1 < m
    · rw [if_pos (nI_lt hm (by omega))]
    · have : m = 1 := by omega
      subst this
      rw [if_neg (nI_nlt (by omega) (by omega))]
  have e0 : zfl (zup M k 0 (nI m)) (k + 1) 64 (-1) = zrs M k m 0 := by
    funext q j
    simp only [zfl, zrs, zup_e]
    by_cases h2 : q = k
    · have : ¬ q = k + 1 := by omega
      simp [h2, this]
    · by_cases h3 : q = k + 1
      · simp [h2, h3]
      · simp [h2, h3]
  have hn : ∀ i, (zrs M k m i) k 0 = nI m := fun i => by simp [zrs]
  have eS : ∀ i, i < 8 → zup (zup (zrs M k m i) (k + 1) i (nI i)) (k + 1) (8 * i) (nI i) = zrs M k m (i + 1) := fun i hi => by
    funext q j
    simp only [zrs, zup_e]
    by_cases h2 : q = k
    · have : ¬ q = k + 1 := by omega
      simp [h2, this]
    · by_cases h3 : q = k + 1
      · have hz : ¬ (k + 1 = k ∧ j = 0) := by omega
        simp only [h3, true_and, if_neg hz]
        by_cases h4 : j = 8 * i
        · rw [if_pos h4, if_pos (by omega)]
          by_cases h5 : j < i + 1
          · rw [if_pos h5]; congr 1; omega
          · rw [if_neg h5, if_pos ⟨by omega, by omega⟩]; congr 1; omega
        · rw [if_neg h4]
          by_cases h5 : j = i
          · rw [if_pos h5, if_pos (by omega), if_pos (by omega), h5]
          · rw [if_neg h5]
            have h6 : j < i + 1 ↔ j < i := by omega
            have h7 : (j % 8 = 0 ∧ j / 8 < i + 1) ↔ (j % 8 = 0 ∧ j / 8 < i) := by omega
            simp only [h6, h7]
      · simp [h2, h3]
  have R := zwh_up (c := zc_Table_restart_1) (s := zs_Table_restart_1) (fun j => [some (Value.ref (k)), some (Value.int (nI m)), some (Value.int (nI j))]) (fun i => zrs M k m i) (n := m) m 0 (by omega) ?_ ?_ ?_
  · rw [← e0] at R
    simp (disch := omega) [zf_Table_restart, zmeth, xm_en, zret, zretz, zretv, zseq, zst, zinc, zkl, zskip, zk, zi, za, zbin, zdiv, zrem, zgi, zgr, zld, zldr, zlen, zn, zc, zcall, zcallv, zrcv, zdo, zdov, zpf, zpfc, zas, zasc, zmin, zmax, zcmp, zcz, zand_e, zor_e, zite_e, zbite_e, zif_e, znot_e, z_add, z_sub, z_mul, z_and, z_or, z_xor, z_shl, z_shr, zcpy, -List.getElem?_cons_succ, zg_0, zg_1, zg_2, zg_3, zg_4, zg_5, zg_6, zg_7, zg_8, zg_9, ztb_tag hk, ztb_rf hk, hmin, hmax, qA_fill (ztb_sh hk) (by decide), R]
  · intro j _ h2
    simp (disch := omega) [zc_Table_restart_1, zmeth, xm_en, zret, zretz, zretv, zseq, zst, zinc, zkl, zskip, zk, zi, za, zbin, zdiv, zrem, zgi, zgr, zld, zldr, zlen, zn, zc, zcall, zcallv, zrcv, zdo, zdov, zpf, zpfc, zas, zasc, zmin, zmax, zcmp, zcz, zand_e, zor_e, zite_e, zbite_e, zif_e, znot_e, z_add, z_sub, z_mul, z_and, z_or, z_xor, z_shl, z_shr, zcpy, -List.getElem?_cons_succ, zg_0, zg_1, zg_2, zg_3, zg_4, zg_5, zg_6, zg_7, zg_8, zg_9, zc_lt, zc_le, zc_gt, zc_ge, zc_eq, zc_ne, zc_lt0, zc_ge0, zc_gt0, zc_eq0, zc_ne0, zb_ne, zb_eq, zb_01, z_00, z_01, z_11, zb_f, zb_T, zb_F, zbm1, zbm2, zbm5, zbm6, zbm3, zbm4, nI_clamp, zmod_n, pk_div, nI_ne0, pk_mul, nI_add, nI_1, ztb_tag hk, hn, h2]
  · intro j _ h2
    have p1 := qT_put (M := zrs M k m j) (v := nI j) (a := 0) (b := j) hk (hn j) h8 (by omega) h2
    have p2 := qT_put (M := zup (zrs M k m j) (k + 1) (8 * 0 + j) (nI j)) (v := nI j) (a := j) (b := 0) hk (by rw [zup_e, if_neg (by omega)]; exact hn j) h8 h2 (by omega)
    have e3 := eS j (by omega)
    simp only [Nat.mul_zero, Nat.zero_add, Nat.add_zero] at p1 p2
    simp (disch := omega) [zs_Table_restart_1, zmeth, xm_en, zret, zretz, zretv, zseq, zst, zinc, zkl, zskip, zk, zi, za, zbin, zdiv, zrem, zgi, zgr, zld, zldr, zlen, zn, zc, zcall, zcallv, zrcv, zdo, zdov, zpf, zpfc, zas, zasc, zmin, zmax, zcmp, zcz, zand_e, zor_e, zite_e, zbite_e, zif_e, znot_e, z_add, z_sub, z_mul, z_and, z_or, z_xor, z_shl, z_shr, zcpy, -List.getElem?_cons_succ, zg_0, zg_1, zg_2, zg_3, zg_4, zg_5, zg_6, zg_7, zg_8, zg_9, zc_lt, zc_le, zc_gt, zc_ge, zc_eq, zc_ne, zc_lt0, zc_ge0, zc_gt0, zc_eq0, zc_ne0, zb_ne, zb_eq, zb_01, z_00, z_01, z_11, zb_f, zb_T, zb_F, zbm1, zbm2, zbm5, zbm6, zbm3, zbm4, nI_clamp, zmod_n, pk_div, nI_ne0, pk_mul, nI_add, nI_1, ztb_tag hk, p1, p2, e3]
  · simp (disch := omega) [zc_Table_restart_1, zmeth, xm_en, zret, zretz, zretv, zseq, zst, zinc, zkl, zskip, zk, zi, za, zbin, zdiv, zrem, zgi, zgr, zld, zldr, zlen, zn, zc, zcall, zcallv, zrcv, zdo, zdov, zpf, zpfc, zas, zasc, zmin, zmax, zcmp, zcz, zand_e, zor_e, zite_e, zbite_e, zif_e, znot_e, z_add, z_sub, z_mul, z_and, z_or, z_xor, z_shl, z_shr, zcpy, -List.getElem?_cons_succ, zg_0, zg_1, zg_2, zg_3, zg_4, zg_5, zg_6, zg_7, zg_8, zg_9, zc_lt, zc_le, zc_gt, zc_ge, zc_eq, zc_ne, zc_lt0, zc_ge0, zc_gt0, zc_eq0, zc_ne0, zb_ne, zb_eq, zb_01, z_00, z_01, z_11, zb_f, zb_T, zb_F, zbm1, zbm2, zbm5, zbm6, zbm3, zbm4, nI_clamp, zmod_n, pk_div, nI_ne0, pk_mul, nI_add, nI_1, ztb_tag hk, hn]
def tNew : tC := fun a b => if a = 0 then b else if b = 0 then a else 8
theorem kT_new {M : zM} {k m : Nat} (h8 : m ≤ 8) : kT (zrs M k m m) k m tNew := by
  refine ⟨by simp [zrs], fun a b ha hb => ?_⟩
  have h1 : ¬ (k + 1 = k ∧ 8 * a + b = 0) := by omega
  have h2 : k + 1 = k + 1 ∧ 8 * a + b < 64 := by omega
  unfold zrs
  rw [if_neg h1, if_pos h2]
  unfold tNew
  by_cases h3 : a = 0
  · rw [if_pos (by omega), if_pos h3, zcl_lt (by omega)]
    congr 1
    omega
  · rw [if_neg (by omega), if_neg h3]
    by_cases h4 : b = 0
    · rw [if_pos (by omega), if_pos h4, zcl_lt (by omega)]
      congr 1
      omega
    · rw [if_neg (by omega), if_neg h4, zcl_ge (by omega)]
theorem tO_new {m : Nat} (h1 : 1 ≤ m) (h8 : m ≤ 8) : tO m tNew := by
  refine ⟨⟨h1, h8⟩, fun a ha => ?_, fun a b ha hb => ?_, fun a b d ha hb hd h h9 => ?_, fun a b d ha hb hd h h9 => ?_⟩
  · unfold tNew
    constructor
    · simp
    · split <;> simp [*]
  · unfold tNew
    split
    · omega
    · split <;> omega
  · by_cases ha0 : a = 0
    · simp [tNew, ha0] at h
      exact h
    · by_cases hb0 : b = 0
      · by_cases hd0 : d = 0
        · omega
        · simp [tNew, ha0, hb0, hd0] at h h9
          omega
      · simp [tNew, ha0, hb0] at h9
  · by_cases hd0 : d = 0
    · simp [tNew, hd0] at h
      by_cases ha0 : a = 0
      · simp [ha0] at h
        omega
      · by_cases hb0 : b = 0
        · simp [ha0, hb0] at h
        · simp [ha0, hb0] at h
          exact h
    · by_cases ha0 : a = 0
      · by_cases hb0 : b = 0
        · omega
        · simp [tNew, ha0, hb0, hd0] at h h9
          omega
      · simp [tNew, ha0, hd0] at h9
def zto (M : zM) (k k2 : Nat) : zM := fun q j => if q = k ∧ j = 0 then M k2 0 else if q = k + 1 ∧ j < 64 then M (k2 + 1) j else M q j
theorem ztb_ne {k k2 : Nat} (h : ztb k) (h2 : ztb k2) : k ≠ k2 + 1 := by
  rcases h with h | h | h | h | h | h | h | h <;> rcases h2 with g | g | g | g | g | g | g | g <;> omega
theorem qT_takeOver {M : zM} {k k2 : Nat} (hk : ztb k) (hk2 : ztb k2) : zf_Table_takeOver [.ref k, .ref k2] M = some (none, zto M k k2) := by
  have e : va_up (zup M k 0 (M k2 0)) (k + 1) (va_cpy (zup M k 0 (M k2 0) (k2 + 1)) (zup M k 0 (M k2 0) (k + 1)) 0 0 64) = zto M k k2 := by
    have n1 := ztb_ne hk hk2
    funext q j
    unfold va_up
    by_cases h1 : q = k + 1
    · rw [if_pos h1]
      unfold zto
      rw [if_neg (by omega)]
      by_cases h2 : j < 64
      · rw [pk_cpy_in (by omega) (by omega), zup_e, if_neg (by omega), if_pos ⟨h1, h2⟩]
        congr 1
        omega
      · rw [pk_cpy_out (by omega), zup_e, if_neg (by omega), if_neg (by omega), h1]
    · rw [if_neg h1, zup_e]
      unfold zto
      simp [h1]
  simp (disch := omega) [zf_Table_takeOver, zmeth, xm_en, zret, zretz, zretv, zseq, zst, zinc, zkl, zskip, zk, zi, za, zbin, zdiv, zrem, zgi, zgr, zld, zldr, zlen, zn, zc, zcall, zcallv, zrcv, zdo, zdov, zpf, zpfc, zas, zasc, zmin, zmax, zcmp, zcz, zand_e, zor_e, zite_e, zbite_e, zif_e, znot_e, z_add, z_sub, z_mul, z_and, z_or, z_xor, z_shl, z_shr, zcpy, -List.getElem?_cons_succ, zg_0, zg_1, zg_2, zg_3, zg_4, zg_5, zg_6, zg_7, zg_8, zg_9, ztb_tag hk, ztb_tag hk2, ztb_rf hk, ztb_rf hk2, ztb_in hk, ztb_in hk2, e]
theorem kT_to {M : zM} {k k2 n : Nat} {c : tC} (hk : ztb k) (hk2 : ztb k2) (h8 : n ≤ 8) (h : kT M k2 n c) : kT (zto M k k2) k n c := by
  refine ⟨by simp [zto]; exact h.1, fun a b ha hb => ?_⟩
  unfold zto
  rw [if_neg (by omega), if_pos ⟨rfl, by omega⟩]
  exact h.2 a b ha hb
/-! THE STATE of both sides, and the small methods that look at arguments -/
abbrev tS : Type := Nat → Nat × tC
def CS (T : tS) (M : zM) : Prop := ∀ t, t < 4 → kT M (2 + 2 * t) (T t).1 (T t).2
def RS (T : tS) (M : zM) : Prop := ∀ t, t < 4 → rT M t (T t).1 (T t).2
def TO (T : tS) : Prop := ∀ t, t < 4 → tO (T t).1 (T t).2
def zlo (M M' : zM) : Prop := ∀ k j, k < 32 → M' k j = M k j
def zhi (M M' : zM) : Prop := ∀ k j, 32 ≤ k → M' k j = M k j
/-- only the class's scratch has changed -/
def zsc (M M' : zM) : Prop := ∀ k j, k < 10 ∨ 32 ≤ k → M' k j = M k j
/-- only the reference's scratch has changed -/
def zsr (M M' : zM) : Prop := ∀ k j, k < 32 ∨ (k = 33 ∧ j < 4) ∨ (k = 34 ∧ j < 256) → M' k j = M k j
def tset (T : tS) (s n : Nat) (c : tC) : tS := fun t => if t = s then (n, c) else T t
theorem zsc.refl (M : zM) : zsc M M := fun _ _ _ => rfl
theorem zsr.refl (M : zM) : zsr M M := fun _ _ _ => rfl
theorem zsc.trans {M M1 M2 : zM} (h : zsc M M1) (h2 : zsc M1 M2) : zsc M M2 := fun k j q => (h2 k j q).trans (h k j q)
theorem zsr.trans {M M1 M2 : zM} (h : zsr M M1) (h2 : zsr M1 M2) : zsr M M2 := fun k j q => (h2 k j q).trans (h k j q)
theorem zsc.hi {M M' : zM} (h : zsc M M') : zhi M M' := fun k j q => h k j (Or.inr q)
theorem zsr.lo {M M' : zM} (h : zsr M M') : zlo M M' := fun k j q => h k j (Or.inl q)
theorem zhi.trans {M M1 M2 : zM} (h : zhi M M1) (h2 : zhi M1 M2) : zhi M M2 := fun k j q => (h2 k j q).trans (h k j q)
theorem zlo.trans {M M1 M2 : zM} (h : zlo M M1) (h2 : zlo M1 M2) : zlo M M2 := fun k j q => (h2 k j q).trans (h k j q)
theorem zhi.refl (M : zM) : zhi M M := fun _ _ _ => rfl
theorem zlo.refl (M : zM) : zlo M M := fun _ _ _ => rfl
theorem kT.same {M M' : zM} {k n : Nat} {c : tC} (h : kT M k n c) (h1 : ∀ j, M' k j = M k j) (h2 : ∀ j, M' (k + 1) j = M (k + 1) j) : kT M' k n c := ⟨(h1 0).trans h.1, fun a b ha hb => (h2 _).trans (h.2 a b ha hb)⟩
theorem CS.sc {T : tS} {M M' : zM} (h : CS T M) (h2 : zsc M M') : CS T M' := fun t ht => (h t ht).same (fun j => h2 _ j (Or.inl (by omega))) (fun j => h2 _ j (Or.inl (by omega)))
theorem CS.lo {T : tS} {M M' : zM} (h : CS T M) (h2 : zlo M M') : CS T M' := fun t ht => (h t ht).same (fun j => h2 _ j (by omega)) (fun j => h2 _ j (by omega))
theorem rT.same {M M' : zM} {t n : Nat} {c : tC} (h8 : n ≤ 8) (h : rT M t n c) (h1 : M' 33 t = M 33 t) (h2 : ∀ j, 64 * t ≤ j → j < 64 * t + 64 → M' 34 j = M 34 j) : rT M' t n c := ⟨h1.trans h.1, fun a b ha hb => (h2 _ (by omega) (by omega)).trans (h.2 a b ha hb)⟩
theorem RS.sr {T : tS} {M M' : zM} (hT : TO T) (h : RS T M) (h2 : zsr M M') : RS T M' := fun t ht => (h t ht).same (hT t ht).1.2 (h2 _ _ (Or.inr (Or.inl ⟨rfl, ht⟩))) (fun j _ g => h2 _ _ (Or.inr (Or.inr ⟨rfl, by omega⟩)))
theorem RS.hi {T : tS} {M M' : zM} (hT : TO T) (h : RS T M) (h2 : zhi M M') : RS T M' := fun t ht => (h t ht).same (hT t ht).1.2 (h2 _ _ (by omega)) (fun j _ _ => h2 _ _ (by omega))
theorem tb4 {t : Nat} (h : t < 4) : ztb (2 + 2 * t) := by
  match t, h with
  | 0, _ => exact Or.inl rfl
  | 1, _ => exact Or.inr (Or.inl rfl)
  | 2, _ => exact Or.inr (Or.inr (Or.inl rfl))
  | 3, _ => exact Or.inr (Or.inr (Or.inr (Or.inl rfl)))
theorem tb10 : ztb 10 := by unfold ztb; omega
theorem tb13 : ztb 13 := by unfold ztb; omega
theorem tb15 : ztb 15 := by unfold ztb; omega
theorem tb27 : ztb 27 := by unfold ztb; omega
/-! arguments -/
theorem z3 (x : Int32) {n : Nat} (hn : n < 2 ^ 31) : zlt x n = false ∨ ∃ j, j < n ∧ x = nI j := by
  cases h : zlt x n with
  | false => exact Or.inl rfl
  | true => exact Or.inr (zlt_t hn h)
theorem zlt_i (x : Int32) {n : Nat} (hn : n < 2 ^ 31) : zlt x n = decide (0 ≤ x.toInt ∧ x.toInt < n) := by
  unfold zlt
  rw [Bool.eq_iff_iff]
  simp only [Bool.and_eq_true, Bool.not_eq_true', decide_eq_false_iff_not, decide_eq_true_eq, Int32.lt_iff_toInt_lt, nI_toInt hn]
  have e : (0 : Int32).toInt = 0 := by decide
  rw [e]
  omega
theorem qL_isTable {M : zM} {x : Int32} : zf_L_isTable [.int x] M = some (some (zb (zlt x 4)), M) := by
  simp [zf_L_isTable, zmeth, xm_en, zret, zretz, zretv, zseq, zst, zinc, zkl, zskip, zk, zi, za, zbin, zdiv, zrem, zgi, zgr, zld, zldr, zlen, zn, zc, zcall, zcallv, zrcv, zdo, zdov, zpf, zpfc, zas, zasc, zmin, zmax, zcmp, zcz, zand_e, zor_e, zite_e, zbite_e, zif_e, znot_e, z_add, z_sub, z_mul, z_and, z_or, z_xor, z_shl, z_shr, zcpy, -List.getElem?_cons_succ, zg_0, zg_1, zg_2, zg_3, zg_4, zg_5, zg_6, zg_7, zg_8, zg_9, qL_isBelow, zb_01]
theorem qM_in {M : zM} {x lo hi : Int32} : zf_M_in [.int x, .int lo, .int hi] M = some (some (zb (xe_cd .ge x lo && xe_cd .le x hi)), M) := by
  simp [zf_M_in, zmeth, xm_en, zret, zretz, zretv, zseq, zst, zinc, zkl, zskip, zk, zi, za, zbin, zdiv, zrem, zgi, zgr, zld, zldr, zlen, zn, zc, zcall, zcallv, zrcv, zdo, zdov, zpf, zpfc, zas, zasc, zmin, zmax, zcmp, zcz, zand_e, zor_e, zite_e, zbite_e, zif_e, znot_e, z_add, z_sub, z_mul, z_and, z_or, z_xor, z_shl, z_shr, zcpy, -List.getElem?_cons_succ, zg_0, zg_1, zg_2, zg_3, zg_4, zg_5, zg_6, zg_7, zg_8, zg_9, zbm2, zbm3, zbm4, zb_f, zb_01]
theorem zin0 (x : Int32) {m : Nat} (hm : m < 2 ^ 30) : (xe_cd .ge x (nI 0) && xe_cd .le x (nI m)) = zlt x (m + 1) := by
  rw [zlt_i x (by omega), Bool.eq_iff_iff]
  simp only [xe_cd, Bool.and_eq_true, decide_eq_true_eq, Int32.le_iff_toInt_le, nI_toInt (n := 0) (by decide), nI_toInt (n := m) (by omega)]
  omega
theorem zin1 (x : Int32) {m : Nat} (hm : m < 2 ^ 30) : (xe_cd .ge x (nI 1) && xe_cd .le x (nI m)) = (zlt x (m + 1) && !decide (x = nI 0)) := by
  rw [zlt_i x (by omega), Bool.eq_iff_iff]
  simp only [xe_cd, Bool.and_eq_true, Bool.not_eq_true', decide_eq_false_iff_not, decide_eq_true_eq, Int32.le_iff_toInt_le, nI_toInt (n := 1) (by decide), nI_toInt (n := m) (by omega)]
  have e : x = nI 0 ↔ x.toInt = 0 := by
    rw [← Int32.toInt_inj, nI_toInt (n := 0) (by decide)]
    rfl
  rw [e]
  omega
theorem qM_isTable {M : zM} {x : Int32} : zf_M_isTable [.int x] M = some (some (zb (zlt x 4)), M) := by
  simp [zf_M_isTable, zmeth, xm_en, zret, zretz, zretv, zseq, zst, zinc, zkl, zskip, zk, zi, za, zbin, zdiv, zrem, zgi, zgr, zld, zldr, zlen, zn, zc, zcall, zcallv, zrcv, zdo, zdov, zpf, zpfc, zas, zasc, zmin, zmax, zcmp, zcz, zand_e, zor_e, zite_e, zbite_e, zif_e, znot_e, z_add, z_sub, z_mul, z_and, z_or, z_xor, z_shl, z_shr, zcpy, -List.getElem?_cons_succ, zg_0, zg_1, zg_2, zg_3, zg_4, zg_5, zg_6, zg_7, zg_8, zg_9, qM_in, zin0, zb_01]
theorem qL_isElement {T : tS} {M : zM} {t : Nat} {x : Int32} (hC : CS T M) (ht : t < 4) : zf_L_isElement [.ref 0, .int (nI t), .int x] M = some (some (zb (zlt x (T t).1)), M) := by
  simp (disch := omega) [zf_L_isElement, zmeth, xm_en, zret, zretz, zretv, zseq, zst, zinc, zkl, zskip, zk, zi, za, zbin, zdiv, zrem, zgi, zgr, zld, zldr, zlen, zn, zc, zcall, zcallv, zrcv, zdo, zdov, zpf, zpfc, zas, zasc, zmin, zmax, zcmp, zcz, zand_e, zor_e, zite_e, zbite_e, zif_e, znot_e, z_add, z_sub, z_mul, z_and, z_or, z_xor, z_shl, z_shr, zcpy, -List.getElem?_cons_succ, zg_0, zg_1, zg_2, zg_3, zg_4, zg_5, zg_6, zg_7, zg_8, zg_9, zt_0, zt_12, zt_20, zt_26, zt_32, zf_0_0, zf_0_1, zf_0_2, zf_0_3, zf_0_4, zf_12_0, zf_12_1, zf_12_2, zf_12_4, zf_12_5, zf_20_1, zf_20_2, zf_20_3, zf_20_4, zf_20_6, zf_26_0, zf_26_1, zf_26_2, zf_26_3, zf_32_0, zf_32_1, zf_32_3, zf_32_4, zf_32_5, zf_32_6, zi_1, zf_1, nI_clamp, ztb_tag (tb4 ht), (hC t ht).1, qL_isBelow, zb_01]
theorem nI_m1 {n : Nat} (h : 1 ≤ n) : nI n - nI 1 = nI (n - 1) := pk_sub h
theorem qM_isElement {T : tS} {M : zM} {t : Nat} {x : Int32} (hR : RS T M) (hT : TO T) (ht : t < 4) : zf_M_isElement [.ref 32, .int (nI t), .int x] M = some (some (zb (zlt x (T t).1)), M) := by
  have h1 := (hT t ht).1
  have e : (T t).1 - 1 + 1 = (T t).1 := by omega
  simp (disch := omega) [zf_M_isElement, zmeth, xm_en, zret, zretz, zretv, zseq, zst, zinc, zkl, zskip, zk, zi, za, zbin, zdiv, zrem, zgi, zgr, zld, zldr, zlen, zn, zc, zcall, zcallv, zrcv, zdo, zdov, zpf, zpfc, zas, zasc, zmin, zmax, zcmp, zcz, zand_e, zor_e, zite_e, zbite_e, zif_e, znot_e, z_add, z_sub, z_mul, z_and, z_or, z_xor, z_shl, z_shr, zcpy, -List.getElem?_cons_succ, zg_0, zg_1, zg_2, zg_3, zg_4, zg_5, zg_6, zg_7, zg_8, zg_9, zt_0, zt_12, zt_20, zt_26, zt_32, zf_0_0, zf_0_1, zf_0_2, zf_0_3, zf_0_4, zf_12_0, zf_12_1, zf_12_2, zf_12_4, zf_12_5, zf_20_1, zf_20_2, zf_20_3, zf_20_4, zf_20_6, zf_26_0, zf_26_1, zf_26_2, zf_26_3, zf_32_0, zf_32_1, zf_32_3, zf_32_4, zf_32_5, zf_32_6, zi_33, nI_clamp, (hR t ht).1, qM_in, nI_m1, zin0, zb_01, e]
theorem qL_orNone {M : zM} (v : Nat) : zf_L_orNone [.int (zcl (-1) v)] M = some (some (zcl (-4) v), M) := by
  by_cases h : v < 8
  · have e : decide (8 ≤ v) = false := decide_eq_false (by omega)
    simp [zf_L_orNone, zmeth, xm_en, zret, zretz, zretv, zseq, zst, zinc, zkl, zskip, zk, zi, za, zbin, zdiv, zrem, zgi, zgr, zld, zldr, zlen, zn, zc, zcall, zcallv, zrcv, zdo, zdov, zpf, zpfc, zas, zasc, zmin, zmax, zcmp, zcz, zand_e, zor_e, zite_e, zbite_e, zif_e, znot_e, z_add, z_sub, z_mul, z_and, z_or, z_xor, z_shl, z_shr, zcpy, -List.getElem?_cons_succ, zg_0, zg_1, zg_2, zg_3, zg_4, zg_5, zg_6, zg_7, zg_8, zg_9, zcl_m1, e]
    rw [zcl_lt h, zcl_lt h]
  · have e : decide (8 ≤ v) = true := decide_eq_true (by omega)
    simp [zf_L_orNone, zmeth, xm_en, zret, zretz, zretv, zseq, zst, zinc, zkl, zskip, zk, zi, za, zbin, zdiv, zrem, zgi, zgr, zld, zldr, zlen, zn, zc, zcall, zcallv, zrcv, zdo, zdov, zpf, zpfc, zas, zasc, zmin, zmax, zcmp, zcz, zand_e, zor_e, zite_e, zbite_e, zif_e, znot_e, z_add, z_sub, z_mul, z_and, z_or, z_xor, z_shl, z_shr, zcpy, -List.getElem?_cons_succ, zg_0, zg_1, zg_2, zg_3, zg_4, zg_5, zg_6, zg_7, zg_8, zg_9, zcl_m1, e]
    rw [zcl_ge h]
/-! size, at, empty, table: both sides -/
theorem tx {n : Nat} {x : Int32} (h : zlt x n = false) : zlt x n = false := h
def aSize (T : tS) (x : Int32) : Int32 := bif zlt x 4 then nI (T x.toNatClampNeg).1 else -1
theorem qL_size {T : tS} {M : zM} (x : Int32) (hC : CS T M) : zf_L_size [.ref 0, .int x] M = some (some (aSize T x), M) := by
  rcases z3 x (n := 4) (by decide) with h | ⟨t, ht, rfl⟩
  · simp [zf_L_size, zmeth, xm_en, zret, zretz, zretv, zseq, zst, zinc, zkl, zskip, zk, zi, za, zbin, zdiv, zrem, zgi, zgr, zld, zldr, zlen, zn, zc, zcall, zcallv, zrcv, zdo, zdov, zpf, zpfc, zas, zasc, zmin, zmax, zcmp, zcz, zand_e, zor_e, zite_e, zbite_e, zif_e, znot_e, z_add, z_sub, z_mul, z_and, z_or, z_xor, z_shl, z_shr, zcpy, -List.getElem?_cons_succ, zg_0, zg_1, zg_2, zg_3, zg_4, zg_5, zg_6, zg_7, zg_8, zg_9, qL_isTable, zb_ne, h, aSize]
  · have e : zlt (nI t) 4 = true := by rw [zlt_nI (by omega) (by decide)]; simpa using ht
    simp (disch := omega) [zf_L_size, zmeth, xm_en, zret, zretz, zretv, zseq, zst, zinc, zkl, zskip, zk, zi, za, zbin, zdiv, zrem, zgi, zgr, zld, zldr, zlen, zn, zc, zcall, zcallv, zrcv, zdo, zdov, zpf, zpfc, zas, zasc, zmin, zmax, zcmp, zcz, zand_e, zor_e, zite_e, zbite_e, zif_e, znot_e, z_add, z_sub, z_mul, z_and, z_or, z_xor, z_shl, z_shr, zcpy, -List.getElem?_cons_succ, zg_0, zg_1, zg_2, zg_3, zg_4, zg_5, zg_6, zg_7, zg_8, zg_9, zt_0, zt_12, zt_20, zt_26, zt_32, zf_0_0, zf_0_1, zf_0_2, zf_0_3, zf_0_4, zf_12_0, zf_12_1, zf_12_2, zf_12_4, zf_12_5, zf_20_1, zf_20_2, zf_20_3, zf_20_4, zf_20_6, zf_26_0, zf_26_1, zf_26_2, zf_26_3, zf_32_0, zf_32_1, zf_32_3, zf_32_4, zf_32_5, zf_32_6, qL_isTable, zb_ne, e, aSize, zi_1, zf_1, nI_clamp, ztb_tag (tb4 ht), (hC t ht).1]
theorem qM_size {T : tS} {M : zM} (x : Int32) (hR : RS T M) : zf_M_size [.ref 32, .int x] M = some (some (aSize T x), M) := by
  rcases z3 x (n := 4) (by decide) with h | ⟨t, ht, rfl⟩
  · simp [zf_M_size, zmeth, xm_en, zret, zretz, zretv, zseq, zst, zinc, zkl, zskip, zk, zi, za, zbin, zdiv, zrem, zgi, zgr, zld, zldr, zlen, zn, zc, zcall, zcallv, zrcv, zdo, zdov, zpf, zpfc, zas, zasc, zmin, zmax, zcmp, zcz, zand_e, zor_e, zite_e, zbite_e, zif_e, znot_e, z_add, z_sub, z_mul, z_and, z_or, z_xor, z_shl, z_shr, zcpy, -List.getElem?_cons_succ, zg_0, zg_1, zg_2, zg_3, zg_4, zg_5, zg_6, zg_7, zg_8, zg_9, qM_isTable, zb_ne, h, aSize]
  · have e : zlt (nI t) 4 = true := by rw [zlt_nI (by omega) (by decide)]; simpa using ht
    simp (disch := omega) [zf_M_size, zmeth, xm_en, zret, zretz, zretv, zseq, zst, zinc, zkl, zskip, zk, zi, za, zbin, zdiv, zrem, zgi, zgr, zld, zldr, zlen, zn, zc, zcall, zcallv, zrcv, zdo, zdov, zpf, zpfc, zas, zasc, zmin, zmax, zcmp, zcz, zand_e, zor_e, zite_e, zbite_e, zif_e, znot_e, z_add, z_sub, z_mul, z_and, z_or, z_xor, z_shl, z_shr, zcpy, -List.getElem?_cons_succ, zg_0, zg_1, zg_2, zg_3, zg_4, zg_5, zg_6, zg_7, zg_8, zg_9, zt_0, zt_12, zt_20, zt_26, zt_32, zf_0_0, zf_0_1, zf_0_2, zf_0_3, zf_0_4, zf_12_0, zf_12_1, zf_12_2, zf_12_4, zf_12_5, zf_20_1, zf_20_2, zf_20_3, zf_20_4, zf_20_6, zf_26_0, zf_26_1, zf_26_2, zf_26_3, zf_32_0, zf_32_1, zf_32_3, zf_32_4, zf_32_5, zf_32_6, qM_isTable, zb_ne, e, aSize, zi_33, nI_clamp, (hR t ht).1]
def aAt (T : tS) (x y z : Int32) : Int32 := bif zlt x 4 && (zlt y (T x.toNatClampNeg).1 && zlt z (T x.toNatClampNeg).1) then zcl (-4) ((T x.toNatClampNeg).2 y.toNatClampNeg z.toNatClampNeg) else -1
theorem zlt_y {t n : Nat} (ht : t < n) (hn : n < 2 ^ 31) : zlt (nI t) n = true := by rw [zlt_nI (by omega) hn]; simpa using ht
theorem qL_at {T : tS} {M : zM} (x y z : Int32) (hC : CS T M) (hT : TO T) : zf_L_at [.ref 0, .int x, .int y, .int z] M = some (some (aAt T x y z), M) := by
  rcases z3 x (n := 4) (by decide) with h | ⟨t, ht, rfl⟩
  · simp [zf_L_at, zmeth, xm_en, zret, zretz, zretv, zseq, zst, zinc, zkl, zskip, zk, zi, za, zbin, zdiv, zrem, zgi, zgr, zld, zldr, zlen, zn, zc, zcall, zcallv, zrcv, zdo, zdov, zpf, zpfc, zas, zasc, zmin, zmax, zcmp, zcz, zand_e, zor_e, zite_e, zbite_e, zif_e, znot_e, z_add, z_sub, z_mul, z_and, z_or, z_xor, z_shl, z_shr, zcpy, -List.getElem?_cons_succ, zg_0, zg_1, zg_2, zg_3, zg_4, zg_5, zg_6, zg_7, zg_8, zg_9, qL_isTable, zb_ne, h, aAt]
  · have e := zlt_y ht (by decide)
    have h8 := (hT t ht).1.2
    rcases z3 y (n := (T t).1) (by omega) with h | ⟨a, ha, rfl⟩
    · simp (disch := omega) [zf_L_at, zmeth, xm_en, zret, zretz, zretv, zseq, zst, zinc, zkl, zskip, zk, zi, za, zbin, zdiv, zrem, zgi, zgr, zld, zldr, zlen, zn, zc, zcall, zcallv, zrcv, zdo, zdov, zpf, zpfc, zas, zasc, zmin, zmax, zcmp, zcz, zand_e, zor_e, zite_e, zbite_e, zif_e, znot_e, z_add, z_sub, z_mul, z_and, z_or, z_xor, z_shl, z_shr, zcpy, -List.getElem?_cons_succ, zg_0, zg_1, zg_2, zg_3, zg_4, zg_5, zg_6, zg_7, zg_8, zg_9, zt_0, zt_12, zt_20, zt_26, zt_32, zf_0_0, zf_0_1, zf_0_2, zf_0_3, zf_0_4, zf_12_0, zf_12_1, zf_12_2, zf_12_4, zf_12_5, zf_20_1, zf_20_2, zf_20_3, zf_20_4, zf_20_6, zf_26_0, zf_26_1, zf_26_2, zf_26_3, zf_32_0, zf_32_1, zf_32_3, zf_32_4, zf_32_5, zf_32_6, qL_isTable, zb_ne, e, aAt, qL_isElement hC ht, nI_clamp, h]
    · have e2 := zlt_y ha (by omega)
      rcases z3 z (n := (T t).1) (by omega) with h | ⟨b, hb, rfl⟩
      · simp (disch := omega) [zf_L_at, zmeth, xm_en, zret, zretz, zretv, zseq, zst, zinc, zkl, zskip, zk, zi, za, zbin, zdiv, zrem, zgi, zgr, zld, zldr, zlen, zn, zc, zcall, zcallv, zrcv, zdo, zdov, zpf, zpfc, zas, zasc, zmin, zmax, zcmp, zcz, zand_e, zor_e, zite_e, zbite_e, zif_e, znot_e, z_add, z_sub, z_mul, z_and, z_or, z_xor, z_shl, z_shr, zcpy, -List.getElem?_cons_succ, zg_0, zg_1, zg_2, zg_3, zg_4, zg_5, zg_6, zg_7, zg_8, zg_9, zt_0, zt_12, zt_20, zt_26, zt_32, zf_0_0, zf_0_1, zf_0_2, zf_0_3, zf_0_4, zf_12_0, zf_12_1, zf_12_2, zf_12_4, zf_12_5, zf_20_1, zf_20_2, zf_20_3, zf_20_4, zf_20_6, zf_26_0, zf_26_1, zf_26_2, zf_26_3, zf_32_0, zf_32_1, zf_32_3, zf_32_4, zf_32_5, zf_32_6, qL_isTable, zb_ne, e, aAt, qL_isElement hC ht, nI_clamp, h, e2]
      · have e3 := zlt_y hb (by omega)
        simp (disch := omega) [zf_L_at, zmeth, xm_en, zret, zretz, zretv, zseq, zst, zinc, zkl, zskip, zk, zi, za, zbin, zdiv, zrem, zgi, zgr, zld, zldr, zlen, zn, zc, zcall, zcallv, zrcv, zdo, zdov, zpf, zpfc, zas, zasc, zmin, zmax, zcmp, zcz, zand_e, zor_e, zite_e, zbite_e, zif_e, znot_e, z_add, z_sub, z_mul, z_and, z_or, z_xor, z_shl, z_shr, zcpy, -List.getElem?_cons_succ, zg_0, zg_1, zg_2, zg_3, zg_4, zg_5, zg_6, zg_7, zg_8, zg_9, zt_0, zt_12, zt_20, zt_26, zt_32, zf_0_0, zf_0_1, zf_0_2, zf_0_3, zf_0_4, zf_12_0, zf_12_1, zf_12_2, zf_12_4, zf_12_5, zf_20_1, zf_20_2, zf_20_3, zf_20_4, zf_20_6, zf_26_0, zf_26_1, zf_26_2, zf_26_3, zf_32_0, zf_32_1, zf_32_3, zf_32_4, zf_32_5, zf_32_6, qL_isTable, zb_ne, e, aAt, qL_isElement hC ht, nI_clamp, e3, e2, zi_1, zf_1, ztb_tag (tb4 ht), qT_cell (tb4 ht) (hC t ht) h8 ha hb, qL_orNone]
theorem qM_at {T : tS} {M : zM} (x y z : Int32) (hR : RS T M) (hT : TO T) : zf_M_at [.ref 32, .int x, .int y, .int z] M = some (some (aAt T x y z), M) := by
  rcases z3 x (n := 4) (by decide) with h | ⟨t, ht, rfl⟩
  · simp [zf_M_at, zmeth, xm_en, zret, zretz, zretv, zseq, zst, zinc, zkl, zskip, zk, zi, za, zbin, zdiv, zrem, zgi, zgr, zld, zldr, zlen, zn, zc, zcall, zcallv, zrcv, zdo, zdov, zpf, zpfc, zas, zasc, zmin, zmax, zcmp, zcz, zand_e, zor_e, zite_e, zbite_e, zif_e, znot_e, z_add, z_sub, z_mul, z_and, z_or, z_xor, z_shl, z_shr, zcpy, -List.getElem?_cons_succ, zg_0, zg_1, zg_2, zg_3, zg_4, zg_5, zg_6, zg_7, zg_8, zg_9, qM_isTable, zb_ne, h, aAt]
  · have e := zlt_y ht (by decide)
    have h8 := (hT t ht).1.2
    rcases z3 y (n := (T t).1) (by omega) with h | ⟨a, ha, rfl⟩
    · simp (disch := omega) [zf_M_at, zmeth, xm_en, zret, zretz, zretv, zseq, zst, zinc, zkl, zskip, zk, zi, za, zbin, zdiv, zrem, zgi, zgr, zld, zldr, zlen, zn, zc, zcall, zcallv, zrcv, zdo, zdov, zpf, zpfc, zas, zasc, zmin, zmax, zcmp, zcz, zand_e, zor_e, zite_e, zbite_e, zif_e, znot_e, z_add, z_sub, z_mul, z_and, z_or, z_xor, z_shl, z_shr, zcpy, -List.getElem?_cons_succ, zg_0, zg_1, zg_2, zg_3, zg_4, zg_5, zg_6, zg_7, zg_8, zg_9, zt_0, zt_12, zt_20, zt_26, zt_32, zf_0_0, zf_0_1, zf_0_2, zf_0_3, zf_0_4, zf_12_0, zf_12_1, zf_12_2, zf_12_4, zf_12_5, zf_20_1, zf_20_2, zf_20_3, zf_20_4, zf_20_6, zf_26_0, zf_26_1, zf_26_2, zf_26_3, zf_32_0, zf_32_1, zf_32_3, zf_32_4, zf_32_5, zf_32_6, qM_isTable, zb_ne, e, aAt, qM_isElement hR hT ht, nI_clamp, h]
    · have e2 := zlt_y ha (by omega)
      rcases z3 z (n := (T t).1) (by omega) with h | ⟨b, hb, rfl⟩
      · simp (disch := omega) [zf_M_at, zmeth, xm_en, zret, zretz, zretv, zseq, zst, zinc, zkl, zskip, zk, zi, za, zbin, zdiv, zrem, zgi, zgr, zld, zldr, zlen, zn, zc, zcall, zcallv, zrcv, zdo, zdov, zpf, zpfc, zas, zasc, zmin, zmax, zcmp, zcz, zand_e, zor_e, zite_e, zbite_e, zif_e, znot_e, z_add, z_sub, z_mul, z_and, z_or, z_xor, z_shl, z_shr, zcpy, -List.getElem?_cons_succ, zg_0, zg_1, zg_2, zg_3, zg_4, zg_5, zg_6, zg_7, zg_8, zg_9, zt_0, zt_12, zt_20, zt_26, zt_32, zf_0_0, zf_0_1, zf_0_2, zf_0_3, zf_0_4, zf_12_0, zf_12_1, zf_12_2, zf_12_4, zf_12_5, zf_20_1, zf_20_2, zf_20_3, zf_20_4, zf_20_6, zf_26_0, zf_26_1, zf_26_2, zf_26_3, zf_32_0, zf_32_1, zf_32_3, zf_32_4, zf_32_5, zf_32_6, qM_isTable, zb_ne, e, aAt, qM_isElement hR hT ht, nI_clamp, h, e2]
      · have e3 := zlt_y hb (by omega)
        simp (disch := omega) [zf_M_at, zmeth, xm_en, zret, zretz, zretv, zseq, zst, zinc, zkl, zskip, zk, zi, za, zbin, zdiv, zrem, zgi, zgr, zld, zldr, zlen, zn, zc, zcall, zcallv, zrcv, zdo, zdov, zpf, zpfc, zas, zasc, zmin, zmax, zcmp, zcz, zand_e, zor_e, zite_e, zbite_e, zif_e, znot_e, z_add, z_sub, z_mul, z_and, z_or, z_xor, z_shl, z_shr, zcpy, -List.getElem?_cons_succ, zg_0, zg_1, zg_2, zg_3, zg_4, zg_5, zg_6, zg_7, zg_8, zg_9, zt_0, zt_12, zt_20, zt_26, zt_32, zf_0_0, zf_0_1, zf_0_2, zf_0_3, zf_0_4, zf_12_0, zf_12_1, zf_12_2, zf_12_4, zf_12_5, zf_20_1, zf_20_2, zf_20_3, zf_20_4, zf_20_6, zf_26_0, zf_26_1, zf_26_2, zf_26_3, zf_32_0, zf_32_1, zf_32_3, zf_32_4, zf_32_5, zf_32_6, qM_isTable, zb_ne, e, aAt, qM_isElement hR hT ht, nI_clamp, e3, e2, qM_rcell (show t < 6 by omega) (hR t ht) h8 ha hb]
/-! the reference counts empty cells -/
theorem qM_empties2 {M : zM} {t n a x : Nat} {c : tC} (ht : t < 6) (h : rT M t n c) (h8 : n ≤ 8) (ha : a < n) (hx : x ≤ 100) : zwh zc_M_empties_2 zs_M_empties_2 [some (Value.ref (32)), some (Value.int (nI t)), some (Value.int (nI x)), some (Value.int (nI a)), some (Value.int (nI 0))] M = some (none, [some (Value.ref (32)), some (Value.int (nI t)), some (Value.int (nI (x + tE c n a))), some (Value.int (nI a)), some (Value.int (nI n))], M) := by
  have hle : ∀ j, j ≤ n → tE c j a ≤ 8 := fun j hj => Nat.le_trans (tE_le c j a) (by omega)
  have R := zwh_up (c := zc_M_empties_2) (s := zs_M_empties_2) (fun j => [some (Value.ref (32)), some (Value.int (nI t)), some (Value.int (nI (x + tE c j a))), some (Value.int (nI a)), some (Value.int (nI j))]) (fun _ => M) (n := n) n 0 (by omega) ?_ ?_ ?_
  · exact R
  · intro j h1 h2
    simp (disch := omega) [zc_M_empties_2, zmeth, xm_en, zret, zretz, zretv, zseq, zst, zinc, zkl, zskip, zk, zi, za, zbin, zdiv, zrem, zgi, zgr, zld, zldr, zlen, zn, zc, zcall, zcallv, zrcv, zdo, zdov, zpf, zpfc, zas, zasc, zmin, zmax, zcmp, zcz, zand_e, zor_e, zite_e, zbite_e, zif_e, znot_e, z_add, z_sub, z_mul, z_and, z_or, z_xor, z_shl, z_shr, zcpy, -List.getElem?_cons_succ, zg_0, zg_1, zg_2, zg_3, zg_4, zg_5, zg_6, zg_7, zg_8, zg_9, zc_lt, zc_le, zc_gt, zc_ge, zc_eq, zc_ne, zc_lt0, zc_ge0, zc_gt0, zc_eq0, zc_ne0, zb_ne, zb_eq, zb_01, z_00, z_01, z_11, zb_f, zb_T, zb_F, zbm1, zbm2, zbm5, zbm6, zbm3, zbm4, nI_clamp, zmod_n, pk_div, nI_ne0, pk_mul, nI_add, nI_1, zt_0, zt_12, zt_20, zt_26, zt_32, zf_0_0, zf_0_1, zf_0_2, zf_0_3, zf_0_4, zf_12_0, zf_12_1, zf_12_2, zf_12_4, zf_12_5, zf_20_1, zf_20_2, zf_20_3, zf_20_4, zf_20_6, zf_26_0, zf_26_1, zf_26_2, zf_26_3, zf_32_0, zf_32_1, zf_32_3, zf_32_4, zf_32_5, zf_32_6, zi_33, h.1, h2]
  · intro j h1 h2
    have e2 : tE c (j + 1) a = tE c j a + if 8 ≤ c a j then 1 else 0 := rfl
    by_cases hc : 8 ≤ c a j
    · simp (disch := omega) [zs_M_empties_2, zmeth, xm_en, zret, zretz, zretv, zseq, zst, zinc, zkl, zskip, zk, zi, za, zbin, zdiv, zrem, zgi, zgr, zld, zldr, zlen, zn, zc, zcall, zcallv, zrcv, zdo, zdov, zpf, zpfc, zas, zasc, zmin, zmax, zcmp, zcz, zand_e, zor_e, zite_e, zbite_e, zif_e, znot_e, z_add, z_sub, z_mul, z_and, z_or, z_xor, z_shl, z_shr, zcpy, -List.getElem?_cons_succ, zg_0, zg_1, zg_2, zg_3, zg_4, zg_5, zg_6, zg_7, zg_8, zg_9, zc_lt, zc_le, zc_gt, zc_ge, zc_eq, zc_ne, zc_lt0, zc_ge0, zc_gt0, zc_eq0, zc_ne0, zb_ne, zb_eq, zb_01, z_00, z_01, z_11, zb_f, zb_T, zb_F, zbm1, zbm2, zbm5, zbm6, zbm3, zbm4, nI_clamp, zmod_n, pk_div, nI_ne0, pk_mul, nI_add, nI_1, zt_0, zt_12, zt_20, zt_26, zt_32, zf_0_0, zf_0_1, zf_0_2, zf_0_3, zf_0_4, zf_12_0, zf_12_1, zf_12_2, zf_12_4, zf_12_5, zf_20_1, zf_20_2, zf_20_3, zf_20_4, zf_20_6, zf_26_0, zf_26_1, zf_26_2, zf_26_3, zf_32_0, zf_32_1, zf_32_3, zf_32_4, zf_32_5, zf_32_6, qM_rcell ht h h8 ha h2, zcl_m4, hc, e2, Nat.add_assoc]
    · simp (disch := omega) [zs_M_empties_2, zmeth, xm_en, zret, zretz, zretv, zseq, zst, zinc, zkl, zskip, zk, zi, za, zbin, zdiv, zrem, zgi, zgr, zld, zldr, zlen, zn, zc, zcall, zcallv, zrcv, zdo, zdov, zpf, zpfc, zas, zasc, zmin, zmax, zcmp, zcz, zand_e, zor_e, zite_e, zbite_e, zif_e, znot_e, z_add, z_sub, z_mul, z_and, z_or, z_xor, z_shl, z_shr, zcpy, -List.getElem?_cons_succ, zg_0, zg_1, zg_2, zg_3, zg_4, zg_5, zg_6, zg_7, zg_8, zg_9, zc_lt, zc_le, zc_gt, zc_ge, zc_eq, zc_ne, zc_lt0, zc_ge0, zc_gt0, zc_eq0, zc_ne0, zb_ne, zb_eq, zb_01, z_00, z_01, z_11, zb_f, zb_T, zb_F, zbm1, zbm2, zbm5, zbm6, zbm3, zbm4, nI_clamp, zmod_n, pk_div, nI_ne0, pk_mul, nI_add, nI_1, zt_0, zt_12, zt_20, zt_26, zt_32, zf_0_0, zf_0_1, zf_0_2, zf_0_3, zf_0_4, zf_12_0, zf_12_1, zf_12_2, zf_12_4, zf_12_5, zf_20_1, zf_20_2, zf_20_3, zf_20_4, zf_20_6, zf_26_0, zf_26_1, zf_26_2, zf_26_3, zf_32_0, zf_32_1, zf_32_3, zf_32_4, zf_32_5, zf_32_6, qM_rcell ht h h8 ha h2, zcl_m4, hc, e2]
  · simp (disch := omega) [zc_M_empties_2, zmeth, xm_en, zret, zretz, zretv, zseq, zst, zinc, zkl, zskip, zk, zi, za, zbin, zdiv, zrem, zgi, zgr, zld, zldr, zlen, zn, zc, zcall, zcallv, zrcv, zdo, zdov, zpf, zpfc, zas, zasc, zmin, zmax, zcmp, zcz, zand_e, zor_e, zite_e, zbite_e, zif_e, znot_e, z_add, z_sub, z_mul, z_and, z_or, z_xor, z_shl, z_shr, zcpy, -List.getElem?_cons_succ, zg_0, zg_1, zg_2, zg_3, zg_4, zg_5, zg_6, zg_7, zg_8, zg_9, zc_lt, zc_le, zc_gt, zc_ge, zc_eq, zc_ne, zc_lt0, zc_ge0, zc_gt0, zc_eq0, zc_ne0, zb_ne, zb_eq, zb_01, z_00, z_01, z_11, zb_f, zb_T, zb_F, zbm1, zbm2, zbm5, zbm6, zbm3, zbm4, nI_clamp, zmod_n, pk_div, nI_ne0, pk_mul, nI_add, nI_1, zt_0, zt_12, zt_20, zt_26, zt_32, zf_0_0, zf_0_1, zf_0_2, zf_0_3, zf_0_4, zf_12_0, zf_12_1, zf_12_2, zf_12_4, zf_12_5, zf_20_1, zf_20_2, zf_20_3, zf_20_4, zf_20_6, zf_26_0, zf_26_1, zf_26_2, zf_26_3, zf_32_0, zf_32_1, zf_32_3, zf_32_4, zf_32_5, zf_32_6, zi_33, h.1]
theorem qM_empties {M : zM} {t n : Nat} {c : tC} (ht : t < 6) (h : rT M t n c) (h8 : n ≤ 8) : zf_M_empties [.ref 32, .int (nI t)] M = some (some (nI (tN n c)), M) := by
  have R := zwh_up (c := zc_M_empties_1) (s := zs_M_empties_1) (fun j => [some (Value.ref (32)), some (Value.int (nI t)), some (Value.int (nI (zsum (tE c n) j))), some (Value.int (nI j)), none]) (fun _ => M) (n := n) n 0 (by omega) ?_ ?_ ?_
  · have e1 : zsum (tE c n) 0 = 0 := rfl
    rw [e1] at R
    simp (disch := omega) [zf_M_empties, zmeth, xm_en, zret, zretz, zretv, zseq, zst, zinc, zkl, zskip, zk, zi, za, zbin, zdiv, zrem, zgi, zgr, zld, zldr, zlen, zn, zc, zcall, zcallv, zrcv, zdo, zdov, zpf, zpfc, zas, zasc, zmin, zmax, zcmp, zcz, zand_e, zor_e, zite_e, zbite_e, zif_e, znot_e, z_add, z_sub, z_mul, z_and, z_or, z_xor, z_shl, z_shr, zcpy, -List.getElem?_cons_succ, zg_0, zg_1, zg_2, zg_3, zg_4, zg_5, zg_6, zg_7, zg_8, zg_9, R, tN]
  · intro j h1 h2
    simp (disch := omega) [zc_M_empties_1, zmeth, xm_en, zret, zretz, zretv, zseq, zst, zinc, zkl, zskip, zk, zi, za, zbin, zdiv, zrem, zgi, zgr, zld, zldr, zlen, zn, zc, zcall, zcallv, zrcv, zdo, zdov, zpf, zpfc, zas, zasc, zmin, zmax, zcmp, zcz, zand_e, zor_e, zite_e, zbite_e, zif_e, znot_e, z_add, z_sub, z_mul, z_and, z_or, z_xor, z_shl, z_shr, zcpy, -List.getElem?_cons_succ, zg_0, zg_1, zg_2, zg_3, zg_4, zg_5, zg_6, zg_7, zg_8, zg_9, zc_lt, zc_le, zc_gt, zc_ge, zc_eq, zc_ne, zc_lt0, zc_ge0, zc_gt0, zc_eq0, zc_ne0, zb_ne, zb_eq, zb_01, z_00, z_01, z_11, zb_f, zb_T, zb_F, zbm1, zbm2, zbm5, zbm6, zbm3, zbm4, nI_clamp, zmod_n, pk_div, nI_ne0, pk_mul, nI_add, nI_1, zt_0, zt_12, zt_20, zt_26, zt_32, zf_0_0, zf_0_1, zf_0_2, zf_0_3, zf_0_4, zf_12_0, zf_12_1, zf_12_2, zf_12_4, zf_12_5, zf_20_1, zf_20_2, zf_20_3, zf_20_4, zf_20_6, zf_26_0, zf_26_1, zf_26_2, zf_26_3, zf_32_0, zf_32_1, zf_32_3, zf_32_4, zf_32_5, zf_32_6, zi_33, h.1, h2]
  · intro j h3 h4
    have h5 := tN_le (c := c) h8 (j := j) (by omega)
    have R2 := qM_empties2 (x := zsum (tE c n) j) ht h h8 h4 (by omega)
    simp (disch := omega) [zs_M_empties_1, zmeth, xm_en, zret, zretz, zretv, zseq, zst, zinc, zkl, zskip, zk, zi, za, zbin, zdiv, zrem, zgi, zgr, zld, zldr, zlen, zn, zc, zcall, zcallv, zrcv, zdo, zdov, zpf, zpfc, zas, zasc, zmin, zmax, zcmp, zcz, zand_e, zor_e, zite_e, zbite_e, zif_e, znot_e, z_add, z_sub, z_mul, z_and, z_or, z_xor, z_shl, z_shr, zcpy, -List.getElem?_cons_succ, zg_0, zg_1, zg_2, zg_3, zg_4, zg_5, zg_6, zg_7, zg_8, zg_9, zc_lt, zc_le, zc_gt, zc_ge, zc_eq, zc_ne, zc_lt0, zc_ge0, zc_gt0, zc_eq0, zc_ne0, zb_ne, zb_eq, zb_01, z_00, z_01, z_11, zb_f, zb_T, zb_F, zbm1, zbm2, zbm5, zbm6, zbm3, zbm4, nI_clamp, zmod_n, pk_div, nI_ne0, pk_mul, nI_add, nI_1, R2, zsum]
  · simp (disch := omega) [zc_M_empties_1, zmeth, xm_en, zret, zretz, zretv, zseq, zst, zinc, zkl, zskip, zk, zi, za, zbin, zdiv, zrem, zgi, zgr, zld, zldr, zlen, zn, zc, zcall, zcallv, zrcv, zdo, zdov, zpf, zpfc, zas, zasc, zmin, zmax, zcmp, zcz, zand_e, zor_e, zite_e, zbite_e, zif_e, znot_e, z_add, z_sub, z_mul, z_and, z_or, z_xor, z_shl, z_shr, zcpy, -List.getElem?_cons_succ, zg_0, zg_1, zg_2, zg_3, zg_4, zg_5, zg_6, zg_7, zg_8, zg_9, zc_lt, zc_le, zc_gt, zc_ge, zc_eq, zc_ne, zc_lt0, zc_ge0, zc_gt0, zc_eq0, zc_ne0, zb_ne, zb_eq, zb_01, z_00, z_01, z_11, zb_f, zb_T, zb_F, zbm1, zbm2, zbm5, zbm6, zbm3, zbm4, nI_clamp, zmod_n, pk_div, nI_ne0, pk_mul, nI_add, nI_1, zt_0, zt_12, zt_20, zt_26, zt_32, zf_0_0, zf_0_1, zf_0_2, zf_0_3, zf_0_4, zf_12_0, zf_12_1, zf_12_2, zf_12_4, zf_12_5, zf_20_1, zf_20_2, zf_20_3, zf_20_4, zf_20_6, zf_26_0, zf_26_1, zf_26_2, zf_26_3, zf_32_0, zf_32_1, zf_32_3, zf_32_4, zf_32_5, zf_32_6, zi_33, h.1]
theorem qM_isFull {M : zM} {t n : Nat} {c : tC} (ht : t < 6) (h : rT M t n c) (h8 : n ≤ 8) : zf_M_isFull [.ref 32, .int (nI t)] M = some (some (zb (tB n c)), M) := by
  have h5 := tN_le (c := c) h8 h8
  have h6 : tN n c < 2 ^ 31 := by unfold tN; omega
  simp (disch := omega) [zf_M_isFull, zmeth, xm_en, zret, zretz, zretv, zseq, zst, zinc, zkl, zskip, zk, zi, za, zbin, zdiv, zrem, zgi, zgr, zld, zldr, zlen, zn, zc, zcall, zcallv, zrcv, zdo, zdov, zpf, zpfc, zas, zasc, zmin, zmax, zcmp, zcz, zand_e, zor_e, zite_e, zbite_e, zif_e, znot_e, z_add, z_sub, z_mul, z_and, z_or, z_xor, z_shl, z_shr, zcpy, -List.getElem?_cons_succ, zg_0, zg_1, zg_2, zg_3, zg_4, zg_5, zg_6, zg_7, zg_8, zg_9, zc_lt, zc_le, zc_gt, zc_ge, zc_eq, zc_ne, zc_lt0, zc_ge0, zc_gt0, zc_eq0, zc_ne0, zb_ne, zb_eq, zb_01, z_00, z_01, z_11, zb_f, zb_T, zb_F, zbm1, zbm2, zbm5, zbm6, zbm3, zbm4, nI_clamp, zmod_n, pk_div, nI_ne0, pk_mul, nI_add, nI_1, zt_0, zt_12, zt_20, zt_26, zt_32, zf_0_0, zf_0_1, zf_0_2, zf_0_3, zf_0_4, zf_12_0, zf_12_1, zf_12_2, zf_12_4, zf_12_5, zf_20_1, zf_20_2, zf_20_3, zf_20_4, zf_20_6, zf_26_0, zf_26_1, zf_26_2, zf_26_3, zf_32_0, zf_32_1, zf_32_3, zf_32_4, zf_32_5, zf_32_6, qM_empties ht h h8, tB]
def aEmpty (T : tS) (x : Int32) : Int32 := bif zlt x 4 then nI (tN (T x.toNatClampNeg).1 (T x.toNatClampNeg).2) else -1
theorem qL_empty {T : tS} {M : zM} (x : Int32) (hC : CS T M) (hT : TO T) : zf_L_empty [.ref 0, .int x] M = some (some (aEmpty T x), M) := by
  rcases z3 x (n := 4) (by decide) with h | ⟨t, ht, rfl⟩
  · simp [zf_L_empty, zmeth, xm_en, zret, zretz, zretv, zseq, zst, zinc, zkl, zskip, zk, zi, za, zbin, zdiv, zrem, zgi, zgr, zld, zldr, zlen, zn, zc, zcall, zcallv, zrcv, zdo, zdov, zpf, zpfc, zas, zasc, zmin, zmax, zcmp, zcz, zand_e, zor_e, zite_e, zbite_e, zif_e, znot_e, z_add, z_sub, z_mul, z_and, z_or, z_xor, z_shl, z_shr, zcpy, -List.getElem?_cons_succ, zg_0, zg_1, zg_2, zg_3, zg_4, zg_5, zg_6, zg_7, zg_8, zg_9, qL_isTable, zb_ne, h, aEmpty]
  · have e := zlt_y ht (by decide)
    simp (disch := omega) [zf_L_empty, zmeth, xm_en, zret, zretz, zretv, zseq, zst, zinc, zkl, zskip, zk, zi, za, zbin, zdiv, zrem, zgi, zgr, zld, zldr, zlen, zn, zc, zcall, zcallv, zrcv, zdo, zdov, zpf, zpfc, zas, zasc, zmin, zmax, zcmp, zcz, zand_e, zor_e, zite_e, zbite_e, zif_e, znot_e, z_add, z_sub, z_mul, z_and, z_or, z_xor, z_shl, z_shr, zcpy, -List.getElem?_cons_succ, zg_0, zg_1, zg_2, zg_3, zg_4, zg_5, zg_6, zg_7, zg_8, zg_9, zt_0, zt_12, zt_20, zt_26, zt_32, zf_0_0, zf_0_1, zf_0_2, zf_0_3, zf_0_4, zf_12_0, zf_12_1, zf_12_2, zf_12_4, zf_12_5, zf_20_1, zf_20_2, zf_20_3, zf_20_4, zf_20_6, zf_26_0, zf_26_1, zf_26_2, zf_26_3, zf_32_0, zf_32_1, zf_32_3, zf_32_4, zf_32_5, zf_32_6, qL_isTable, zb_ne, e, aEmpty, zi_1, zf_1, nI_clamp, ztb_tag (tb4 ht), qT_countEmpty (tb4 ht) (hC t ht) (hT t ht)]
theorem qM_empty {T : tS} {M : zM} (x : Int32) (hR : RS T M) (hT : TO T) : zf_M_empty [.ref 32, .int x] M = some (some (aEmpty T x), M) := by
  rcases z3 x (n := 4) (by decide) with h | ⟨t, ht, rfl⟩
  · simp [zf_M_empty, zmeth, xm_en, zret, zretz, zretv, zseq, zst, zinc, zkl, zskip, zk, zi, za, zbin, zdiv, zrem, zgi, zgr, zld, zldr, zlen, zn, zc, zcall, zcallv, zrcv, zdo, zdov, zpf, zpfc, zas, zasc, zmin, zmax, zcmp, zcz, zand_e, zor_e, zite_e, zbite_e, zif_e, znot_e, z_add, z_sub, z_mul, z_and, z_or, z_xor, z_shl, z_shr, zcpy, -List.getElem?_cons_succ, zg_0, zg_1, zg_2, zg_3, zg_4, zg_5, zg_6, zg_7, zg_8, zg_9, qM_isTable, zb_ne, h, aEmpty]
  · have e := zlt_y ht (by decide)
    simp (disch := omega) [zf_M_empty, zmeth, xm_en, zret, zretz, zretv, zseq, zst, zinc, zkl, zskip, zk, zi, za, zbin, zdiv, zrem, zgi, zgr, zld, zldr, zlen, zn, zc, zcall, zcallv, zrcv, zdo, zdov, zpf, zpfc, zas, zasc, zmin, zmax, zcmp, zcz, zand_e, zor_e, zite_e, zbite_e, zif_e, znot_e, z_add, z_sub, z_mul, z_and, z_or, z_xor, z_shl, z_shr, zcpy, -List.getElem?_cons_succ, zg_0, zg_1, zg_2, zg_3, zg_4, zg_5, zg_6, zg_7, zg_8, zg_9, zt_0, zt_12, zt_20, zt_26, zt_32, zf_0_0, zf_0_1, zf_0_2, zf_0_3, zf_0_4, zf_12_0, zf_12_1, zf_12_2, zf_12_4, zf_12_5, zf_20_1, zf_20_2, zf_20_3, zf_20_4, zf_20_6, zf_26_0, zf_26_1, zf_26_2, zf_26_3, zf_32_0, zf_32_1, zf_32_3, zf_32_4, zf_32_5, zf_32_6, qM_isTable, zb_ne, e, aEmpty, nI_clamp, qM_empties (show t < 6 by omega) (hR t ht) (hT t ht).1.2]
/-! table -/
def okTable (x y : Int32) : Bool := zlt x 4 && (zlt y 9 && !decide (y = nI 0))
def sTable (T : tS) (x y : Int32) : tS := bif okTable x y then tset T x.toNatClampNeg y.toNatClampNeg tNew else T
def aTable (x y : Int32) : Int32 := bif okTable x y then nI 0 else -1
theorem zgt_i (y : Int32) {m : Nat} (hm : m < 2 ^ 31) : xe_cd .gt y (nI m) = decide ((m : Int) < y.toInt) := by
  show decide (nI m < y) = _
  refine decide_eq_decide.mpr ?_
  rw [Int32.lt_iff_toInt_lt, nI_toInt hm]
theorem zlt1_i (y : Int32) {m : Nat} (hm : m < 2 ^ 31) : xe_cd .lt y (nI m) = decide (y.toInt < (m : Int)) := by
  show decide (y < nI m) = _
  refine decide_eq_decide.mpr ?_
  rw [Int32.lt_iff_toInt_lt, nI_toInt hm]
theorem z0_i (y : Int32) : decide (y = nI 0) = decide (y.toInt = 0) := by
  refine decide_eq_decide.mpr ?_
  rw [← Int32.toInt_inj, nI_toInt (n := 0) (by decide)]
  rfl
theorem ok18 (y : Int32) : (xe_cd .lt y (nI 1) || xe_cd .gt y (nI 8)) = !(zlt y 9 && !decide (y = nI 0)) := by
  rw [zlt1_i y (by decide), zgt_i y (by decide), zlt_i y (by decide), z0_i, Bool.eq_iff_iff]
  simp only [Bool.or_eq_true, Bool.not_eq_true', Bool.and_eq_false_iff, decide_eq_true_eq, decide_eq_false_iff_not, Bool.not_eq_false', decide_eq_true_eq]
  omega
theorem CS_rs {T : tS} {M : zM} {s m : Nat} (hs : s < 4) (h8 : m ≤ 8) (hC : CS T M) : CS (tset T s m tNew) (zrs M (2 + 2 * s) m m) := by
  intro t ht
  unfold tset
  by_cases h : t = s
  · subst h
    simp only [if_true]
    exact kT_new h8
  · rw [if_neg h]
    exact (hC t ht).same (fun j => by unfold zrs; rw [if_neg (by omega), if_neg (by omega)]) (fun j => by unfold zrs; rw [if_neg (by omega), if_neg (by omega)])
theorem zhi_rs {M : zM} {s m : Nat} (hs : s < 4) : zhi M (zrs M (2 + 2 * s) m m) := fun k j hk => by
  unfold zrs
  rw [if_neg (by omega), if_neg (by omega)]
theorem qL_table {T : tS} {M : zM} (x y : Int32) (hC : CS T M) : ∃ M', zf_L_table [.ref 0, .int x, .int y] M = some (some (aTable x y), M') ∧ CS (sTable T x y) M' ∧ zhi M M' := by
  cases hk : okTable x y with
  | false =>
    refine ⟨M, ?_, by simpa [sTable, hk] using hC, zhi.refl M⟩
    rcases z3 x (n := 4) (by decide) with h | ⟨t, ht, rfl⟩
    · simp [zf_L_table, zmeth, xm_en, zret, zretz, zretv, zseq, zst, zinc, zkl, zskip, zk, zi, za, zbin, zdiv, zrem, zgi, zgr, zld, zldr, zlen, zn, zc, zcall, zcallv, zrcv, zdo, zdov, zpf, zpfc, zas, zasc, zmin, zmax, zcmp, zcz, zand_e, zor_e, zite_e, zbite_e, zif_e, znot_e, z_add, z_sub, z_mul, z_and, z_or, z_xor, z_shl, z_shr, zcpy, -List.getElem?_cons_succ, zg_0, zg_1, zg_2, zg_3, zg_4, zg_5, zg_6, zg_7, zg_8, zg_9, qL_isTable, zb_ne, h, aTable, hk]
    · have e := zlt_y ht (by decide)
      have e2 : (xe_cd .lt y (nI 1) || xe_cd .gt y (nI 8)) = true := by
        rw [ok18]
        unfold okTable at hk
        rw [e, Bool.true_and] at hk
        rw [hk]
        rfl
      cases h1 : xe_cd .lt y (nI 1) with
      | true => simp [zf_L_table, zmeth, xm_en, zret, zretz, zretv, zseq, zst, zinc, zkl, zskip, zk, zi, za, zbin, zdiv, zrem, zgi, zgr, zld, zldr, zlen, zn, zc, zcall, zcallv, zrcv, zdo, zdov, zpf, zpfc, zas, zasc, zmin, zmax, zcmp, zcz, zand_e, zor_e, zite_e, zbite_e, zif_e, znot_e, z_add, z_sub, z_mul, z_and, z_or, z_xor, z_shl, z_shr, zcpy, -List.getElem?_cons_succ, zg_0, zg_1, zg_2, zg_3, zg_4, zg_5, zg_6, zg_7, zg_8, zg_9, qL_isTable, zb_ne, e, aTable, hk, h1]
      | false =>
        have h2 : xe_cd .gt y (nI 8) = true := by simpa [h1] using e2
        simp [zf_L_table, zmeth, xm_en, zret, zretz, zretv, zseq, zst, zinc, zkl, zskip, zk, zi, za, zbin, zdiv, zrem, zgi, zgr, zld, zldr, zlen, zn, zc, zcall, zcallv, zrcv, zdo, zdov, zpf, zpfc, zas, zasc, zmin, zmax, zcmp, zcz, zand_e, zor_e, zite_e, zbite_e, zif_e, znot_e, z_add, z_sub, z_mul, z_and, z_or, z_xor, z_shl, z_shr, zcpy, -List.getElem?_cons_succ, zg_0, zg_1, zg_2, zg_3, zg_4, zg_5, zg_6, zg_7, zg_8, zg_9, qL_isTable, zb_ne, e, aTable, hk, h1, h2]
  | true =>
    simp only [okTable, Bool.and_eq_true, Bool.not_eq_true', decide_eq_false_iff_not] at hk
    obtain ⟨h1, h2, h3⟩ := hk
    obtain ⟨t, ht, rfl⟩ := zlt_t (by decide) h1
    obtain ⟨m, hm, rfl⟩ := zlt_t (by decide) h2
    have hm1 : 1 ≤ m := by
      rcases Nat.eq_zero_or_pos m with g | g
      · exact absurd (by rw [g]) h3
      · exact g
    have e0 : okTable (nI t) (nI m) = true := by simp [okTable, h1, h2, h3]
    have e3 := ok18 (nI m)
    rw [h2, decide_eq_false h3] at e3
    simp only [Bool.not_false, Bool.and_self, Bool.not_true, Bool.or_eq_false_iff] at e3
    refine ⟨zrs M (2 + 2 * t) m m, ?_, ?_, zhi_rs ht⟩
    · simp (disch := omega) [zf_L_table, zmeth, xm_en, zret, zretz, zretv, zseq, zst, zinc, zkl, zskip, zk, zi, za, zbin, zdiv, zrem, zgi, zgr, zld, zldr, zlen, zn, zc, zcall, zcallv, zrcv, zdo, zdov, zpf, zpfc, zas, zasc, zmin, zmax, zcmp, zcz, zand_e, zor_e, zite_e, zbite_e, zif_e, znot_e, z_add, z_sub, z_mul, z_and, z_or, z_xor, z_shl, z_shr, zcpy, -List.getElem?_cons_succ, zg_0, zg_1, zg_2, zg_3, zg_4, zg_5, zg_6, zg_7, zg_8, zg_9, zt_0, zt_12, zt_20, zt_26, zt_32, zf_0_0, zf_0_1, zf_0_2, zf_0_3, zf_0_4, zf_12_0, zf_12_1, zf_12_2, zf_12_4, zf_12_5, zf_20_1, zf_20_2, zf_20_3, zf_20_4, zf_20_6, zf_26_0, zf_26_1, zf_26_2, zf_26_3, zf_32_0, zf_32_1, zf_32_3, zf_32_4, zf_32_5, zf_32_6, qL_isTable, zb_ne, h1, e3.1, e3.2, aTable, e0, zi_1, zf_1, nI_clamp, ztb_tag (tb4 ht), qT_restart (tb4 ht) hm1 (by omega)]
    · simp only [sTable, e0, cond_true]
      rw [nI_clamp (by omega), nI_clamp (by omega)]
      exact CS_rs ht (by omega) hC
/-! THE REFERENCE's tables: filled, copied, searched -/
theorem zcl_ne4 {v w : Nat} (hw : w < 8) : xe_cd .ne (zcl (-4) v) (nI w) = !decide (v = w) := by
  have := zcl_eq4 (v := v) hw
  show (!decide (zcl (-4) v = nI w)) = _
  rw [show decide (zcl (-4) v = nI w) = decide (v = w) from this]
theorem qM_behind {M : zM} {t n a w : Nat} {c : tC} (ht : t < 6) (h : rT M t n c) (h8 : n ≤ 8) (ha : a < n) (hw : w < 8) (hx : zidx (fun b => decide (c a b = w)) 0 n < n) : zf_M_behind [.ref 32, .int (nI t), .int (nI a), .int (nI w)] M = some (some (nI (zidx (fun b => decide (c a b = w)) 0 n)), M) := by
  have hno : ∀ j, j < zidx (fun b => decide (c a b = w)) 0 n → ¬ c a j = w := fun j hj => by
    have := zidx_no (p := fun b => decide (c a b = w)) n 0 j (by omega) hj
    simpa using this
  have hyes : c a (zidx (fun b => decide (c a b = w)) 0 n) = w := by
    have := zidx_lt (p := fun b => decide (c a b = w)) n 0 (by omega)
    simpa using this
  have R := zwh_up (c := zc_M_behind_1) (s := zs_M_behind_1) (fun j => [some (Value.ref (32)), some (Value.int (nI t)), some (Value.int (nI a)), some (Value.int (nI w)), some (Value.int (nI j))]) (fun _ => M) (n := zidx (fun b => decide (c a b = w)) 0 n) (zidx (fun b => decide (c a b = w)) 0 n) 0 (by omega) ?_ ?_ ?_
  · simp (disch := omega) [zf_M_behind, zmeth, xm_en, zret, zretz, zretv, zseq, zst, zinc, zkl, zskip, zk, zi, za, zbin, zdiv, zrem, zgi, zgr, zld, zldr, zlen, zn, zc, zcall, zcallv, zrcv, zdo, zdov, zpf, zpfc, zas, zasc, zmin, zmax, zcmp, zcz, zand_e, zor_e, zite_e, zbite_e, zif_e, znot_e, z_add, z_sub, z_mul, z_and, z_or, z_xor, z_shl, z_shr, zcpy, -List.getElem?_cons_succ, zg_0, zg_1, zg_2, zg_3, zg_4, zg_5, zg_6, zg_7, zg_8, zg_9, R]
  · intro j _ h2
    simp (disch := omega) [zc_M_behind_1, zmeth, xm_en, zret, zretz, zretv, zseq, zst, zinc, zkl, zskip, zk, zi, za, zbin, zdiv, zrem, zgi, zgr, zld, zldr, zlen, zn, zc, zcall, zcallv, zrcv, zdo, zdov, zpf, zpfc, zas, zasc, zmin, zmax, zcmp, zcz, zand_e, zor_e, zite_e, zbite_e, zif_e, znot_e, z_add, z_sub, z_mul, z_and, z_or, z_xor, z_shl, z_shr, zcpy, -List.getElem?_cons_succ, zg_0, zg_1, zg_2, zg_3, zg_4, zg_5, zg_6, zg_7, zg_8, zg_9, zc_lt, zc_le, zc_gt, zc_ge, zc_eq, zc_ne, zc_lt0, zc_ge0, zc_gt0, zc_eq0, zc_ne0, zb_ne, zb_eq, zb_01, z_00, z_01, z_11, zb_f, zb_T, zb_F, zbm1, zbm2, zbm5, zbm6, zbm3, zbm4, nI_clamp, zmod_n, pk_div, nI_ne0, pk_mul, nI_add, nI_1, zt_0, zt_12, zt_20, zt_26, zt_32, zf_0_0, zf_0_1, zf_0_2, zf_0_3, zf_0_4, zf_12_0, zf_12_1, zf_12_2, zf_12_4, zf_12_5, zf_20_1, zf_20_2, zf_20_3, zf_20_4, zf_20_6, zf_26_0, zf_26_1, zf_26_2, zf_26_3, zf_32_0, zf_32_1, zf_32_3, zf_32_4, zf_32_5, zf_32_6, qM_rcell ht h h8 ha (show j < n by omega), zcl_ne4 hw, hno j h2]
  · intro j _ h2
    simp (disch := omega) [zs_M_behind_1, zmeth, xm_en, zret, zretz, zretv, zseq, zst, zinc, zkl, zskip, zk, zi, za, zbin, zdiv, zrem, zgi, zgr, zld, zldr, zlen, zn, zc, zcall, zcallv, zrcv, zdo, zdov, zpf, zpfc, zas, zasc, zmin, zmax, zcmp, zcz, zand_e, zor_e, zite_e, zbite_e, zif_e, znot_e, z_add, z_sub, z_mul, z_and, z_or, z_xor, z_shl, z_shr, zcpy, -List.getElem?_cons_succ, zg_0, zg_1, zg_2, zg_3, zg_4, zg_5, zg_6, zg_7, zg_8, zg_9, zc_lt, zc_le, zc_gt, zc_ge, zc_eq, zc_ne, zc_lt0, zc_ge0, zc_gt0, zc_eq0, zc_ne0, zb_ne, zb_eq, zb_01, z_00, z_01, z_11, zb_f, zb_T, zb_F, zbm1, zbm2, zbm5, zbm6, zbm3, zbm4, nI_clamp, zmod_n, pk_div, nI_ne0, pk_mul, nI_add, nI_1]
  · simp (disch := omega) [zc_M_behind_1, zmeth, xm_en, zret, zretz, zretv, zseq, zst, zinc, zkl, zskip, zk, zi, za, zbin, zdiv, zrem, zgi, zgr, zld, zldr, zlen, zn, zc, zcall, zcallv, zrcv, zdo, zdov, zpf, zpfc, zas, zasc, zmin, zmax, zcmp, zcz, zand_e, zor_e, zite_e, zbite_e, zif_e, znot_e, z_add, z_sub, z_mul, z_and, z_or, z_xor, z_shl, z_shr, zcpy, -List.getElem?_cons_succ, zg_0, zg_1, zg_2, zg_3, zg_4, zg_5, zg_6, zg_7, zg_8, zg_9, zc_lt, zc_le, zc_gt, zc_ge, zc_eq, zc_ne, zc_lt0, zc_ge0, zc_gt0, zc_eq0, zc_ne0, zb_ne, zb_eq, zb_01, z_00, z_01, z_11, zb_f, zb_T, zb_F, zbm1, zbm2, zbm5, zbm6, zbm3, zbm4, nI_clamp, zmod_n, pk_div, nI_ne0, pk_mul, nI_add, nI_1, zt_0, zt_12, zt_20, zt_26, zt_32, zf_0_0, zf_0_1, zf_0_2, zf_0_3, zf_0_4, zf_12_0, zf_12_1, zf_12_2, zf_12_4, zf_12_5, zf_20_1, zf_20_2, zf_20_3, zf_20_4, zf_20_6, zf_26_0, zf_26_1, zf_26_2, zf_26_3, zf_32_0, zf_32_1, zf_32_3, zf_32_4, zf_32_5, zf_32_6, qM_rcell ht h h8 ha hx, zcl_ne4 hw, hyes]
theorem qM_ahead {M : zM} {t n b w : Nat} {c : tC} (ht : t < 6) (h : rT M t n c) (h8 : n ≤ 8) (hb : b < n) (hw : w < 8) (hx : zidx (fun a => decide (c a b = w)) 0 n < n) : zf_M_ahead [.ref 32, .int (nI t), .int (nI w), .int (nI b)] M = some (some (nI (zidx (fun a => decide (c a b = w)) 0 n)), M) := by
  have hno : ∀ j, j < zidx (fun a => decide (c a b = w)) 0 n → ¬ c j b = w := fun j hj => by
    have := zidx_no (p := fun a => decide (c a b = w)) n 0 j (by omega) hj
    simpa using this
  have hyes : c (zidx (fun a => decide (c a b = w)) 0 n) b = w := by
    have := zidx_lt (p := fun a => decide (c a b = w)) n 0 (by omega)
    simpa using this
  have R := zwh_up (c := zc_M_ahead_1) (s := zs_M_ahead_1) (fun j => [some (Value.ref (32)), some (Value.int (nI t)), some (Value.int (nI w)), some (Value.int (nI b)), some (Value.int (nI j))]) (fun _ => M) (n := zidx (fun a => decide (c a b = w)) 0 n) (zidx (fun a => decide (c a b = w)) 0 n) 0 (by omega) ?_ ?_ ?_
  · simp (disch := omega) [zf_M_ahead, zmeth, xm_en, zret, zretz, zretv, zseq, zst, zinc, zkl, zskip, zk, zi, za, zbin, zdiv, zrem, zgi, zgr, zld, zldr, zlen, zn, zc, zcall, zcallv, zrcv, zdo, zdov, zpf, zpfc, zas, zasc, zmin, zmax, zcmp, zcz, zand_e, zor_e, zite_e, zbite_e, zif_e, znot_e, z_add, z_sub, z_mul, z_and, z_or, z_xor, z_shl, z_shr, zcpy, -List.getElem?_cons_succ, zg_0, zg_1, zg_2, zg_3, zg_4, zg_5, zg_6, zg_7, zg_8, zg_9, R]
  · intro j _ h2
    simp (disch := omega) [zc_M_ahead_1, zmeth, xm_en, zret, zretz, zretv, zseq, zst, zinc, zkl, zskip, zk, zi, za, zbin, zdiv, zrem, zgi, zgr, zld, zldr, zlen, zn, zc, zcall, zcallv, zrcv, zdo, zdov, zpf, zpfc, zas, zasc, zmin, zmax, zcmp, zcz, zand_e, zor_e, zite_e, zbite_e, zif_e, znot_e, z_add, z_sub, z_mul, z_and, z_or, z_xor, z_shl, z_shr, zcpy, -List.getElem?_cons_succ, zg_0, zg_1, zg_2, zg_3, zg_4, zg_5, zg_6, zg_7, zg_8, zg_9, zc_lt, zc_le, zc_gt, zc_ge, zc_eq, zc_ne, zc_lt0, zc_ge0, zc_gt0, zc_eq0, zc_ne0, zb_ne, zb_eq, zb_01, z_00, z_01, z_11, zb_f, zb_T, zb_F, zbm1, zbm2, zbm5, zbm6, zbm3, zbm4, nI_clamp, zmod_n, pk_div, nI_ne0, pk_mul, nI_add, nI_1, zt_0, zt_12, zt_20, zt_26, zt_32, zf_0_0, zf_0_1, zf_0_2, zf_0_3, zf_0_4, zf_12_0, zf_12_1, zf_12_2, zf_12_4, zf_12_5, zf_20_1, zf_20_2, zf_20_3, zf_20_4, zf_20_6, zf_26_0, zf_26_1, zf_26_2, zf_26_3, zf_32_0, zf_32_1, zf_32_3, zf_32_4, zf_32_5, zf_32_6, qM_rcell ht h h8 (show j < n by omega) hb, zcl_ne4 hw, hno j h2]
  · intro j _ h2
    simp (disch := omega) [zs_M_ahead_1, zmeth, xm_en, zret, zretz, zretv, zseq, zst, zinc, zkl, zskip, zk, zi, za, zbin, zdiv, zrem, zgi, zgr, zld, zldr, zlen, zn, zc, zcall, zcallv, zrcv, zdo, zdov, zpf, zpfc, zas, zasc, zmin, zmax, zcmp, zcz, zand_e, zor_e, zite_e, zbite_e, zif_e, znot_e, z_add, z_sub, z_mul, z_and, z_or, z_xor, z_shl, z_shr, zcpy, -List.getElem?_cons_succ, zg_0, zg_1, zg_2, zg_3, zg_4, zg_5, zg_6, zg_7, zg_8, zg_9, zc_lt, zc_le, zc_gt, zc_ge, zc_eq, zc_ne, zc_lt0, zc_ge0, zc_gt0, zc_eq0, zc_ne0, zb_ne, zb_eq, zb_01, z_00, z_01, z_11, zb_f, zb_T, zb_F, zbm1, zbm2, zbm5, zbm6, zbm3, zbm4, nI_clamp, zmod_n, pk_div, nI_ne0, pk_mul, nI_add, nI_1]
  · simp (disch := omega) [zc_M_ahead_1, zmeth, xm_en, zret, zretz, zretv, zseq, zst, zinc, zkl, zskip, zk, zi, za, zbin, zdiv, zrem, zgi, zgr, zld, zldr, zlen, zn, zc, zcall, zcallv, zrcv, zdo, zdov, zpf, zpfc, zas, zasc, zmin, zmax, zcmp, zcz, zand_e, zor_e, zite_e, zbite_e, zif_e, znot_e, z_add, z_sub, z_mul, z_and, z_or, z_xor, z_shl, z_shr, zcpy, -List.getElem?_cons_succ, zg_0, zg_1, zg_2, zg_3, zg_4, zg_5, zg_6, zg_7, zg_8, zg_9, zc_lt, zc_le, zc_gt, zc_ge, zc_eq, zc_ne, zc_lt0, zc_ge0, zc_gt0, zc_eq0, zc_ne0, zb_ne, zb_eq, zb_01, z_00, z_01, z_11, zb_f, zb_T, zb_F, zbm1, zbm2, zbm5, zbm6, zbm3, zbm4, nI_clamp, zmod_n, pk_div, nI_ne0, pk_mul, nI_add, nI_1, zt_0, zt_12, zt_20, zt_26, zt_32, zf_0_0, zf_0_1, zf_0_2, zf_0_3, zf_0_4, zf_12_0, zf_12_1, zf_12_2, zf_12_4, zf_12_5, zf_20_1, zf_20_2, zf_20_3, zf_20_4, zf_20_6, zf_26_0, zf_26_1, zf_26_2, zf_26_3, zf_32_0, zf_32_1, zf_32_3, zf_32_4, zf_32_5, zf_32_6, qM_rcell ht h h8 hx hb, zcl_ne4 hw, hyes]
/-- rows below a, and of row a the columns below b, of table t are c's -/
def zft (M : zM) (t n : Nat) (c : tC) (a b : Nat) : zM := fun q j => if q = 34 ∧ 64 * t ≤ j ∧ j < 64 * t + 64 ∧ (j - 64 * t) % 8 < n ∧ ((j - 64 * t) / 8 < a ∨ ((j - 64 * t) / 8 = a ∧ (j - 64 * t) % 8 < b)) then zcl (-4) (c ((j - 64 * t) / 8) ((j - 64 * t) % 8)) else M q j
theorem zft_0 {M : zM} {t n : Nat} {c : tC} : zft M t n c 0 0 = M := by
  funext q j
  unfold zft
  rw [if_neg (by omega)]
theorem zft_r {M : zM} {t n a : Nat} {c : tC} : zft M t n c a n = zft M t n c (a + 1) 0 := by
  funext q j
  unfold zft
  have : (q = 34 ∧ 64 * t ≤ j ∧ j < 64 * t + 64 ∧ (j - 64 * t) % 8 < n ∧ ((j - 64 * t) / 8 < a ∨ ((j - 64 * t) / 8 = a ∧ (j - 64 * t) % 8 < n))) ↔ (q = 34 ∧ 64 * t ≤ j ∧ j < 64 * t + 64 ∧ (j - 64 * t) % 8 < n ∧ ((j - 64 * t) / 8 < a + 1 ∨ ((j - 64 * t) / 8 = a + 1 ∧ (j - 64 * t) % 8 < 0))) := by omega
  simp only [this]
theorem zft_s {M : zM} {t n a b : Nat} {c : tC} (h8 : n ≤ 8) (ha : a < 8) (hb : b < n) : zup (zft M t n c a b) 34 (64 * t + 8 * a + b) (zcl (-4) (c a b)) = zft M t n c a (b + 1) := by
  funext q j
  rw [zup_e]
  unfold zft
  by_cases h : q = 34 ∧ j = 64 * t + 8 * a + b
  · rw [if_pos h]
    obtain ⟨h1, h2⟩ := h
    have e1 : (j - 64 * t) / 8 = a := by omega
    have e2 : (j - 64 * t) % 8 = b := by omega
    rw [if_pos (by omega), e1, e2]
  · rw [if_neg h]
    have : (q = 34 ∧ 64 * t ≤ j ∧ j < 64 * t + 64 ∧ (j - 64 * t) % 8 < n ∧ ((j - 64 * t) / 8 < a ∨ ((j - 64 * t) / 8 = a ∧ (j - 64 * t) % 8 < b))) ↔ (q = 34 ∧ 64 * t ≤ j ∧ j < 64 * t + 64 ∧ (j - 64 * t) % 8 < n ∧ ((j - 64 * t) / 8 < a ∨ ((j - 64 * t) / 8 = a ∧ (j - 64 * t) % 8 < b + 1))) := by
      constructor
      · omega
      · intro g
        refine ⟨g.1, g.2.1, g.2.2.1, g.2.2.2.1, ?_⟩
        rcases g.2.2.2.2 with g2 | g2
        · exact Or.inl g2
        · refine Or.inr ⟨g2.1, ?_⟩
          rcases Nat.lt_or_ge ((j - 64 * t) % 8) b with g3 | g3
          · exact g3
          · exact absurd ⟨g.1, by omega⟩ h
    simp only [this]
theorem zft_out {M : zM} {t n a b : Nat} {c : tC} {q j : Nat} (h : ¬ (q = 34 ∧ 64 * t ≤ j ∧ j < 64 * t + 64)) : zft M t n c a b q j = M q j := by
  unfold zft
  rw [if_neg (by omega)]
theorem zft_in {M : zM} {t n : Nat} {c : tC} {a b : Nat} (h8 : n ≤ 8) (ha : a < n) (hb : b < n) : zft M t n c n 0 34 (64 * t + 8 * a + b) = zcl (-4) (c a b) := by
  unfold zft
  have e1 : (64 * t + 8 * a + b - 64 * t) / 8 = a := by omega
  have e2 : (64 * t + 8 * a + b - 64 * t) % 8 = b := by omega
  rw [e1, e2, if_pos (by omega)]
/-! table -/
theorem tNew_m (a b : Nat) (ha : a < 8) (hb : b < 8) : (bif decide (a = 0) then nI b else bif decide (b = 0) then nI a else -4) = zcl (-4) (tNew a b) := by
  unfold tNew
  by_cases h : a = 0
  · simp [h, zcl, hb]
  · by_cases h2 : b = 0
    · simp [h, h2, zcl, ha]
    · simp [h, h2, zcl]
theorem qM_table2 {M : zM} {t n a : Nat} (ht : t < 4) (h8 : n ≤ 8) (ha : a < n) : zwh zc_M_table_2 zs_M_table_2 [some (Value.ref (32)), some (Value.int (nI t)), some (Value.int (nI n)), some (Value.int (nI a)), some (Value.int (nI 0))] (zft M t n tNew a 0) = some (none, [some (Value.ref (32)), some (Value.int (nI t)), some (Value.int (nI n)), some (Value.int (nI a)), some (Value.int (nI n))], zft M t n tNew (a + 1) 0) := by
  rw [← zft_r]
  refine zwh_up (c := zc_M_table_2) (s := zs_M_table_2) (fun j => [some (Value.ref (32)), some (Value.int (nI t)), some (Value.int (nI n)), some (Value.int (nI a)), some (Value.int (nI j))]) (fun j => zft M t n tNew a j) (n := n) n 0 (by omega) ?_ ?_ ?_
  · intro j h1 h2
    simp (disch := omega) [zc_M_table_2, zmeth, xm_en, zret, zretz, zretv, zseq, zst, zinc, zkl, zskip, zk, zi, za, zbin, zdiv, zrem, zgi, zgr, zld, zldr, zlen, zn, zc, zcall, zcallv, zrcv, zdo, zdov, zpf, zpfc, zas, zasc, zmin, zmax, zcmp, zcz, zand_e, zor_e, zite_e, zbite_e, zif_e, znot_e, z_add, z_sub, z_mul, z_and, z_or, z_xor, z_shl, z_shr, zcpy, -List.getElem?_cons_succ, zg_0, zg_1, zg_2, zg_3, zg_4, zg_5, zg_6, zg_7, zg_8, zg_9, zc_lt, zc_le, zc_gt, zc_ge, zc_eq, zc_ne, zc_lt0, zc_ge0, zc_gt0, zc_eq0, zc_ne0, zb_ne, zb_eq, zb_01, z_00, z_01, z_11, zb_f, zb_T, zb_F, zbm1, zbm2, zbm5, zbm6, zbm3, zbm4, nI_clamp, zmod_n, pk_div, nI_ne0, pk_mul, nI_add, nI_1, h2]
  · intro j h1 h2
    have e1 := zft_s (M := M) (t := t) (c := tNew) h8 (show a < 8 by omega) h2
    have e2 := tNew_m a j (by omega) (by omega)
    have p := qM_puts (M := zft M t n tNew a j) (t := t) (a := a) (b := j) (v := zcl (-4) (tNew a j)) (by omega)
    simp (disch := omega) [zs_M_table_2, zmeth, xm_en, zret, zretz, zretv, zseq, zst, zinc, zkl, zskip, zk, zi, za, zbin, zdiv, zrem, zgi, zgr, zld, zldr, zlen, zn, zc, zcall, zcallv, zrcv, zdo, zdov, zpf, zpfc, zas, zasc, zmin, zmax, zcmp, zcz, zand_e, zor_e, zite_e, zbite_e, zif_e, znot_e, z_add, z_sub, z_mul, z_and, z_or, z_xor, z_shl, z_shr, zcpy, -List.getElem?_cons_succ, zg_0, zg_1, zg_2, zg_3, zg_4, zg_5, zg_6, zg_7, zg_8, zg_9, zc_lt, zc_le, zc_gt, zc_ge, zc_eq, zc_ne, zc_lt0, zc_ge0, zc_gt0, zc_eq0, zc_ne0, zb_ne, zb_eq, zb_01, z_00, z_01, z_11, zb_f, zb_T, zb_F, zbm1, zbm2, zbm5, zbm6, zbm3, zbm4, nI_clamp, zmod_n, pk_div, nI_ne0, pk_mul, nI_add, nI_1, zt_0, zt_12, zt_20, zt_26, zt_32, zf_0_0, zf_0_1, zf_0_2, zf_0_3, zf_0_4, zf_12_0, zf_12_1, zf_12_2, zf_12_4, zf_12_5, zf_20_1, zf_20_2, zf_20_3, zf_20_4, zf_20_6, zf_26_0, zf_26_1, zf_26_2, zf_26_3, zf_32_0, zf_32_1, zf_32_3, zf_32_4, zf_32_5, zf_32_6, e2, p, e1]
  · simp (disch := omega) [zc_M_table_2, zmeth, xm_en, zret, zretz, zretv, zseq, zst, zinc, zkl, zskip, zk, zi, za, zbin, zdiv, zrem, zgi, zgr, zld, zldr, zlen, zn, zc, zcall, zcallv, zrcv, zdo, zdov, zpf, zpfc, zas, zasc, zmin, zmax, zcmp, zcz, zand_e, zor_e, zite_e, zbite_e, zif_e, znot_e, z_add, z_sub, z_mul, z_and, z_or, z_xor, z_shl, z_shr, zcpy, -List.getElem?_cons_succ, zg_0, zg_1, zg_2, zg_3, zg_4, zg_5, zg_6, zg_7, zg_8, zg_9, zc_lt, zc_le, zc_gt, zc_ge, zc_eq, zc_ne, zc_lt0, zc_ge0, zc_gt0, zc_eq0, zc_ne0, zb_ne, zb_eq, zb_01, z_00, z_01, z_11, zb_f, zb_T, zb_F, zbm1, zbm2, zbm5, zbm6, zbm3, zbm4, nI_clamp, zmod_n, pk_div, nI_ne0, pk_mul, nI_add, nI_1]
theorem RS_ft {T : tS} {M : zM} {s n : Nat} {c : tC} (hT : TO T) (hs : s < 4) (h8 : n ≤ 8) (hR : RS T M) : RS (tset T s n c) (zft (zup M 33 s (nI n)) s n c n 0) := by
  intro t ht
  unfold tset
  by_cases h : t = s
  · subst h
    simp only [if_true]
    refine ⟨?_, fun a b ha hb => zft_in h8 ha hb⟩
    rw [zft_out (by omega), zup_e, if_pos ⟨rfl, rfl⟩]
  · rw [if_neg h]
    refine (hR t ht).same (hT t ht).1.2 ?_ (fun j h1 h2 => ?_)
    · rw [zft_out (by omega), zup_e, if_neg (by omega)]
    · rw [zft_out (by omega), zup_e, if_neg (by omega)]
theorem TO_set {T : tS} {s n : Nat} {c : tC} (hT : TO T) (h : tO n c) : TO (tset T s n c) := fun t ht => by
  unfold tset
  by_cases h2 : t = s
  · rw [if_pos h2]; exact h
  · rw [if_neg h2]; exact hT t ht
theorem qM_table {T : tS} {M : zM} (x y : Int32) (hR : RS T M) (hT : TO T) : ∃ M', zf_M_table [.ref 32, .int x, .int y] M = some (some (aTable x y), M') ∧ RS (sTable T x y) M' ∧ TO (sTable T x y) ∧ zlo M M' := by
  cases hk : okTable x y with
  | false =>
    refine ⟨M, ?_, by simpa [sTable, hk] using hR, by simpa [sTable, hk] using hT, zlo.refl M⟩
    rcases z3 x (n := 4) (by decide) with h | ⟨t, ht, rfl⟩
    · simp [zf_M_table, zmeth, xm_en, zret, zretz, zretv, zseq, zst, zinc, zkl, zskip, zk, zi, za, zbin, zdiv, zrem, zgi, zgr, zld, zldr, zlen, zn, zc, zcall, zcallv, zrcv, zdo, zdov, zpf, zpfc, zas, zasc, zmin, zmax, zcmp, zcz, zand_e, zor_e, zite_e, zbite_e, zif_e, znot_e, z_add, z_sub, z_mul, z_and, z_or, z_xor, z_shl, z_shr, zcpy, -List.getElem?_cons_succ, zg_0, zg_1, zg_2, zg_3, zg_4, zg_5, zg_6, zg_7, zg_8, zg_9, qM_isTable, zb_ne, h, aTable, hk]
    · have e := zlt_y ht (by decide)
      unfold okTable at hk
      rw [e, Bool.true_and] at hk
      have hk2 : okTable (nI t) y = false := by unfold okTable; rw [e, Bool.true_and, hk]
      simp [zf_M_table, zmeth, xm_en, zret, zretz, zretv, zseq, zst, zinc, zkl, zskip, zk, zi, za, zbin, zdiv, zrem, zgi, zgr, zld, zldr, zlen, zn, zc, zcall, zcallv, zrcv, zdo, zdov, zpf, zpfc, zas, zasc, zmin, zmax, zcmp, zcz, zand_e, zor_e, zite_e, zbite_e, zif_e, znot_e, z_add, z_sub, z_mul, z_and, z_or, z_xor, z_shl, z_shr, zcpy, -List.getElem?_cons_succ, zg_0, zg_1, zg_2, zg_3, zg_4, zg_5, zg_6, zg_7, zg_8, zg_9, qM_isTable, qM_in, zin1, zb_ne, e, aTable, hk, hk2]
  | true =>
    have hk0 := hk
    simp only [okTable, Bool.and_eq_true, Bool.not_eq_true', decide_eq_false_iff_not] at hk
    obtain ⟨h1, h2, h3⟩ := hk
    obtain ⟨t, ht, rfl⟩ := zlt_t (by decide) h1
    obtain ⟨m, hm, rfl⟩ := zlt_t (by decide) h2
    have hm1 : 1 ≤ m := by
      rcases Nat.eq_zero_or_pos m with g | g
      · exact absurd (by rw [g]) h3
      · exact g
    have R := zwh_up (c := zc_M_table_1) (s := zs_M_table_1) (fun j => [some (Value.ref (32)), some (Value.int (nI t)), some (Value.int (nI m)), some (Value.int (nI j)), none]) (fun j => zft (zup M 33 t (nI m)) t m tNew j 0) (n := m) m 0 (by omega) ?_ ?_ ?_
    · rw [zft_0] at R
      refine ⟨zft (zup M 33 t (nI m)) t m tNew m 0, ?_, ?_, ?_, ?_⟩
      · simp (disch := omega) [zf_M_table, zmeth, xm_en, zret, zretz, zretv, zseq, zst, zinc, zkl, zskip, zk, zi, za, zbin, zdiv, zrem, zgi, zgr, zld, zldr, zlen, zn, zc, zcall, zcallv, zrcv, zdo, zdov, zpf, zpfc, zas, zasc, zmin, zmax, zcmp, zcz, zand_e, zor_e, zite_e, zbite_e, zif_e, znot_e, z_add, z_sub, z_mul, z_and, z_or, z_xor, z_shl, z_shr, zcpy, -List.getElem?_cons_succ, zg_0, zg_1, zg_2, zg_3, zg_4, zg_5, zg_6, zg_7, zg_8, zg_9, zt_0, zt_12, zt_20, zt_26, zt_32, zf_0_0, zf_0_1, zf_0_2, zf_0_3, zf_0_4, zf_12_0, zf_12_1, zf_12_2, zf_12_4, zf_12_5, zf_20_1, zf_20_2, zf_20_3, zf_20_4, zf_20_6, zf_26_0, zf_26_1, zf_26_2, zf_26_3, zf_32_0, zf_32_1, zf_32_3, zf_32_4, zf_32_5, zf_32_6, qM_isTable, qM_in, zin1, zb_ne, h1, h2, h3, aTable, hk0, zi_33, nI_clamp, R]
      · simp only [sTable, hk0, cond_true]
        rw [nI_clamp (by omega), nI_clamp (by omega)]
        exact RS_ft hT ht (by omega) hR
      · simp only [sTable, hk0, cond_true]
        rw [nI_clamp (by omega), nI_clamp (by omega)]
        exact TO_set hT (tO_new hm1 (by omega))
      · intro k j hk
        rw [zft_out (by omega), zup_e, if_neg (by omega)]
    · intro j h1 h2
      simp (disch := omega) [zc_M_table_1, zmeth, xm_en, zret, zretz, zretv, zseq, zst, zinc, zkl, zskip, zk, zi, za, zbin, zdiv, zrem, zgi, zgr, zld, zldr, zlen, zn, zc, zcall, zcallv, zrcv, zdo, zdov, zpf, zpfc, zas, zasc, zmin, zmax, zcmp, zcz, zand_e, zor_e, zite_e, zbite_e, zif_e, znot_e, z_add, z_sub, z_mul, z_and, z_or, z_xor, z_shl, z_shr, zcpy, -List.getElem?_cons_succ, zg_0, zg_1, zg_2, zg_3, zg_4, zg_5, zg_6, zg_7, zg_8, zg_9, zc_lt, zc_le, zc_gt, zc_ge, zc_eq, zc_ne, zc_lt0, zc_ge0, zc_gt0, zc_eq0, zc_ne0, zb_ne, zb_eq, zb_01, z_00, z_01, z_11, zb_f, zb_T, zb_F, zbm1, zbm2, zbm5, zbm6, zbm3, zbm4, nI_clamp, zmod_n, pk_div, nI_ne0, pk_mul, nI_add, nI_1, h2]
    · intro j h3 h4
      have R2 := qM_table2 (M := zup M 33 t (nI m)) ht (show m ≤ 8 by omega) h4
      simp (disch := omega) [zs_M_table_1, zmeth, xm_en, zret, zretz, zretv, zseq, zst, zinc, zkl, zskip, zk, zi, za, zbin, zdiv, zrem, zgi, zgr, zld, zldr, zlen, zn, zc, zcall, zcallv, zrcv, zdo, zdov, zpf, zpfc, zas, zasc, zmin, zmax, zcmp, zcz, zand_e, zor_e, zite_e, zbite_e, zif_e, znot_e, z_add, z_sub, z_mul, z_and, z_or, z_xor, z_shl, z_shr, zcpy, -List.getElem?_cons_succ, zg_0, zg_1, zg_2, zg_3, zg_4, zg_5, zg_6, zg_7, zg_8, zg_9, zc_lt, zc_le, zc_gt, zc_ge, zc_eq, zc_ne, zc_lt0, zc_ge0, zc_gt0, zc_eq0, zc_ne0, zb_ne, zb_eq, zb_01, z_00, z_01, z_11, zb_f, zb_T, zb_F, zbm1, zbm2, zbm5, zbm6, zbm3, zbm4, nI_clamp, zmod_n, pk_div, nI_ne0, pk_mul, nI_add, nI_1, R2]
    · simp (disch := omega) [zc_M_table_1, zmeth, xm_en, zret, zretz, zretv, zseq, zst, zinc, zkl, zskip, zk, zi, za, zbin, zdiv, zrem, zgi, zgr, zld, zldr, zlen, zn, zc, zcall, zcallv, zrcv, zdo, zdov, zpf, zpfc, zas, zasc, zmin, zmax, zcmp, zcz, zand_e, zor_e, zite_e, zbite_e, zif_e, znot_e, z_add, z_sub, z_mul, z_and, z_or, z_xor, z_shl, z_shr, zcpy, -List.getElem?_cons_succ, zg_0, zg_1, zg_2, zg_3, zg_4, zg_5, zg_6, zg_7, zg_8, zg_9, zc_lt, zc_le, zc_gt, zc_ge, zc_eq, zc_ne, zc_lt0, zc_ge0, zc_gt0, zc_eq0, zc_ne0, zb_ne, zb_eq, zb_01, z_00, z_01, z_11, zb_f, zb_T, zb_F, zbm1, zbm2, zbm5, zbm6, zbm3, zbm4, nI_clamp, zmod_n, pk_div, nI_ne0, pk_mul, nI_add, nI_1]
/-! a copy -/
def zcp (M : zM) (s t i : Nat) : zM := fun q j => if q = 33 ∧ j = s then M 33 t else if q = 34 ∧ 64 * s ≤ j ∧ j < 64 * s + i then M 34 (64 * t + (j - 64 * s)) else M q j
theorem qM_copies {M : zM} {s t : Nat} (hs : s < 6) (ht : t < 6) (hne : s ≠ t) : zf_M_copies [.ref 32, .int (nI s), .int (nI t)] M = some (none, zcp M s t 64) := by
  have e0 : zup M 33 s (M 33 t) = zcp M s t 0 := by
    funext q j
    rw [zup_e]
    unfold zcp
    by_cases h : q = 33 ∧ j = s
    · rw [if_pos h, if_pos h]
    · rw [if_neg h, if_neg h, if_neg (by omega)]
  have eS : ∀ i, i < 64 → zup (zcp M s t i) 34 (64 * s + i) (zcp M s t i 34 (64 * t + i)) = zcp M s t (i + 1) := fun i hi => by
    have e1 : zcp M s t i 34 (64 * t + i) = M 34 (64 * t + i) := by
      unfold zcp
      rw [if_neg (by omega), if_neg (by omega)]
    rw [e1]
    funext q j
    rw [zup_e]
    by_cases h : q = 34 ∧ j = 64 * s + i
    · rw [if_pos h]
      unfold zcp
      rw [if_neg (by omega), if_pos (by omega)]
      congr 1
      omega
    · rw [if_neg h]
      unfold zcp
      by_cases h2 : q = 33 ∧ j = s
      · rw [if_pos h2, if_pos h2]
      · rw [if_neg h2, if_neg h2]
        by_cases h3 : q = 34 ∧ 64 * s ≤ j ∧ j < 64 * s + i
        · rw [if_pos h3, if_pos (by omega)]
        · rw [if_neg h3, if_neg (by omega)]
  have R := zwh_up (c := zc_M_copies_1) (s := zs_M_copies_1) (fun j => [some (Value.ref (32)), some (Value.int (nI s)), some (Value.int (nI t)), some (Value.int (nI j))]) (fun i => zcp M s t i) (n := 64) 64 0 (by omega) ?_ ?_ ?_
  · rw [← e0] at R
    simp (disch := omega) [zf_M_copies, zmeth, xm_en, zret, zretz, zretv, zseq, zst, zinc, zkl, zskip, zk, zi, za, zbin, zdiv, zrem, zgi, zgr, zld, zldr, zlen, zn, zc, zcall, zcallv, zrcv, zdo, zdov, zpf, zpfc, zas, zasc, zmin, zmax, zcmp, zcz, zand_e, zor_e, zite_e, zbite_e, zif_e, znot_e, z_add, z_sub, z_mul, z_and, z_or, z_xor, z_shl, z_shr, zcpy, -List.getElem?_cons_succ, zg_0, zg_1, zg_2, zg_3, zg_4, zg_5, zg_6, zg_7, zg_8, zg_9, zt_0, zt_12, zt_20, zt_26, zt_32, zf_0_0, zf_0_1, zf_0_2, zf_0_3, zf_0_4, zf_12_0, zf_12_1, zf_12_2, zf_12_4, zf_12_5, zf_20_1, zf_20_2, zf_20_3, zf_20_4, zf_20_6, zf_26_0, zf_26_1, zf_26_2, zf_26_3, zf_32_0, zf_32_1, zf_32_3, zf_32_4, zf_32_5, zf_32_6, zi_33, nI_clamp, R]
  · intro j _ h2
    simp (disch := omega) [zc_M_copies_1, zmeth, xm_en, zret, zretz, zretv, zseq, zst, zinc, zkl, zskip, zk, zi, za, zbin, zdiv, zrem, zgi, zgr, zld, zldr, zlen, zn, zc, zcall, zcallv, zrcv, zdo, zdov, zpf, zpfc, zas, zasc, zmin, zmax, zcmp, zcz, zand_e, zor_e, zite_e, zbite_e, zif_e, znot_e, z_add, z_sub, z_mul, z_and, z_or, z_xor, z_shl, z_shr, zcpy, -List.getElem?_cons_succ, zg_0, zg_1, zg_2, zg_3, zg_4, zg_5, zg_6, zg_7, zg_8, zg_9, zc_lt, zc_le, zc_gt, zc_ge, zc_eq, zc_ne, zc_lt0, zc_ge0, zc_gt0, zc_eq0, zc_ne0, zb_ne, zb_eq, zb_01, z_00, z_01, z_11, zb_f, zb_T, zb_F, zbm1, zbm2, zbm5, zbm6, zbm3, zbm4, nI_clamp, zmod_n, pk_div, nI_ne0, pk_mul, nI_add, nI_1, h2]
  · intro j _ h2
    simp (disch := omega) [zs_M_copies_1, zmeth, xm_en, zret, zretz, zretv, zseq, zst, zinc, zkl, zskip, zk, zi, za, zbin, zdiv, zrem, zgi, zgr, zld, zldr, zlen, zn, zc, zcall, zcallv, zrcv, zdo, zdov, zpf, zpfc, zas, zasc, zmin, zmax, zcmp, zcz, zand_e, zor_e, zite_e, zbite_e, zif_e, znot_e, z_add, z_sub, z_mul, z_and, z_or, z_xor, z_shl, z_shr, zcpy, -List.getElem?_cons_succ, zg_0, zg_1, zg_2, zg_3, zg_4, zg_5, zg_6, zg_7, zg_8, zg_9, zc_lt, zc_le, zc_gt, zc_ge, zc_eq, zc_ne, zc_lt0, zc_ge0, zc_gt0, zc_eq0, zc_ne0, zb_ne, zb_eq, zb_01, z_00, z_01, z_11, zb_f, zb_T, zb_F, zbm1, zbm2, zbm5, zbm6, zbm3, zbm4, nI_clamp, zmod_n, pk_div, nI_ne0, pk_mul, nI_add, nI_1, zt_0, zt_12, zt_20, zt_26, zt_32, zf_0_0, zf_0_1, zf_0_2, zf_0_3, zf_0_4, zf_12_0, zf_12_1, zf_12_2, zf_12_4, zf_12_5, zf_20_1, zf_20_2, zf_20_3, zf_20_4, zf_20_6, zf_26_0, zf_26_1, zf_26_2, zf_26_3, zf_32_0, zf_32_1, zf_32_3, zf_32_4, zf_32_5, zf_32_6, zi_34, eS j h2]
  · simp (disch := omega) [zc_M_copies_1, zmeth, xm_en, zret, zretz, zretv, zseq, zst, zinc, zkl, zskip, zk, zi, za, zbin, zdiv, zrem, zgi, zgr, zld, zldr, zlen, zn, zc, zcall, zcallv, zrcv, zdo, zdov, zpf, zpfc, zas, zasc, zmin, zmax, zcmp, zcz, zand_e, zor_e, zite_e, zbite_e, zif_e, znot_e, z_add, z_sub, z_mul, z_and, z_or, z_xor, z_shl, z_shr, zcpy, -List.getElem?_cons_succ, zg_0, zg_1, zg_2, zg_3, zg_4, zg_5, zg_6, zg_7, zg_8, zg_9, zc_lt, zc_le, zc_gt, zc_ge, zc_eq, zc_ne, zc_lt0, zc_ge0, zc_gt0, zc_eq0, zc_ne0, zb_ne, zb_eq, zb_01, z_00, z_01, z_11, zb_f, zb_T, zb_F, zbm1, zbm2, zbm5, zbm6, zbm3, zbm4, nI_clamp, zmod_n, pk_div, nI_ne0, pk_mul, nI_add, nI_1]
theorem rT_cp {M : zM} {s t n : Nat} {c : tC} (h8 : n ≤ 8) (h : rT M t n c) : rT (zcp M s t 64) s n c := by
  refine ⟨?_, fun a b ha hb => ?_⟩
  · unfold zcp
    rw [if_pos ⟨rfl, rfl⟩]
    exact h.1
  · unfold zcp
    rw [if_neg (by omega), if_pos (by omega)]
    have := h.2 a b ha hb
    rw [← this]
    congr 1
    omega
theorem zcp_out {M : zM} {s t i q j : Nat} (h1 : ¬ (q = 33 ∧ j = s)) (h2 : ¬ (q = 34 ∧ 64 * s ≤ j ∧ j < 64 * s + i)) : zcp M s t i q j = M q j := by
  unfold zcp
  rw [if_neg h1, if_neg h2]
theorem RS_cp {T : tS} {M : zM} {s t n : Nat} {c : tC} (hT : TO T) (hs : s < 4) (h8 : n ≤ 8) (hR : RS T M) (h : rT M t n c) : RS (tset T s n c) (zcp M s t 64) := by
  intro u hu
  unfold tset
  by_cases h2 : u = s
  · subst h2
    simp only [if_true]
    exact rT_cp h8 h
  · rw [if_neg h2]
    exact (hR u hu).same (hT u hu).1.2 (zcp_out (by omega) (by omega)) (fun j h3 h4 => zcp_out (by omega) (by omega))
