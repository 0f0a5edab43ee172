/-! NUMBERS AND BITS -/
def zall (p : Nat → Bool) : Nat → Bool
  | 0 => true
  | n + 1 => zall p n && p n
theorem zall_t {p : Nat → Bool} : ∀ {n : Nat}, zall p n = true ↔ ∀ i, i < n → p i = true
  | 0 => by simp [zall]
  | n + 1 => by
    simp only [zall, Bool.and_eq_true, zall_t (n := n)]
    constructor
    · intro h i hi
      rcases Nat.lt_succ_iff_lt_or_eq.mp hi with h2 | h2
      · exact h.1 i h2
      · subst h2; exact h.2
    · intro h
      exact ⟨fun i hi => h i (by omega), h n (by omega)⟩
def zany (p : Nat → Bool) : Nat → Bool
  | 0 => false
  | n + 1 => zany p n || p n
theorem zany_t {p : Nat → Bool} : ∀ {n : Nat}, zany p n = true ↔ ∃ i, i < n ∧ p i = true
  | 0 => by simp [zany]
  | n + 1 => by
    simp only [zany, Bool.or_eq_true, zany_t (n := n)]
    constructor
    · intro h
      rcases h with ⟨i, h1, h2⟩ | h
      · exact ⟨i, by omega, h2⟩
      · exact ⟨n, by omega, h⟩
    · intro h
      obtain ⟨i, hi, h2⟩ := h
      rcases Nat.lt_succ_iff_lt_or_eq.mp hi with h3 | h3
      · exact Or.inl ⟨i, h3, h2⟩
      · subst h3; exact Or.inr h2
theorem zall_congr {p q : Nat → Bool} {n : Nat} (h : ∀ i, i < n → p i = q i) : zall p n = zall q n := by
  induction n with
  | zero => rfl
  | succ n ih => unfold zall; rw [ih (fun i hi => h i (by omega)), h n (by omega)]
theorem zany_congr {p q : Nat → Bool} {n : Nat} (h : ∀ i, i < n → p i = q i) : zany p n = zany q n := by
  induction n with
  | zero => rfl
  | succ n ih => unfold zany; rw [ih (fun i hi => h i (by omega)), h n (by omega)]
def zsum (f : Nat → Nat) : Nat → Nat
  | 0 => 0
  | n + 1 => zsum f n + f n
theorem zsum_le {f : Nat → Nat} {b : Nat} : ∀ {n : Nat}, (∀ i, i < n → f i ≤ b) → zsum f n ≤ n * b
  | 0, _ => by simp [zsum]
  | n + 1, h => by
    have h1 := zsum_le (f := f) (b := b) (n := n) (fun i hi => h i (by omega))
    have h2 := h n (by omega)
    unfold zsum
    rw [Nat.succ_mul]
    omega
theorem zsum_congr {f g : Nat → Nat} {n : Nat} (h : ∀ i, i < n → f i = g i) : zsum f n = zsum g n := by
  induction n with
  | zero => rfl
  | succ n ih => unfold zsum; rw [ih (fun i hi => h i (by omega)), h n (by omega)]
theorem zsum_0 {f : Nat → Nat} : ∀ {n : Nat}, zsum f n = 0 ↔ ∀ i, i < n → f i = 0
  | 0 => by simp [zsum]
  | n + 1 => by
    unfold zsum
    rw [Nat.add_eq_zero_iff, zsum_0]
    constructor
    · intro h i hi
      rcases Nat.lt_succ_iff_lt_or_eq.mp hi with h2 | h2
      · exact h.1 i h2
      · subst h2; exact h.2
    · intro h
      exact ⟨fun i hi => h i (by omega), h n (by omega)⟩
theorem zsum_mono {f : Nat → Nat} {i n : Nat} (h : i ≤ n) : zsum f i ≤ zsum f n := by
  induction h with
  | refl => exact Nat.le_refl _
  | step _ ih => exact Nat.le_trans ih (Nat.le_add_right _ _)
/-! ints as bits -/
theorem nI_bv (a : Nat) : (nI a).toBitVec = BitVec.ofNat 32 a := rfl
theorem nI_or (a b : Nat) : nI a ||| nI b = nI (a ||| b) := by
  apply Int32.toBitVec_inj.mp
  show (nI a).toBitVec ||| (nI b).toBitVec = (nI (a ||| b)).toBitVec
  rw [nI_bv, nI_bv, nI_bv]
  apply BitVec.eq_of_toNat_eq
  simp [Nat.or_mod_two_pow]
theorem nI_and (a b : Nat) : nI a &&& nI b = nI (a &&& b) := by
  apply Int32.toBitVec_inj.mp
  show (nI a).toBitVec &&& (nI b).toBitVec = (nI (a &&& b)).toBitVec
  rw [nI_bv, nI_bv, nI_bv]
  apply BitVec.eq_of_toNat_eq
  simp [Nat.and_mod_two_pow]
theorem nI_31 {v : Nat} (hv : v < 32) : nI v &&& 31 = nI v := by
  rw [pk_andN (n := v) (by omega) 5 (by decide)]
  congr 1
  omega
theorem nI_smod : ∀ v, v < 32 → ((nI v).toBitVec.smod 32).toNat = v := by decide
theorem nI_shl {n v : Nat} (hv : v < 32) (h : n * 2 ^ v < 2 ^ 32) : nI n <<< (nI v &&& 31) = nI (n * 2 ^ v) := by
  rw [nI_31 hv]
  exact pk_shlN _ v (nI_smod v hv) h
theorem nI_shl1 {v : Nat} (hv : v < 32) : nI 1 <<< (nI v &&& 31) = nI (2 ^ v) := by
  rw [nI_shl hv, Nat.one_mul]
  rw [Nat.one_mul]
  exact Nat.pow_lt_pow_right (by decide) hv
theorem nI_shr {n v : Nat} (hn : n < 2 ^ 31) (hv : v < 32) : nI n >>> (nI v &&& 31) = nI (n >>> v) := by
  rw [nI_31 hv, Nat.shiftRight_eq_div_pow]
  exact pk_shrN hn _ v (nI_smod v hv)
theorem nI_bit {n v : Nat} (hn : n < 2 ^ 31) (hv : v < 32) : (nI n >>> (nI v &&& 31)) &&& nI 1 = zb (n.testBit v) := by
  rw [nI_shr hn hv, nI_and, Nat.and_one_is_mod]
  unfold zb
  rw [Nat.testBit_eq_decide_div_mod_eq, Nat.shiftRight_eq_div_pow]
  have h2 : n / 2 ^ v % 2 = 0 ∨ n / 2 ^ v % 2 = 1 := by omega
  rcases h2 with h2 | h2 <;> rw [h2] <;> rfl
/-- the set of the f i, i below n with p i, as bits -/
def zim (f : Nat → Nat) (p : Nat → Bool) : Nat → Nat
  | 0 => 0
  | n + 1 => zim f p n ||| (bif p n then 2 ^ f n else 0)
theorem zim_t {f : Nat → Nat} {p : Nat → Bool} {v : Nat} : ∀ {n : Nat}, (zim f p n).testBit v = zany (fun i => p i && decide (f i = v)) n
  | 0 => by simp [zim, zany]
  | n + 1 => by
    unfold zim zany
    rw [Nat.testBit_or, zim_t]
    congr 1
    cases p n with
    | false => simp
    | true => simp [Nat.testBit_two_pow]
theorem zim_lt {f : Nat → Nat} {p : Nat → Bool} {m : Nat} : ∀ {n : Nat}, (∀ i, i < n → p i = true → f i < m) → zim f p n < 2 ^ m
  | 0, _ => by unfold zim; exact Nat.two_pow_pos m
  | n + 1, h => by
    unfold zim
    refine Nat.or_lt_two_pow (zim_lt (fun i hi => h i (by omega))) ?_
    cases hp : p n with
    | false => exact Nat.two_pow_pos m
    | true => exact Nat.pow_lt_pow_right (by decide) (h n (by omega) hp)
theorem zim_congr {f g : Nat → Nat} {p q : Nat → Bool} {n : Nat} (h : ∀ i, i < n → f i = g i) (h2 : ∀ i, i < n → p i = q i) : zim f p n = zim g q n := by
  induction n with
  | zero => rfl
  | succ n ih => unfold zim; rw [ih (fun i hi => h i (by omega)) (fun i hi => h2 i (by omega)), h n (by omega), h2 n (by omega)]
theorem zsum_b {f : Nat → Nat} {n : Nat} (h : ∀ i, f i ≤ 1) : zsum f n ≤ n := by
  have := zsum_le (f := f) (b := 1) (n := n) (fun i _ => h i)
  omega
/-- the first from i on, of d, with p; i + d, if there is none -/
def zidx (p : Nat → Bool) : Nat → Nat → Nat
  | i, 0 => i
  | i, d + 1 => bif p i then i else zidx p (i + 1) d
theorem zidx_le {p : Nat → Bool} : ∀ (d i : Nat), i ≤ zidx p i d ∧ zidx p i d ≤ i + d
  | 0, i => ⟨Nat.le_refl _, Nat.le_refl _⟩
  | d + 1, i => by
    unfold zidx
    cases p i with
    | true => exact ⟨Nat.le_refl _, by dsimp only [cond]; omega⟩
    | false =>
      have := zidx_le (p := p) d (i + 1)
      dsimp only [cond]
      omega
theorem zidx_lt {p : Nat → Bool} : ∀ (d i : Nat), zidx p i d < i + d → p (zidx p i d) = true
  | 0, i, h => by unfold zidx at h; omega
  | d + 1, i, h => by
    unfold zidx at h ⊢
    cases hp : p i with
    | true => exact hp
    | false =>
      rw [hp] at h
      exact zidx_lt d (i + 1) (by dsimp only [cond] at h; omega)
theorem zidx_no {p : Nat → Bool} : ∀ (d i j : Nat), i ≤ j → j < zidx p i d → p j = false
  | 0, i, j, h1, h2 => by unfold zidx at h2; omega
  | d + 1, i, j, h1, h2 => by
    unfold zidx at h2
    cases hp : p i with
    | true => rw [hp] at h2; dsimp only [cond] at h2; omega
    | false =>
      rw [hp] at h2
      rcases Nat.lt_or_ge i j with h | h
      · exact zidx_no d (i + 1) j h h2
      · have : j = i := by omega
        subst this
        exact hp
theorem zidx_is {p : Nat → Bool} {d i j : Nat} (h1 : i ≤ j) (h2 : j < i + d) (h3 : p j = true) (h4 : ∀ k, i ≤ k → k < j → p k = false) : zidx p i d = j := by
  rcases Nat.lt_trichotomy (zidx p i d) j with h | h | h
  · have a := zidx_le (p := p) d i
    have b := zidx_lt (p := p) d i (by omega)
    rw [h4 _ a.1 h] at b
    cases b
  · exact h
  · have := zidx_no (p := p) d i j h1 h
    rw [h3] at this
    cases this
theorem zidx_congr {p q : Nat → Bool} : ∀ (d i : Nat), (∀ j, i ≤ j → j < i + d → p j = q j) → zidx p i d = zidx q i d
  | 0, i, _ => rfl
  | d + 1, i, h => by
    unfold zidx
    rw [h i (Nat.le_refl _) (by omega), zidx_congr d (i + 1) (fun j h1 h2 => h j (by omega) (by omega))]
/-- a search through a loop -/
theorem zwh_find {c : zB} {s : zS} (L : Nat → zL) (N : zM) (p : Nat → Bool) (v : Nat → Option Int32) (L' : Nat → zL) {n : Nat} (he : c (L n) N = some (false, N)) : ∀ (d i : Nat), i + d = n → (∀ j, i ≤ j → j < n → c (L j) N = some (true, N)) → (∀ j, i ≤ j → j < n → p j = false → s (L j) N = some (none, L (j + 1), N)) → (∀ j, i ≤ j → j < n → p j = true → s (L j) N = some (some (v j), L' j, N)) → zwh c s (L i) N = if zidx p i d < n then some (some (v (zidx p i d)), L' (zidx p i d), N) else some (none, L n, N)
  | 0, i, h, _, _, _ => by
    have : i = n := by omega
    subst this
    rw [if_neg (by unfold zidx; omega)]
    exact zwh_f he
  | d + 1, i, h, hc, hs, hr => by
    unfold zidx
    cases hp : p i with
    | true =>
      dsimp only [cond]
      rw [if_pos (by omega)]
      exact zwh_r (hc i (Nat.le_refl _) (by omega)) (hr i (Nat.le_refl _) (by omega) hp)
    | false =>
      have ih := zwh_find L N p v L' he d (i + 1) (by omega) (fun j h1 h2 => hc j (by omega) h2) (fun j h1 h2 => hs j (by omega) h2) (fun j h1 h2 => hr j (by omega) h2)
      dsimp only [cond]
      split at ih
      · rename_i h9
        rw [if_pos h9]
        exact zwh_t (hc i (Nat.le_refl _) (by omega)) (hs i (Nat.le_refl _) (by omega) hp) ih
      · rename_i h9
        rw [if_neg h9]
        exact zwh_t (hc i (Nat.le_refl _) (by omega)) (hs i (Nat.le_refl _) (by omega) hp) ih
theorem zpig : ∀ (n : Nat) (f : Nat → Nat), (∀ i, i < n → f i < n) → (∀ i j, i < n → j < n → f i = f j → i = j) → ∀ v, v < n → ∃ i, i < n ∧ f i = v
  | 0, _, _, _, v, hv => by omega
  | n + 1, f, hf, hi, v, hv => by
    have ih := zpig n (fun i => if f i = n then f n else f i) (fun i h => by
      try dsimp only
      have h1 := hf i (by omega)
      have h2 := hf n (by omega)
      split
      · rename_i h3
        have : f n ≠ n := fun h4 => by
          have := hi i n (by omega) (by omega) (h3.trans h4.symm)
          omega
        omega
      · omega) (fun i j h1 h2 h3 => by
      try dsimp only at h3
      have a := hf i (by omega)
      have b := hf j (by omega)
      split at h3
      · rename_i g1
        split at h3
        · rename_i g2
          exact hi i j (by omega) (by omega) (g1.trans g2.symm)
        · have := hi n j (by omega) (by omega) h3
          omega
      · split at h3
        · have := hi i n (by omega) (by omega) h3
          omega
        · exact hi i j (by omega) (by omega) h3)
    by_cases h1 : v = f n
    · exact ⟨n, by omega, h1.symm⟩
    · have h2 := hf n (by omega)
      by_cases h3 : v = n
      · obtain ⟨i, h4, h5⟩ := ih (f n) (by omega)
        try dsimp only at h5
        split at h5
        · rename_i h6
          exact ⟨i, by omega, by omega⟩
        · have := hi i n (by omega) (by omega) h5
          omega
      · obtain ⟨i, h4, h5⟩ := ih v (by omega)
        try dsimp only at h5
        split at h5
        · omega
        · exact ⟨i, by omega, h5⟩
