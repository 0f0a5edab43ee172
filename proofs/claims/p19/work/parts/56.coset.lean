/-! what is left of a table by a normal part -/
def lb (n : Nat) (c : tC) (h x : Nat) : Nat := zidx (fun a => (tL n c x h).testBit a) 0 n
def rk (n : Nat) (c : tC) (h a : Nat) : Nat := zsum (fun i => if lb n c h i = i then 1 else 0) a
def nm (n : Nat) (c : tC) (h x : Nat) : Nat := rk n c h (lb n c h x)
def rp (n : Nat) (c : tC) (h i : Nat) : Nat := zidx (fun a => decide (lb n c h a = a) && decide (rk n c h a = i)) 0 n
def tQ (n : Nat) (c : tC) (h : Nat) : tC := fun i j => nm n c h (c (rp n c h i) (rp n c h j))
/-- a normal part of a full table -/
def NP (n : Nat) (c : tC) (h : Nat) : Prop := tO n c ∧ tF n c ∧ h < 2 ^ n ∧ isP n c h = true ∧ tNm n c h = true
theorem tb_lt {n h v : Nat} (hh : h < 2 ^ n) (hv : h.testBit v = true) : v < n := by
  rcases Nat.lt_or_ge v n with g | g
  · exact g
  · have := Nat.testBit_lt_two_pow (Nat.lt_of_lt_of_le hh (Nat.pow_le_pow_right (by decide) g))
    rw [this] at hv
    cases hv
theorem NP.bit {n h : Nat} {c : tC} (H : NP n c h) : h.testBit 0 = true ∧ ∀ a b, h.testBit a = true → h.testBit b = true → h.testBit (c a b) = true := by
  obtain ⟨h1, h2, h3, h4, -⟩ := H
  unfold isP at h4
  rw [Bool.and_eq_true, decide_eq_true_eq] at h4
  exact ⟨h4.1, fun a b ha hb => wP_fix.mp h4.2 a b (tb_lt h3 ha) (tb_lt h3 hb) ha hb⟩
theorem NP.nmP {n h : Nat} {c : tC} (H : NP n c h) : (∀ x, x < n → tL n c x h = tRt n c h x) ∧ (∀ x y, x < n → y < n → tL n c x (tL n c y h) = tL n c (c x y) h) ∧ (∀ x y, x < n → y < n → tRt n c (tRt n c h x) y = tRt n c h (c x y)) := by
  obtain ⟨-, -, -, -, h5⟩ := H
  have g := zall_t.mp h5
  refine ⟨fun x hx => ?_, fun x y hx hy => ?_, fun x y hx hy => ?_⟩
  · have := g x hx
    simp only [nm1, Bool.and_eq_true, decide_eq_true_eq] at this
    exact this.1
  · have := g x hx
    simp only [nm1, Bool.and_eq_true, decide_eq_true_eq] at this
    have := zall_t.mp this.2 y hy
    simp only [nm2, Bool.and_eq_true, decide_eq_true_eq] at this
    exact this.1
  · have := g x hx
    simp only [nm1, Bool.and_eq_true, decide_eq_true_eq] at this
    have := zall_t.mp this.2 y hy
    simp only [nm2, Bool.and_eq_true, decide_eq_true_eq] at this
    exact this.2
theorem NP.self {n h x : Nat} {c : tC} (H : NP n c h) (hx : x < n) : (tL n c x h).testBit x = true := tL_t.mpr ⟨0, H.1.1.1, H.bit.1, (H.1.2.1 x hx).2⟩
theorem NP.kh {n h k : Nat} {c : tC} (H : NP n c h) (hk : h.testBit k = true) : tL n c k h = h := by
  have h8 := H.1.1.2
  have hkn := tb_lt H.2.2.1 hk
  refine tb_ext (fun v => ?_)
  rw [tL_t]
  constructor
  · rintro ⟨b, hb, sb, rfl⟩
    exact H.bit.2 k b hk sb
  · intro hv
    obtain ⟨i, hi, si, e⟩ := zpig_s (f := fun y => c k y) (fun i hi => H.2.1 k i hkn hi) (fun i j hi hj g => H.1.2.2.2.1 k i j hkn hi hj g (by have := H.2.1 k i hkn hi; omega)) (fun i hi g => H.bit.2 k i hk g) (tb_lt H.2.2.1 hv) hv
    exact ⟨i, hi, si, e⟩
theorem NP.cos {n h x y : Nat} {c : tC} (H : NP n c h) (hx : x < n) (hy : (tL n c x h).testBit y = true) : tL n c y h = tL n c x h := by
  obtain ⟨k, hk, sk, rfl⟩ := tL_t.mp hy
  rw [← H.nmP.2.1 x k hx hk, H.kh sk]
theorem NP.lbP {n h x : Nat} {c : tC} (H : NP n c h) (hx : x < n) : lb n c h x ≤ x ∧ (tL n c x h).testBit (lb n c h x) = true ∧ tL n c (lb n c h x) h = tL n c x h ∧ lb n c h (lb n c h x) = lb n c h x := by
  have s := H.self hx
  have h1 : lb n c h x ≤ x := by
    rcases Nat.lt_or_ge x (lb n c h x) with g | g
    · have := zidx_no (p := fun a => (tL n c x h).testBit a) n 0 x (by omega) g
      rw [s] at this
      cases this
    · exact g
  have h2 : (tL n c x h).testBit (lb n c h x) = true := zidx_lt (p := fun a => (tL n c x h).testBit a) n 0 (by unfold lb at h1; omega)
  have h3 := H.cos hx h2
  refine ⟨h1, h2, h3, ?_⟩
  show zidx (fun a => (tL n c (lb n c h x) h).testBit a) 0 n = _
  rw [h3]
  rfl
theorem NP.lb_eq {n h x y : Nat} {c : tC} (H : NP n c h) (hx : x < n) (hy : y < n) : lb n c h x = lb n c h y ↔ tL n c x h = tL n c y h := by
  constructor
  · intro e
    rw [← (H.lbP hx).2.2.1, ← (H.lbP hy).2.2.1, e]
  · intro e
    unfold lb
    rw [e]
theorem NP.con {n h x y x' y' : Nat} {c : tC} (H : NP n c h) (hx : x < n) (hy : y < n) (hx' : x' < n) (hy' : y' < n) (e1 : lb n c h x = lb n c h x') (e2 : lb n c h y = lb n c h y') : lb n c h (c x y) = lb n c h (c x' y') := by
  have f := H.2.1
  rw [H.lb_eq (f x y hx hy) (f x' y' hx' hy')]
  have g1 := (H.lb_eq hx hx').mp e1
  have g2 := (H.lb_eq hy hy').mp e2
  rw [← H.nmP.2.1 x y hx hy, g2, H.nmP.2.1 x y' hx hy', H.nmP.1 _ (f x y' hx hy'), ← H.nmP.2.2 x y' hx hy', ← H.nmP.1 x hx, g1, H.nmP.1 x' hx', H.nmP.2.2 x' y' hx' hy', ← H.nmP.1 _ (f x' y' hx' hy')]
theorem rk_s (n : Nat) (c : tC) (h a : Nat) : rk n c h (a + 1) = rk n c h a + if lb n c h a = a then 1 else 0 := rfl
theorem rk_le (n : Nat) (c : tC) (h a : Nat) : rk n c h a ≤ a := zsum_b (fun i => by split <;> omega)
theorem rk_mono {n : Nat} {c : tC} {h a b : Nat} (hab : a ≤ b) : rk n c h a ≤ rk n c h b := zsum_mono hab
theorem rk_lt {n : Nat} {c : tC} {h a b : Nat} (hab : a < b) (e : lb n c h a = a) : rk n c h a < rk n c h b := by
  have := rk_mono (n := n) (c := c) (h := h) (show a + 1 ≤ b from hab)
  rw [rk_s, if_pos e] at this
  omega
theorem rk_inj {n : Nat} {c : tC} {h a b : Nat} (ea : lb n c h a = a) (eb : lb n c h b = b) (e : rk n c h a = rk n c h b) : a = b := by
  rcases Nat.lt_trichotomy a b with g | g | g
  · have := rk_lt g ea; omega
  · exact g
  · have := rk_lt g eb; omega
theorem rk_ex {n : Nat} {c : tC} {h : Nat} : ∀ (m i : Nat), i < rk n c h m → ∃ a, a < m ∧ lb n c h a = a ∧ rk n c h a = i
  | 0, i, g => by simp [rk, zsum] at g
  | m + 1, i, g => by
    rw [rk_s] at g
    by_cases e : lb n c h m = m
    · rw [if_pos e] at g
      rcases Nat.lt_or_ge i (rk n c h m) with q | q
      · obtain ⟨a, h1, h2⟩ := rk_ex m i q
        exact ⟨a, by omega, h2⟩
      · exact ⟨m, by omega, e, by omega⟩
    · rw [if_neg e] at g
      obtain ⟨a, h1, h2⟩ := rk_ex m i (by omega)
      exact ⟨a, by omega, h2⟩
theorem rp_ok {n : Nat} {c : tC} {h i : Nat} (hi : i < rk n c h n) : rp n c h i < n ∧ lb n c h (rp n c h i) = rp n c h i ∧ rk n c h (rp n c h i) = i := by
  obtain ⟨a, h1, h2, h3⟩ := rk_ex n i hi
  have g : rp n c h i < n := by
    rcases Nat.lt_or_ge (rp n c h i) n with q | q
    · exact q
    · have := zidx_no (p := fun a => decide (lb n c h a = a) && decide (rk n c h a = i)) n 0 a (by omega) (by unfold rp at q; omega)
      simp [h2, h3] at this
  have := zidx_lt (p := fun a => decide (lb n c h a = a) && decide (rk n c h a = i)) n 0 (by unfold rp at g; omega)
  simp only [Bool.and_eq_true, decide_eq_true_eq] at this
  exact ⟨g, this.1, this.2⟩
theorem NP.nm_lt {n h x : Nat} {c : tC} (H : NP n c h) (hx : x < n) : nm n c h x < rk n c h n := by
  have := H.lbP hx
  exact rk_lt (by omega) this.2.2.2
theorem NP.nm_eq {n h x y : Nat} {c : tC} (H : NP n c h) (hx : x < n) (hy : y < n) : nm n c h x = nm n c h y ↔ lb n c h x = lb n c h y := by
  constructor
  · exact fun e => rk_inj (H.lbP hx).2.2.2 (H.lbP hy).2.2.2 e
  · intro e
    unfold nm
    rw [e]
theorem NP.rp_nm {n h x : Nat} {c : tC} (H : NP n c h) (hx : x < n) : lb n c h (rp n c h (nm n c h x)) = lb n c h x := by
  have g := rp_ok (H.nm_lt hx)
  have := H.lbP hx
  rw [g.2.1]
  exact rk_inj g.2.1 this.2.2.2 g.2.2
theorem NP.q {n h x y : Nat} {c : tC} (H : NP n c h) (hx : x < n) (hy : y < n) : nm n c h (c x y) = tQ n c h (nm n c h x) (nm n c h y) := by
  have g1 := rp_ok (H.nm_lt hx)
  have g2 := rp_ok (H.nm_lt hy)
  unfold tQ
  rw [H.nm_eq (H.2.1 x y hx hy) (H.2.1 _ _ g1.1 g2.1)]
  exact H.con hx hy g1.1 g2.1 (H.rp_nm hx).symm (H.rp_nm hy).symm
theorem tL_can {n x s s' : Nat} {c : tC} (h : tO n c) (hf : tF n c) (hx : x < n) (hs : s < 2 ^ n) (hs' : s' < 2 ^ n) (e : tL n c x s = tL n c x s') : s = s' := by
  have h8 := h.1.2
  have key : ∀ a b : Nat, a < 2 ^ n → tL n c x a = tL n c x b → ∀ v, a.testBit v = true → b.testBit v = true := fun a b ha q v hv => by
    have hvn := tb_lt ha hv
    have : (tL n c x a).testBit (c x v) = true := tL_t.mpr ⟨v, hvn, hv, rfl⟩
    rw [q] at this
    obtain ⟨w, hw, sw, ew⟩ := tL_t.mp this
    have : w = v := h.2.2.2.1 x w v hx hw hvn ew (by have := hf x w hx hw; omega)
    rwa [← this]
  exact tb_ext (fun v => ⟨key s s' hs e v, key s' s hs' e.symm v⟩)
theorem tRt_can {n x s s' : Nat} {c : tC} (h : tO n c) (hf : tF n c) (hx : x < n) (hs : s < 2 ^ n) (hs' : s' < 2 ^ n) (e : tRt n c s x = tRt n c s' x) : s = s' := by
  have h8 := h.1.2
  have key : ∀ a b : Nat, a < 2 ^ n → tRt n c a x = tRt n c b x → ∀ v, a.testBit v = true → b.testBit v = true := fun a b ha q v hv => by
    have hvn := tb_lt ha hv
    have : (tRt n c a x).testBit (c v x) = true := tRt_t.mpr ⟨v, hvn, hv, rfl⟩
    rw [q] at this
    obtain ⟨w, hw, sw, ew⟩ := tRt_t.mp this
    have : w = v := h.2.2.2.2 w v x hw hvn hx ew (by have := hf w x hw hx; omega)
    rwa [← this]
  exact tb_ext (fun v => ⟨key s s' hs e v, key s' s hs' e.symm v⟩)
theorem NP.lb0 {n h : Nat} {c : tC} (H : NP n c h) : lb n c h 0 = 0 := by
  have := (H.lbP H.1.1.1).1
  omega
theorem NP.tFP {n h : Nat} {c : tC} (H : NP n c h) : tF (rk n c h n) (tQ n c h) := fun i j hi hj => H.nm_lt (H.2.1 _ _ (rp_ok hi).1 (rp_ok hj).1)
theorem NP.tOP {n h : Nat} {c : tC} (H : NP n c h) : tO (rk n c h n) (tQ n c h) := by
  have h1 : 1 ≤ rk n c h n := by
    have := rk_lt (n := n) (c := c) (h := h) H.1.1.1 H.lb0
    omega
  have h8 : rk n c h n ≤ 8 := Nat.le_trans (rk_le n c h n) H.1.1.2
  have r0 : rp n c h 0 = 0 := by
    have g := rp_ok h1
    exact rk_inj g.2.1 H.lb0 (by rw [g.2.2]; rfl)
  have self : ∀ i, i < rk n c h n → nm n c h (rp n c h i) = i := fun i hi => by
    have g := rp_ok hi
    unfold nm
    rw [g.2.1, g.2.2]
  refine ⟨⟨h1, h8⟩, fun a ha => ?_, fun a b ha hb => Or.inl (H.tFP a b ha hb), fun a b d ha hb hd e _ => ?_, fun a b d ha hb hd e _ => ?_⟩
  · have g := rp_ok ha
    unfold tQ
    rw [r0, (H.1.2.1 _ g.1).1, (H.1.2.1 _ g.1).2]
    exact ⟨self a ha, self a ha⟩
  · have ga := rp_ok ha
    have gb := rp_ok hb
    have gd := rp_ok hd
    unfold tQ at e
    rw [H.nm_eq (H.2.1 _ _ ga.1 gb.1) (H.2.1 _ _ ga.1 gd.1), H.lb_eq (H.2.1 _ _ ga.1 gb.1) (H.2.1 _ _ ga.1 gd.1), ← H.nmP.2.1 _ _ ga.1 gb.1, ← H.nmP.2.1 _ _ ga.1 gd.1] at e
    have e2 := tL_can H.1 H.2.1 ga.1 (tL_lt H.2.1 gb.1) (tL_lt H.2.1 gd.1) e
    have e3 := (H.lb_eq gb.1 gd.1).mpr e2
    rw [← self b hb, ← self d hd, H.nm_eq gb.1 gd.1]
    exact e3
  · have ga := rp_ok ha
    have gb := rp_ok hb
    have gd := rp_ok hd
    have f1 := H.2.1 _ _ ga.1 gd.1
    have f2 := H.2.1 _ _ gb.1 gd.1
    unfold tQ at e
    rw [H.nm_eq f1 f2, H.lb_eq f1 f2, H.nmP.1 _ f1, H.nmP.1 _ f2, ← H.nmP.2.2 _ _ ga.1 gd.1, ← H.nmP.2.2 _ _ gb.1 gd.1] at e
    have e2 := tRt_can H.1 H.2.1 gd.1 (tRt_lt H.2.1 ga.1) (tRt_lt H.2.1 gb.1) e
    rw [← H.nmP.1 _ ga.1, ← H.nmP.1 _ gb.1] at e2
    have e3 := (H.lb_eq ga.1 gb.1).mpr e2
    rw [← self a ha, ← self b hb, H.nm_eq ga.1 gb.1]
    exact e3
