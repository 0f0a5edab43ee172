/-! group: permutations as lists, products of kept ones -/
def PQ (n : Nat) (p : List Nat) : Prop := p.length = n ∧ p.Nodup ∧ ∀ x, x ∈ p → x < n
theorem PQ.gl {n i : Nat} {p : List Nat} (h : PQ n p) (hi : i < n) : gd p i < n := h.2.2 _ (gd_mem (by rw [h.1]; exact hi))
theorem PQ.mem {n x : Nat} {p : List Nat} (h : PQ n p) (hx : x < n) : x ∈ p := nd_all h.2.1 h.1 h.2.2 hx
theorem PQ.pl {n x : Nat} {p : List Nat} (h : PQ n p) (hx : x < n) : px p x < n := by
  have := (px_mem (h.mem hx)).1
  rw [h.1] at this
  exact this
theorem PQ.gp {n x : Nat} {p : List Nat} (h : PQ n p) (hx : x < n) : gd p (px p x) = x := (px_mem (h.mem hx)).2
theorem PQ.pg {n i : Nat} {p : List Nat} (h : PQ n p) (hi : i < n) : px p (gd p i) = i := px_get h.2.1 (by rw [h.1]; exact hi)
theorem PQ.inj {n i j : Nat} {p : List Nat} (h : PQ n p) (hi : i < n) (hj : j < n) (e : gd p i = gd p j) : i = j := by rw [← h.pg hi, ← h.pg hj, e]
theorem PQ.ext {n : Nat} {p q : List Nat} (h : PQ n p) (h' : PQ n q) (e : ∀ i, i < n → gd p i = gd q i) : p = q := gd_ext (by rw [h.1, h'.1]) (fun i hi => e i (by rw [← h.1]; exact hi))
/-- a list out of a function -/
def fl (n : Nat) (f : Nat → Nat) : List Nat := (List.range n).map f
theorem fl_gd {n i : Nat} {f : Nat → Nat} (hi : i < n) : gd (fl n f) i = f i := by
  unfold fl
  rw [gd_map f (by rw [List.length_range]; exact hi), gd_rg hi]
theorem fl_PQ {n : Nat} {f : Nat → Nat} (h : ∀ i, i < n → f i < n) (hi : ∀ i j, i < n → j < n → f i = f j → i = j) : PQ n (fl n f) := by
  have ln : (fl n f).length = n := by unfold fl; rw [List.length_map, List.length_range]
  refine ⟨ln, nd_gd (fun i j a b e => ?_), fun x hx => ?_⟩
  · rw [ln] at a b
    rw [fl_gd a, fl_gd b] at e
    exact hi i j a b e
  · obtain ⟨k, k1, k2⟩ := List.mem_map.mp hx
    rw [← k2]
    exact h k (List.mem_range.mp k1)
/-- x to p (q x) -/
def cp (p q : List Nat) : List Nat := q.map (gd p)
theorem cp_gd {n i : Nat} {p q : List Nat} (hq : PQ n q) (hi : i < n) : gd (cp p q) i = gd p (gd q i) := gd_map (gd p) (by rw [hq.1]; exact hi)
theorem cp_PQ {n : Nat} {p q : List Nat} (hp : PQ n p) (hq : PQ n q) : PQ n (cp p q) := by
  have ln : (cp p q).length = n := by unfold cp; rw [List.length_map]; exact hq.1
  refine ⟨ln, nd_gd (fun i j a b e => ?_), fun x hx => ?_⟩
  · rw [ln] at a b
    rw [cp_gd hq a, cp_gd hq b] at e
    exact hq.inj a b (hp.inj (hq.gl a) (hq.gl b) e)
  · obtain ⟨k, k1, k2⟩ := List.mem_map.mp hx
    rw [← k2]
    exact hp.gl (hq.2.2 k k1)
theorem id_PQ {n : Nat} : PQ n (List.range n) := ⟨List.length_range, List.nodup_range, fun _ hx => List.mem_range.mp hx⟩
theorem cp_as {n : Nat} {p q r : List Nat} (hp : PQ n p) (hq : PQ n q) (hr : PQ n r) : cp (cp p q) r = cp p (cp q r) := PQ.ext (cp_PQ (cp_PQ hp hq) hr) (cp_PQ hp (cp_PQ hq hr)) (fun i hi => by
  rw [cp_gd hr hi, cp_gd hq (hr.gl hi), cp_gd (cp_PQ hq hr) hi, cp_gd hr hi])
theorem cp_id {n : Nat} {p : List Nat} (hp : PQ n p) : cp p (List.range n) = p := PQ.ext (cp_PQ hp id_PQ) hp (fun i hi => by rw [cp_gd id_PQ hi, gd_rg hi])
theorem id_cp {n : Nat} {p : List Nat} (hp : PQ n p) : cp (List.range n) p = p := PQ.ext (cp_PQ id_PQ hp) hp (fun i hi => by rw [cp_gd hp hi, gd_rg (hp.gl hi)])
/-- the inverse -/
def iv (n : Nat) (p : List Nat) : List Nat := fl n (px p)
theorem iv_PQ {n : Nat} {p : List Nat} (hp : PQ n p) : PQ n (iv n p) := fl_PQ (fun _ hi => hp.pl hi) (fun i j hi hj e => by rw [← hp.gp hi, ← hp.gp hj, e])
theorem cp_iv {n : Nat} {p : List Nat} (hp : PQ n p) : cp p (iv n p) = List.range n := PQ.ext (cp_PQ hp (iv_PQ hp)) id_PQ (fun i hi => by
  rw [cp_gd (iv_PQ hp) hi, gd_rg hi]
  unfold iv
  rw [fl_gd hi, hp.gp hi])
theorem iv_cp {n : Nat} {p : List Nat} (hp : PQ n p) : cp (iv n p) p = List.range n := PQ.ext (cp_PQ (iv_PQ hp) hp) id_PQ (fun i hi => by
  rw [cp_gd hp hi, gd_rg hi]
  unfold iv
  rw [fl_gd (hp.gl hi), hp.pg hi])
/-- kept permutations: e i j fixes what is below i and takes i to j, for the bits j of b i -/
def TB (n : Nat) (e : Nat → Nat → List Nat) (b : Nat → Nat) : Prop := ∀ i j, (b i).testBit j = true → (i < j ∧ j < n) ∧ PQ n (e i j) ∧ (∀ x, x < i → gd (e i j) x = x) ∧ gd (e i j) i = j
def inT (n : Nat) (e : Nat → Nat → List Nat) (b : Nat → Nat) (i : Nat) (t : List Nat) : Prop := t = List.range n ∨ ∃ j, (b i).testBit j = true ∧ t = e i j
def RR (n : Nat) (e : Nat → Nat → List Nat) (b : Nat → Nat) : Nat → Nat → List Nat → Prop
  | 0, _, p => p = List.range n
  | d + 1, i, p => ∃ t u, inT n e b i t ∧ RR n e b d (i + 1) u ∧ p = cp t u
theorem inT.pq {n i : Nat} {e : Nat → Nat → List Nat} {b : Nat → Nat} {t : List Nat} (hB : TB n e b) (h : inT n e b i t) : PQ n t ∧ ∀ x, x < i → x < n → gd t x = x := by
  rcases h with rfl | ⟨j, h1, rfl⟩
  · exact ⟨id_PQ, fun x _ hx => gd_rg hx⟩
  · have := hB i j h1
    exact ⟨this.2.1, fun x hx _ => this.2.2.1 x hx⟩
theorem RR.pq {n : Nat} {e : Nat → Nat → List Nat} {b : Nat → Nat} (hB : TB n e b) : ∀ {d i : Nat} {p : List Nat}, RR n e b d i p → PQ n p ∧ ∀ x, x < i → x < n → gd p x = x
  | 0, i, p, h => by
    have h : p = List.range n := h
    subst h
    exact ⟨id_PQ, fun x _ hx => gd_rg hx⟩
  | d + 1, i, p, h => by
    obtain ⟨t, u, h1, h2, rfl⟩ := h
    obtain ⟨t1, t2⟩ := h1.pq hB
    obtain ⟨u1, u2⟩ := RR.pq hB h2
    exact ⟨cp_PQ t1 u1, fun x hx hn => by rw [cp_gd u1 hn, u2 x (by omega) hn, t2 x hx hn]⟩
theorem RR.id {n : Nat} {e : Nat → Nat → List Nat} {b : Nat → Nat} : ∀ {d i : Nat}, RR n e b d i (List.range n)
  | 0, _ => rfl
  | d + 1, i => ⟨List.range n, List.range n, Or.inl rfl, RR.id, (cp_id id_PQ).symm⟩
theorem RR.up {n : Nat} {e : Nat → Nat → List Nat} {b : Nat → Nat} (hB : TB n e b) {d i : Nat} {p : List Nat} (h : RR n e b d (i + 1) p) : RR n e b (d + 1) i p := ⟨List.range n, p, Or.inl rfl, h, (id_cp (RR.pq hB h).1).symm⟩
theorem RR.kept {n : Nat} {e : Nat → Nat → List Nat} {b : Nat → Nat} (hB : TB n e b) {d i : Nat} {t : List Nat} (h : inT n e b i t) : RR n e b (d + 1) i t := ⟨t, List.range n, h, RR.id, (cp_id (h.pq hB).1).symm⟩
theorem RR.ups {n : Nat} {e : Nat → Nat → List Nat} {b : Nat → Nat} (hB : TB n e b) {p : List Nat} : ∀ (k d i : Nat), RR n e b d (i + k) p → RR n e b (d + k) i p
  | 0, d, i, h => h
  | k + 1, d, i, h => RR.up hB (RR.ups hB k d (i + 1) (by
      have : i + 1 + k = i + (k + 1) := by omega
      rw [this]
      exact h))
theorem RR.down {n : Nat} {e : Nat → Nat → List Nat} {b : Nat → Nat} (hB : TB n e b) {d i : Nat} {p : List Nat} (hi : i < n) (h : RR n e b (d + 1) i p) (hp : gd p i = i) : RR n e b d (i + 1) p := by
  obtain ⟨t, u, h1, h2, rfl⟩ := h
  obtain ⟨u1, u2⟩ := RR.pq hB h2
  rw [cp_gd u1 hi, u2 i (by omega) hi] at hp
  rcases h1 with rfl | ⟨j, h1, rfl⟩
  · rw [id_cp u1]
    exact h2
  · have := hB i j h1
    rw [this.2.2.2] at hp
    omega
theorem RR.downs {n : Nat} {e : Nat → Nat → List Nat} {b : Nat → Nat} (hB : TB n e b) {p : List Nat} (h : RR n e b n 0 p) : ∀ i d, i + d = n → (∀ x, x < i → gd p x = x) → RR n e b d i p
  | 0, d, e1, _ => by
    have : d = n := by omega
    subst this
    exact h
  | i + 1, d, e1, hp => RR.down hB (by omega) (RR.downs hB h i (d + 1) (by omega) (fun x hx => hp x (by omega))) (hp i (by omega))
/-- products of two kept ones are products of kept ones in order -/
def CL (n : Nat) (e : Nat → Nat → List Nat) (b : Nat → Nat) : Prop := ∀ i j i' j', (b i).testBit j = true → (b i').testBit j' = true → RR n e b n 0 (cp (e i j) (e i' j'))
theorem RR.pair {n : Nat} {e : Nat → Nat → List Nat} {b : Nat → Nat} (hB : TB n e b) (hC : CL n e b) {d i k : Nat} (hd : i + (d + 1) = n) (hk : i ≤ k) (hkn : k < n) {t s : List Nat} (ht : inT n e b k t) (hs : inT n e b i s) : RR n e b (d + 1) i (cp t s) := by
  obtain ⟨t1, t2⟩ := ht.pq hB
  obtain ⟨s1, s2⟩ := hs.pq hB
  rcases ht with rfl | ⟨j, h1, rfl⟩
  · rw [id_cp s1]
    exact RR.kept hB hs
  · rcases hs with rfl | ⟨j', h2, rfl⟩
    · rw [cp_id t1]
      have a : RR n e b (n - k - 1 + 1) k (e k j) := RR.kept hB (Or.inr ⟨j, h1, rfl⟩)
      have e1 : d + 1 = n - k - 1 + 1 + (k - i) := by omega
      have e2 : i + (k - i) = k := by omega
      rw [e1]
      exact RR.ups hB (k - i) _ i (by rw [e2]; exact a)
    · refine RR.downs hB (hC k j i j' h1 h2) i (d + 1) hd (fun x hx => ?_)
      rw [cp_gd s1 (by omega), s2 x hx (by omega), t2 x (by omega) (by omega)]
theorem RR.mul {n : Nat} {e : Nat → Nat → List Nat} {b : Nat → Nat} (hB : TB n e b) (hC : CL n e b) : ∀ (d i : Nat), i + d = n → ∀ p q, RR n e b d i p → RR n e b d i q → RR n e b d i (cp p q)
  | 0, i, _, p, q, hp, hq => by
    have hp : p = List.range n := hp
    have hq : q = List.range n := hq
    subst hp
    subst hq
    exact cp_id id_PQ
  | d + 1, i, hd, p, q, hp, hq => by
    have ih := RR.mul hB hC d (i + 1) (by omega)
    have lemA : ∀ (c k : Nat) (u s : List Nat), k + c = n → i + 1 ≤ k → RR n e b c k u → inT n e b i s → RR n e b (d + 1) i (cp u s) := by
      intro c
      induction c with
      | zero =>
        intro k u s _ _ hu hs
        have hu : u = List.range n := hu
        subst hu
        rw [id_cp (hs.pq hB).1]
        exact RR.kept hB hs
      | succ c ihc =>
        intro k u s hk hik hu hs
        obtain ⟨t, u', h1, h2, rfl⟩ := hu
        obtain ⟨s', v, g1, g2, g3⟩ := ihc (k + 1) u' s (by omega) (by omega) h2 hs
        obtain ⟨s2, v2, g4, g5, g6⟩ := RR.pair hB hC hd (by omega) (by omega) h1 g1
        have pt := (h1.pq hB).1
        have pu := (RR.pq hB h2).1
        have ps := (hs.pq hB).1
        have ps' := (g1.pq hB).1
        have pv := (RR.pq hB g2).1
        have ps2 := (g4.pq hB).1
        have pv2 := (RR.pq hB g5).1
        refine ⟨s2, cp v2 v, g4, ih v2 v g5 g2, ?_⟩
        rw [cp_as pt pu ps, g3, ← cp_as pt ps' pv, g6, cp_as ps2 pv2 pv]
    obtain ⟨t, u, h1, h2, rfl⟩ := hp
    obtain ⟨t', u', h3, h4, rfl⟩ := hq
    obtain ⟨s, v, g1, g2, g3⟩ := lemA d (i + 1) u t' (by omega) (by omega) h2 h3
    obtain ⟨s2, v2, g4, g5, g6⟩ := RR.pair hB hC hd (Nat.le_refl i) (by omega) h1 g1
    have pt := (h1.pq hB).1
    have pu := (RR.pq hB h2).1
    have pt' := (h3.pq hB).1
    have pu' := (RR.pq hB h4).1
    have ps := (g1.pq hB).1
    have pv := (RR.pq hB g2).1
    have ps2 := (g4.pq hB).1
    have pv2 := (RR.pq hB g5).1
    refine ⟨s2, cp v2 (cp v u'), g4, ih _ _ g5 (ih _ _ g2 h4), ?_⟩
    rw [cp_as pt pu (cp_PQ pt' pu'), ← cp_as pu pt' pu', g3, cp_as ps pv pu', ← cp_as pt ps (cp_PQ pv pu'), g6, cp_as ps2 pv2 (cp_PQ pv pu')]
/-- more kept ones do no harm -/
def EX (e : Nat → Nat → List Nat) (b : Nat → Nat) (e' : Nat → Nat → List Nat) (b' : Nat → Nat) : Prop := ∀ i j, (b i).testBit j = true → (b' i).testBit j = true ∧ e' i j = e i j
theorem EX.refl (e : Nat → Nat → List Nat) (b : Nat → Nat) : EX e b e b := fun _ _ h => ⟨h, rfl⟩
theorem EX.trans {e e1 e2 : Nat → Nat → List Nat} {b b1 b2 : Nat → Nat} (h : EX e b e1 b1) (h2 : EX e1 b1 e2 b2) : EX e b e2 b2 := fun i j q => ⟨(h2 i j (h i j q).1).1, (h2 i j (h i j q).1).2.trans (h i j q).2⟩
theorem inT.ex {n i : Nat} {e e' : Nat → Nat → List Nat} {b b' : Nat → Nat} {t : List Nat} (hE : EX e b e' b') (h : inT n e b i t) : inT n e' b' i t := by
  rcases h with rfl | ⟨j, h1, rfl⟩
  · exact Or.inl rfl
  · exact Or.inr ⟨j, (hE i j h1).1, (hE i j h1).2.symm⟩
theorem RR.ex {n : Nat} {e e' : Nat → Nat → List Nat} {b b' : Nat → Nat} (hE : EX e b e' b') : ∀ {d i : Nat} {p : List Nat}, RR n e b d i p → RR n e' b' d i p
  | 0, _, _, h => h
  | d + 1, i, p, h => by
    obtain ⟨t, u, h1, h2, h3⟩ := h
    exact ⟨t, u, h1.ex hE, RR.ex hE h2, h3⟩
/-! how many products there are -/
def TL (n : Nat) (e : Nat → Nat → List Nat) (b : Nat → Nat) (i : Nat) : List (List Nat) := List.range n :: ((List.range n).filter (fun j => (b i).testBit j)).map (e i)
def RL (n : Nat) (e : Nat → Nat → List Nat) (b : Nat → Nat) : Nat → Nat → List (List Nat)
  | 0, _ => [List.range n]
  | d + 1, i => (TL n e b i).flatMap (fun t => (RL n e b d (i + 1)).map (cp t))
theorem TL_m {n i : Nat} {e : Nat → Nat → List Nat} {b : Nat → Nat} (hB : TB n e b) {t : List Nat} : t ∈ TL n e b i ↔ inT n e b i t := by
  unfold TL inT
  rw [List.mem_cons]
  constructor
  · intro h
    rcases h with h | h
    · exact Or.inl h
    · obtain ⟨j, j1, j2⟩ := List.mem_map.mp h
      exact Or.inr ⟨j, (List.mem_filter.mp j1).2, j2.symm⟩
  · intro h
    rcases h with h | ⟨j, h1, h2⟩
    · exact Or.inl h
    · exact Or.inr (List.mem_map.mpr ⟨j, List.mem_filter.mpr ⟨List.mem_range.mpr (hB i j h1).1.2, h1⟩, h2.symm⟩)
theorem RL_m {n : Nat} {e : Nat → Nat → List Nat} {b : Nat → Nat} (hB : TB n e b) : ∀ {d i : Nat} {p : List Nat}, p ∈ RL n e b d i ↔ RR n e b d i p
  | 0, i, p => List.mem_singleton
  | d + 1, i, p => by
    unfold RL RR
    rw [List.mem_flatMap]
    constructor
    · intro ⟨t, h1, h2⟩
      obtain ⟨u, u1, u2⟩ := List.mem_map.mp h2
      exact ⟨t, u, (TL_m hB).mp h1, (RL_m hB).mp u1, u2.symm⟩
    · intro ⟨t, u, h1, h2, h3⟩
      exact ⟨t, (TL_m hB).mpr h1, List.mem_map.mpr ⟨u, (RL_m hB).mpr h2, h3.symm⟩⟩
theorem TL_nd {n i : Nat} {e : Nat → Nat → List Nat} {b : Nat → Nat} (hB : TB n e b) (hi : i < n) : (TL n e b i).Nodup ∧ ∀ t t', t ∈ TL n e b i → t' ∈ TL n e b i → gd t i = gd t' i → t = t' := by
  have key : ∀ t t', t ∈ TL n e b i → t' ∈ TL n e b i → gd t i = gd t' i → t = t' := fun t t' h h' q => by
    rcases (TL_m hB).mp h with rfl | ⟨j, h1, rfl⟩
    · rcases (TL_m hB).mp h' with rfl | ⟨j', h2, rfl⟩
      · rfl
      · have := hB i j' h2
        rw [gd_rg hi, this.2.2.2] at q
        omega
    · have a := hB i j h1
      rcases (TL_m hB).mp h' with rfl | ⟨j', h2, rfl⟩
      · rw [gd_rg hi, a.2.2.2] at q
        omega
      · have c := hB i j' h2
        rw [a.2.2.2, c.2.2.2] at q
        rw [q]
  refine ⟨?_, key⟩
  unfold TL
  refine List.nodup_cons.mpr ⟨fun h => ?_, nd_map (nd_filter List.nodup_range) (fun x y hx hy q => ?_)⟩
  · obtain ⟨j, j1, j2⟩ := List.mem_map.mp h
    have := hB i j (List.mem_filter.mp j1).2
    rw [j2, gd_rg hi] at this
    omega
  · have a := (hB i x (List.mem_filter.mp hx).2).2.2.2
    have c := (hB i y (List.mem_filter.mp hy).2).2.2.2
    rw [q, c] at a
    exact a.symm
theorem cp_inj {n : Nat} {t u u' : List Nat} (ht : PQ n t) (hu : PQ n u) (hu' : PQ n u') (h : cp t u = cp t u') : u = u' := PQ.ext hu hu' (fun i hi => by
  have : gd (cp t u) i = gd (cp t u') i := by rw [h]
  rw [cp_gd hu hi, cp_gd hu' hi] at this
  exact ht.inj (hu.gl hi) (hu'.gl hi) this)
theorem nd_flat {α β : Type} {f : α → List β} : ∀ {l : List α}, l.Nodup → (∀ x, x ∈ l → (f x).Nodup) → (∀ x y a, x ∈ l → y ∈ l → a ∈ f x → a ∈ f y → x = y) → (l.flatMap f).Nodup
  | [], _, _, _ => List.nodup_nil
  | x :: l, h, h1, h2 => by
    have n2 := List.nodup_cons.mp h
    rw [List.flatMap_cons, List.nodup_append]
    refine ⟨h1 x (List.mem_cons_self ..), nd_flat n2.2 (fun y hy => h1 y (List.mem_cons_of_mem _ hy)) (fun y z a hy hz => h2 y z a (List.mem_cons_of_mem _ hy) (List.mem_cons_of_mem _ hz)), fun a ha c hc e => ?_⟩
    obtain ⟨y, y1, y2⟩ := List.mem_flatMap.mp hc
    rw [← e] at y2
    have := h2 x y a (List.mem_cons_self ..) (List.mem_cons_of_mem _ y1) ha y2
    subst this
    exact n2.1 y1
theorem RL_nd {n : Nat} {e : Nat → Nat → List Nat} {b : Nat → Nat} (hB : TB n e b) : ∀ (d i : Nat), i + d = n → (RL n e b d i).Nodup
  | 0, i, _ => List.nodup_cons.mpr ⟨List.not_mem_nil, List.nodup_nil⟩
  | d + 1, i, hd => by
    obtain ⟨t1, t2⟩ := TL_nd hB (show i < n by omega)
    refine nd_flat t1 (fun t ht => nd_map (RL_nd hB d (i + 1) (by omega)) (fun u u' hu hu' q => cp_inj (((TL_m hB).mp ht).pq hB).1 (RR.pq hB ((RL_m hB).mp hu)).1 (RR.pq hB ((RL_m hB).mp hu')).1 q)) (fun t t' a ht ht' ha ha' => ?_)
    obtain ⟨u, u1, u2⟩ := List.mem_map.mp ha
    obtain ⟨u', u1', u2'⟩ := List.mem_map.mp ha'
    obtain ⟨q1, q2⟩ := RR.pq hB ((RL_m hB).mp u1)
    obtain ⟨q1', q2'⟩ := RR.pq hB ((RL_m hB).mp u1')
    refine t2 t t' ht ht' ?_
    have : gd (cp t u) i = gd (cp t' u') i := by rw [u2, u2']
    rw [cp_gd q1 (by omega), cp_gd q1' (by omega), q2 i (by omega) (by omega), q2' i (by omega) (by omega)] at this
    exact this
theorem len_flat {α β : Type} {f : α → List β} {m : Nat} : ∀ {l : List α}, (∀ x, x ∈ l → (f x).length = m) → (l.flatMap f).length = l.length * m
  | [], _ => by simp
  | x :: l, h => by
    rw [List.flatMap_cons, List.length_append, h x (List.mem_cons_self ..), len_flat (fun y hy => h y (List.mem_cons_of_mem _ hy)), List.length_cons, Nat.succ_mul]
    omega
/-- the choices -/
def ch (n : Nat) (b : Nat → Nat) (i : Nat) : Nat := 1 + ((List.range n).filter (fun j => (b i).testBit j)).length
theorem RL_len {n : Nat} {e : Nat → Nat → List Nat} {b : Nat → Nat} (d i : Nat) : (RL n e b (d + 1) i).length = ch n b i * (RL n e b d (i + 1)).length := by
  show ((TL n e b i).flatMap (fun t => (RL n e b d (i + 1)).map (cp t))).length = _
  rw [len_flat (m := (RL n e b d (i + 1)).length) (fun t _ => List.length_map ..)]
  unfold TL ch
  rw [List.length_cons, List.length_map, Nat.add_comm]
/-! group: the reference with its answer -/
theorem les_len (g : Nat → Nat) (i n : Nat) : zsum (les g i) n = ((List.range n).filter (fun k => decide (i < k ∧ g k < g i))).length := by
  rw [← List.countP_eq_length_filter]
  have h := cn_map (fun k => k) (fun k => decide (i < k ∧ g k < g i)) n
  rw [List.map_id'] at h
  rw [h]
  exact zsum_congr (fun k _ => by unfold les; simp only [decide_eq_true_eq])
theorem rk_pre {n i : Nat} {p q : List Nat} (hp : PQ n p) (hq : PQ n q) (hi : i < n) (pre : ∀ x, x < i → gd p x = gd q x) (lt : gd p i < gd q i) : zsum (les (gd p) i) n < zsum (les (gd q) i) n := by
  rw [les_len, les_len]
  have ab : ∀ k, k < n → ¬ k < i → k ≠ i → gd p k < gd q i → i < px q (gd p k) ∧ px q (gd p k) < n ∧ gd q (px q (gd p k)) = gd p k := fun k hk a b d => by
    have v := hp.gl hk
    have k1 := hq.pl v
    have k2 := hq.gp v
    refine ⟨?_, k1, k2⟩
    rcases Nat.lt_trichotomy (px q (gd p k)) i with z | z | z
    · rw [← pre _ z] at k2
      have := hp.inj k1 hk k2
      omega
    · rw [z] at k2
      omega
    · exact z
  have i0 : i < px q (gd p i) ∧ px q (gd p i) < n ∧ gd q (px q (gd p i)) = gd p i := by
    have v := hp.gl hi
    have k1 := hq.pl v
    have k2 := hq.gp v
    refine ⟨?_, k1, k2⟩
    rcases Nat.lt_trichotomy (px q (gd p i)) i with z | z | z
    · rw [← pre _ z] at k2
      have := hp.inj k1 hi k2
      omega
    · rw [z] at k2
      omega
    · exact z
  have nd : (px q (gd p i) :: ((List.range n).filter (fun k => decide (i < k ∧ gd p k < gd p i))).map (fun k => px q (gd p k))).Nodup := by
    refine List.nodup_cons.mpr ⟨fun z => ?_, nd_map (nd_filter List.nodup_range) (fun x y hx hy e => ?_)⟩
    · obtain ⟨k, k1, k2⟩ := List.mem_map.mp z
      obtain ⟨a, b⟩ := List.mem_filter.mp k1
      have b := of_decide_eq_true b
      have a := List.mem_range.mp a
      have e : gd p k = gd p i := by rw [← hq.gp (hp.gl a), ← hq.gp (hp.gl hi), k2]
      omega
    · have a := List.mem_range.mp (List.mem_filter.mp hx).1
      have b := List.mem_range.mp (List.mem_filter.mp hy).1
      have e : gd p x = gd p y := by rw [← hq.gp (hp.gl a), ← hq.gp (hp.gl b), e]
      exact hp.inj a b e
  have := nd_le nd (B := (List.range n).filter (fun k => decide (i < k ∧ gd q k < gd q i))) (fun x hx => by
    rcases List.mem_cons.mp hx with rfl | hx
    · exact List.mem_filter.mpr ⟨List.mem_range.mpr i0.2.1, decide_eq_true ⟨i0.1, by rw [i0.2.2]; exact lt⟩⟩
    · obtain ⟨k, k1, rfl⟩ := List.mem_map.mp hx
      obtain ⟨a, b⟩ := List.mem_filter.mp k1
      have b := of_decide_eq_true b
      have c := ab k (List.mem_range.mp a) (by omega) (by omega) (by omega)
      exact List.mem_filter.mpr ⟨List.mem_range.mpr c.2.1, decide_eq_true ⟨c.1, by rw [c.2.2]; omega⟩⟩)
  rw [List.length_cons, List.length_map] at this
  omega
theorem rr_les {n : Nat} {g h : Nat → Nat} : ∀ i, i ≤ n → rr n g i = rr n h i → ∀ k, k < i → zsum (les g k) n = zsum (les h k) n
  | 0, _, _, k, hk => absurd hk (Nat.not_lt_zero k)
  | i + 1, hi, e, k, hk => by
    have a := les_le n g i
    have b := les_le n h i
    have e : rr n g i * (n - i) + zsum (les g i) n = rr n h i * (n - i) + zsum (les h i) n := e
    obtain ⟨p1, p2⟩ := pr_inj (m := n - i) (a := rr n g i) (a' := rr n h i) (b := zsum (les g i) n) (b' := zsum (les h i) n) (by omega) (by omega) (by rw [Nat.mul_comm, e, Nat.mul_comm])
    by_cases q : k = i
    · rw [q]
      exact p2
    · exact rr_les i (by omega) p1 k (by omega)
theorem rr_inj {n : Nat} {p q : List Nat} (hp : PQ n p) (hq : PQ n q) (h : rr n (gd p) n = rr n (gd q) n) : p = q := by
  have l := rr_les n (Nat.le_refl n) h
  have key : ∀ i, i ≤ n → ∀ x, x < i → gd p x = gd q x := by
    intro i
    induction i with
    | zero => exact fun _ x hx => absurd hx (Nat.not_lt_zero x)
    | succ i ih =>
      intro hi x hx
      have pre := ih (by omega)
      by_cases e : x = i
      · subst e
        rcases Nat.lt_trichotomy (gd p x) (gd q x) with z | z | z
        · have := rk_pre hp hq (by omega) pre z
          have := l x (by omega)
          omega
        · exact z
        · have := rk_pre hq hp (by omega) (fun y hy => (pre y hy).symm) z
          have := l x (by omega)
          omega
      · exact pre x (by omega)
  exact PQ.ext hp hq (fun i hi => key n (Nat.le_refl n) i hi)
def ge : List (List Nat) → Nat → List Nat
  | [], _ => []
  | a :: _, 0 => a
  | _ :: l, i + 1 => ge l i
theorem ge_mem : ∀ {l : List (List Nat)} {i : Nat}, i < l.length → ge l i ∈ l
  | [], i, h => absurd h (Nat.not_lt_zero i)
  | a :: l, 0, _ => List.mem_cons_self ..
  | a :: l, i + 1, h => List.mem_cons_of_mem _ (ge_mem (by simpa using h))
theorem ge_of : ∀ {l : List (List Nat)} {p : List Nat}, p ∈ l → ∃ i, i < l.length ∧ ge l i = p
  | [], p, h => by cases h
  | a :: l, p, h => by
    rcases List.mem_cons.mp h with rfl | h
    · exact ⟨0, by simp, rfl⟩
    · obtain ⟨i, i1, i2⟩ := ge_of h
      exact ⟨i + 1, by simpa using i1, i2⟩
theorem ge_app : ∀ {l m : List (List Nat)} {i : Nat}, i < l.length → ge (l ++ m) i = ge l i
  | [], _, i, h => absurd h (Nat.not_lt_zero i)
  | a :: l, m, 0, _ => rfl
  | a :: l, m, i + 1, h => ge_app (l := l) (by simpa using h)
theorem ge_new : ∀ {l m : List (List Nat)} {x : List Nat}, ge (l ++ x :: m) l.length = x
  | [], _, _ => rfl
  | a :: l, m, x => ge_new (l := l)
/-- the members so far -/
def GM (M : zM) (n : Nat) (B : List (List Nat)) : Prop := (∀ p, p ∈ B → PQ n p) ∧ B.Nodup ∧ (∀ m i, m < B.length → i < n → M 37 (7 * m + i) = nI (gd (ge B m) i)) ∧ ∀ p, PQ n p → (M 38 (rr n (gd p) n) = 0 ↔ p ∉ B)
theorem GM.len {M : zM} {n : Nat} {B : List (List Nat)} (h7 : n ≤ 7) (h : GM M n B) : B.length ≤ 5040 ∧ ∀ p, PQ n p → p ∉ B → B.length < 5040 := by
  have rb : ∀ p, rr n (gd p) n < 5040 := fun p => by have := rr_lt n (gd p) n (Nat.le_refl n); have := ff_le n h7 n (Nat.le_refl n); omega
  have go : ∀ B : List (List Nat), (∀ p, p ∈ B → PQ n p) → B.Nodup → B.length ≤ 5040 := fun B a b => by
    have := nd_le (A := B.map (fun p => rr n (gd p) n)) (B := List.range 5040) (nd_map b (fun x y hx hy e => rr_inj (a x hx) (a y hy) e)) (fun x hx => by
      obtain ⟨p, p1, rfl⟩ := List.mem_map.mp hx
      exact List.mem_range.mpr (rb p))
    rw [List.length_map, List.length_range] at this
    exact this
  refine ⟨go B h.1 h.2.1, fun p hp q => ?_⟩
  have := go (p :: B) (fun x hx => by
    rcases List.mem_cons.mp hx with rfl | hx
    · exact hp
    · exact h.1 x hx) (List.nodup_cons.mpr ⟨q, h.2.1⟩)
  rw [List.length_cons] at this
  omega
theorem qM_joinsF {M : zM} {n : Nat} {B : List (List Nat)} {p : List Nat} (h7 : n ≤ 7) (hp : PQ n p) (hI : ∀ i, i < n → M 36 i = nI (gd p i)) (hB : GM M n B) : ∃ B' M', zf_M_joins [.ref 32, .int (nI n), .int (nI B.length)] M = some (some (nI B'.length), M') ∧ GM M' n B' ∧ gF M M' ∧ (∀ i, M' 36 i = M 36 i) ∧ (B' = B ∧ p ∈ B ∨ B' = B ++ [p]) := by
  have rb : rr n (gd p) n < 5040 := by have := rr_lt n (gd p) n (Nat.le_refl n); have := ff_le n h7 n (Nat.le_refl n); omega
  have rk := qM_rank (g := gd p) h7 (fun i hi => ⟨hI i hi, hp.gl hi⟩)
  have mm := hB.len h7
  by_cases hz : M 38 (rr n (gd p) n) = 0
  · have nin := (hB.2.2.2 p hp).mp hz
    have lt := mm.2 p hp nin
    generalize hm : B.length = many at lt
    have n1 : vp_nar .boolean (nI 1) = 1 := by decide
    have ne0 : xe_cd Cond.ne 0 0 = false := by decide
    have R := zwh_inv (c := zc_M_joins_1) (s := zs_M_joins_1) (fun j ls M' => ls = [some (Value.ref (32)), some (Value.int (nI n)), some (Value.int (nI many)), some (Value.int (nI j))] ∧ (∀ i, i < j → M' 37 (7 * many + i) = nI (gd p i)) ∧ (∀ q i, ¬ (q = 37 ∧ 7 * many ≤ i) → M' q i = zup M 38 (rr n (gd p) n) 1 q i)) (Q := fun r ls M' => r = none ∧ ls = [some (Value.ref (32)), some (Value.int (nI n)), some (Value.int (nI many)), some (Value.int (nI n))] ∧ (∀ i, i < n → M' 37 (7 * many + i) = nI (gd p i)) ∧ (∀ q i, ¬ (q = 37 ∧ 7 * many ≤ i) → M' q i = zup M 38 (rr n (gd p) n) 1 q i)) (n := n) ?_ n 0 (by omega) ?_ _ _ ⟨rfl, fun i hi => absurd hi (Nat.not_lt_zero i), fun _ _ _ => rfl⟩
    · obtain ⟨r, ls, M', w1, rfl, rfl, w2, w3⟩ := R
      refine ⟨B ++ [p], M', ?_, ⟨fun x hx => ?_, ?_, fun m i h1 hi => ?_, fun x hx => ?_⟩, fun q j q1 q2 q3 => ?_, fun i => ?_, Or.inr rfl⟩
      · rw [List.length_append, List.length_singleton, hm]
        simp (disch := omega) [zf_M_joins, zmeth, xm_en, zret, zretz, zretv, zseq, zst, zinc, zkl, zskip, zk, zi, za, zbin, zdiv, zrem, zgi, zgr, zld, zldr, zlen, zn, zc, zcall, zcallv, zrcv, zdo, zdov, zpf, zpfc, zas, zasc, zmin, zmax, zcmp, zcz, zand_e, zor_e, zite_e, zbite_e, zif_e, znot_e, z_add, z_sub, z_mul, z_and, z_or, z_xor, z_shl, z_shr, zcpy, -List.getElem?_cons_succ, zg_0, zg_1, zg_2, zg_3, zg_4, zg_5, zg_6, zg_7, zg_8, zg_9, zc_lt, zc_le, zc_gt, zc_ge, zc_eq, zc_ne, zc_lt0, zc_ge0, zc_gt0, zc_eq0, zc_ne0, zb_ne, zb_eq, zb_01, z_00, z_01, z_11, zb_f, zb_T, zb_F, zbm1, zbm2, zbm5, zbm6, zbm3, zbm4, nI_clamp, zmod_n, pk_div, nI_ne0, pk_mul, nI_add, nI_1, zt_0, zt_12, zt_20, zt_26, zt_32, zf_0_0, zf_0_1, zf_0_2, zf_0_3, zf_0_4, zf_12_0, zf_12_1, zf_12_2, zf_12_4, zf_12_5, zf_20_1, zf_20_2, zf_20_3, zf_20_4, zf_20_6, zf_26_0, zf_26_1, zf_26_2, zf_26_3, zf_32_0, zf_32_1, zf_32_3, zf_32_4, zf_32_5, zf_32_6, rk, zi_38, hz, n1, ne0, w1]
        try rfl
      · rcases List.mem_append.mp hx with hx | hx
        · exact hB.1 x hx
        · rw [List.mem_singleton.mp hx]
          exact hp
      · rw [List.nodup_append]
        refine ⟨hB.2.1, List.nodup_cons.mpr ⟨List.not_mem_nil, List.nodup_nil⟩, fun a ha b hb e => ?_⟩
        rw [List.mem_singleton] at hb
        subst e
        subst hb
        exact nin ha
      · rw [List.length_append, List.length_singleton] at h1
        by_cases q : m = B.length
        · rw [q, ge_new, hm]
          exact w2 i hi
        · rw [ge_app (by omega), w3 37 _ (by omega), zup_e, if_neg (by omega)]
          exact hB.2.2.1 m i (by omega) hi
      · rw [w3 38 _ (by omega), zup_e]
        by_cases q : rr n (gd x) n = rr n (gd p) n
        · rw [if_pos ⟨rfl, q⟩, rr_inj hx hp q]
          exact ⟨fun z => absurd z (by decide), fun z => absurd (List.mem_append.mpr (Or.inr (List.mem_singleton.mpr rfl))) z⟩
        · rw [if_neg (fun z => q z.2), hB.2.2.2 x hx]
          exact ⟨fun z w => (List.mem_append.mp w).elim z (fun w => q (by rw [List.mem_singleton.mp w])), fun z w => z (List.mem_append.mpr (Or.inl w))⟩
      · rw [w3 q j (by omega), zup_e, if_neg (by omega)]
      · rw [w3 36 i (by omega), zup_e, if_neg (by omega)]
    · rintro ls M' ⟨rfl, a1, a2⟩
      refine ⟨?_, rfl, rfl, a1, a2⟩
      simp (disch := omega) [zc_M_joins_1, zmeth, xm_en, zret, zretz, zretv, zseq, zst, zinc, zkl, zskip, zk, zi, za, zbin, zdiv, zrem, zgi, zgr, zld, zldr, zlen, zn, zc, zcall, zcallv, zrcv, zdo, zdov, zpf, zpfc, zas, zasc, zmin, zmax, zcmp, zcz, zand_e, zor_e, zite_e, zbite_e, zif_e, znot_e, z_add, z_sub, z_mul, z_and, z_or, z_xor, z_shl, z_shr, zcpy, -List.getElem?_cons_succ, zg_0, zg_1, zg_2, zg_3, zg_4, zg_5, zg_6, zg_7, zg_8, zg_9, zc_lt, zc_le, zc_gt, zc_ge, zc_eq, zc_ne, zc_lt0, zc_ge0, zc_gt0, zc_eq0, zc_ne0, zb_ne, zb_eq, zb_01, z_00, z_01, z_11, zb_f, zb_T, zb_F, zbm1, zbm2, zbm5, zbm6, zbm3, zbm4, nI_clamp, zmod_n, pk_div, nI_ne0, pk_mul, nI_add, nI_1]
    · rintro j ls M' _ hj ⟨rfl, a1, a2⟩
      have im : M' 36 j = nI (gd p j) := by rw [a2 36 j (by omega), zup_e, if_neg (by omega)]; exact hI j hj
      refine ⟨by simp (disch := omega) [zc_M_joins_1, zmeth, xm_en, zret, zretz, zretv, zseq, zst, zinc, zkl, zskip, zk, zi, za, zbin, zdiv, zrem, zgi, zgr, zld, zldr, zlen, zn, zc, zcall, zcallv, zrcv, zdo, zdov, zpf, zpfc, zas, zasc, zmin, zmax, zcmp, zcz, zand_e, zor_e, zite_e, zbite_e, zif_e, znot_e, z_add, z_sub, z_mul, z_and, z_or, z_xor, z_shl, z_shr, zcpy, -List.getElem?_cons_succ, zg_0, zg_1, zg_2, zg_3, zg_4, zg_5, zg_6, zg_7, zg_8, zg_9, zc_lt, zc_le, zc_gt, zc_ge, zc_eq, zc_ne, zc_lt0, zc_ge0, zc_gt0, zc_eq0, zc_ne0, zb_ne, zb_eq, zb_01, z_00, z_01, z_11, zb_f, zb_T, zb_F, zbm1, zbm2, zbm5, zbm6, zbm3, zbm4, nI_clamp, zmod_n, pk_div, nI_ne0, pk_mul, nI_add, nI_1, hj], none, [some (Value.ref (32)), some (Value.int (nI n)), some (Value.int (nI many)), some (Value.int (nI (j + 1)))], zup M' 37 (7 * many + j) (nI (gd p j)), ?_, rfl, fun i hi => ?_, fun q i hq => ?_⟩
      · simp (disch := omega) [zs_M_joins_1, zmeth, xm_en, zret, zretz, zretv, zseq, zst, zinc, zkl, zskip, zk, zi, za, zbin, zdiv, zrem, zgi, zgr, zld, zldr, zlen, zn, zc, zcall, zcallv, zrcv, zdo, zdov, zpf, zpfc, zas, zasc, zmin, zmax, zcmp, zcz, zand_e, zor_e, zite_e, zbite_e, zif_e, znot_e, z_add, z_sub, z_mul, z_and, z_or, z_xor, z_shl, z_shr, zcpy, -List.getElem?_cons_succ, zg_0, zg_1, zg_2, zg_3, zg_4, zg_5, zg_6, zg_7, zg_8, zg_9, zc_lt, zc_le, zc_gt, zc_ge, zc_eq, zc_ne, zc_lt0, zc_ge0, zc_gt0, zc_eq0, zc_ne0, zb_ne, zb_eq, zb_01, z_00, z_01, z_11, zb_f, zb_T, zb_F, zbm1, zbm2, zbm5, zbm6, zbm3, zbm4, nI_clamp, zmod_n, pk_div, nI_ne0, pk_mul, nI_add, nI_1, zt_0, zt_12, zt_20, zt_26, zt_32, zf_0_0, zf_0_1, zf_0_2, zf_0_3, zf_0_4, zf_12_0, zf_12_1, zf_12_2, zf_12_4, zf_12_5, zf_20_1, zf_20_2, zf_20_3, zf_20_4, zf_20_6, zf_26_0, zf_26_1, zf_26_2, zf_26_3, zf_32_0, zf_32_1, zf_32_3, zf_32_4, zf_32_5, zf_32_6, zi_36, zi_37, im]
      · rw [zup_e]
        by_cases q : i = j
        · rw [if_pos ⟨rfl, by rw [q]⟩, q]
        · rw [if_neg (by omega)]
          exact a1 i (by omega)
      · rw [zup_e, if_neg (by omega)]
        exact a2 q i hq
  · have inn : p ∈ B := Classical.byContradiction (fun z => hz ((hB.2.2.2 p hp).mpr z))
    refine ⟨B, M, ?_, hB, fun _ _ _ _ _ => rfl, fun _ => rfl, Or.inl ⟨rfl, inn⟩⟩
    have e : xe_cd .ne (M 38 (rr n (gd p) n)) 0 = true := by
      show (!decide (M 38 (rr n (gd p) n) = 0)) = true
      rw [decide_eq_false hz]
      rfl
    have m5 := mm.1
    simp (disch := omega) [zf_M_joins, zmeth, xm_en, zret, zretz, zretv, zseq, zst, zinc, zkl, zskip, zk, zi, za, zbin, zdiv, zrem, zgi, zgr, zld, zldr, zlen, zn, zc, zcall, zcallv, zrcv, zdo, zdov, zpf, zpfc, zas, zasc, zmin, zmax, zcmp, zcz, zand_e, zor_e, zite_e, zbite_e, zif_e, znot_e, z_add, z_sub, z_mul, z_and, z_or, z_xor, z_shl, z_shr, zcpy, -List.getElem?_cons_succ, zg_0, zg_1, zg_2, zg_3, zg_4, zg_5, zg_6, zg_7, zg_8, zg_9, zt_0, zt_12, zt_20, zt_26, zt_32, zf_0_0, zf_0_1, zf_0_2, zf_0_3, zf_0_4, zf_12_0, zf_12_1, zf_12_2, zf_12_4, zf_12_5, zf_20_1, zf_20_2, zf_20_3, zf_20_4, zf_20_6, zf_26_0, zf_26_1, zf_26_2, zf_26_3, zf_32_0, zf_32_1, zf_32_3, zf_32_4, zf_32_5, zf_32_6, rk, zi_38, nI_clamp, e]
theorem qM_imgF {c' : zB} {s' : zS} {M : zM} {n m : Nat} {p : List Nat} {ls0 : Nat → zL} {f : Nat → Nat} (hp : PQ n p) (hB : ∀ i, i < n → M 37 (7 * m + i) = nI (gd p i))
    (hc : ∀ j M', j < n → c' (ls0 j) M' = some (true, M')) (he : ∀ M', c' (ls0 n) M' = some (false, M'))
    (hs : ∀ j M' v, j < n → v < n → (∀ q i, q ≠ 36 → M' q i = M q i) → M' 37 (7 * m + j) = nI v → s' (ls0 j) M' = some (none, ls0 (j + 1), zup M' 36 j (nI (f v)))) : ∃ M', zwh c' s' (ls0 0) M = some (none, ls0 n, M') ∧ (∀ i, i < n → M' 36 i = nI (f (gd p i))) ∧ ∀ q i, q ≠ 36 → M' q i = M q i := by
  obtain ⟨r, ls, M', w1, rfl, rfl, w2, w3⟩ := zwh_inv (c := c') (s := s') (fun j ls M' => ls = ls0 j ∧ (∀ i, i < j → M' 36 i = nI (f (gd p i))) ∧ (∀ q i, q ≠ 36 → M' q i = M q i)) (Q := fun r ls M' => r = none ∧ ls = ls0 n ∧ (∀ i, i < n → M' 36 i = nI (f (gd p i))) ∧ (∀ q i, q ≠ 36 → M' q i = M q i)) (n := n) (fun ls M' h => by
      obtain ⟨rfl, a1, a2⟩ := h
      exact ⟨he M', rfl, rfl, a1, a2⟩) n 0 (by omega) (fun j ls M' _ hj h => by
      obtain ⟨rfl, a1, a2⟩ := h
      refine ⟨hc j M' hj, none, ls0 (j + 1), zup M' 36 j (nI (f (gd p j))), hs j M' _ hj (hp.gl hj) a2 (by rw [a2 37 _ (by omega)]; exact hB j hj), rfl, fun i hi => ?_, fun q i hq => ?_⟩
      · by_cases q : i = j
        · rw [zup_e, if_pos ⟨rfl, q⟩, q]
        · rw [zup_e, if_neg (by omega)]
          exact a1 i (by omega)
      · rw [zup_e, if_neg (by omega)]
        exact a2 q i hq) (ls0 0) M ⟨rfl, fun i hi => absurd hi (Nat.not_lt_zero i), fun _ _ _ => rfl⟩
  exact ⟨M', w1, w2, w3⟩
/-! group: the reference's loops with their members -/
def La (n : Nat) (c : tC) (a : Nat) : List Nat := fl n (fun x => c a x)
def Ra (n : Nat) (c : tC) (a : Nat) : List Nat := fl n (fun x => c x a)
theorem La_PQ {n a : Nat} {c : tC} (ho : tO n c) (hf : tF n c) (ha : a < n) : PQ n (La n c a) := fl_PQ (fun i hi => hf a i ha hi) (fun i j hi hj e => ho.2.2.2.1 a i j ha hi hj e (Nat.lt_of_lt_of_le (hf a i ha hi) ho.1.2))
theorem Ra_PQ {n a : Nat} {c : tC} (ho : tO n c) (hf : tF n c) (ha : a < n) : PQ n (Ra n c a) := fl_PQ (fun i hi => hf i a hi ha) (fun i j hi hj e => ho.2.2.2.2 i j a hi hj ha e (Nat.lt_of_lt_of_le (hf i a hi ha) ho.1.2))
/-- nothing but words in the turns -/
def GE (n : Nat) (c : tC) (B : List (List Nat)) : Prop := ∀ H : List Nat → Prop, H (List.range n) → (∀ p a, a < n → PQ n p → H p → H (cp (La n c a) p) ∧ H (cp (Ra n c a) p)) → ∀ p, p ∈ B → H p
theorem GE.add {n a : Nat} {c : tC} {B : List (List Nat)} {p : List Nat} (h : GE n c B) (ha : a < n) (hp : p ∈ B) (pq : PQ n p) : GE n c (B ++ [cp (La n c a) p]) ∧ GE n c (B ++ [cp (Ra n c a) p]) := ⟨fun H h1 h2 q hq => by
    rcases List.mem_append.mp hq with hq | hq
    · exact h H h1 h2 q hq
    · rw [List.mem_singleton.mp hq]
      exact (h2 p a ha pq (h H h1 h2 p hp)).1, fun H h1 h2 q hq => by
    rcases List.mem_append.mp hq with hq | hq
    · exact h H h1 h2 q hq
    · rw [List.mem_singleton.mp hq]
      exact (h2 p a ha pq (h H h1 h2 p hp)).2⟩
theorem GM.fr {M M' : zM} {n : Nat} {B : List (List Nat)} (h : GM M n B) (hs : ∀ q i, q ≠ 36 → M' q i = M q i) : GM M' n B := ⟨h.1, h.2.1, fun m i hm hi => by rw [hs 37 _ (by decide)]; exact h.2.2.1 m i hm hi, fun p hp => by rw [hs 38 _ (by decide)]; exact h.2.2.2 p hp⟩
theorem qM_gr4F {M : zM} {t n m : Nat} {c : tC} {B : List (List Nat)} (ht : t < 6) (h : rT M t n c) (h7 : n ≤ 7) (ho : tO n c) (hf : tF n c) (hm : m < B.length) (hB : GM M n B) (hG : GE n c B) : ∃ B' M', zwh zc_M_group_4 zs_M_group_4 (lsG t n B.length m (some (.int (nI 0))) none) M = some (none, lsG t n B'.length m (some (.int (nI n))) none, M') ∧ GM M' n B' ∧ gF M M' ∧ (∃ W, B' = B ++ W) ∧ GE n c B' ∧ ∀ a, a < n → cp (La n c a) (ge B m) ∈ B' ∧ cp (Ra n c a) (ge B m) ∈ B' := by
  have h8 : n ≤ 8 := by omega
  have pB := ge_mem hm
  have pq := hB.1 _ pB
  obtain ⟨r, ls, M', w1, rfl, B', rfl, w2, w3, w4, w5, w6⟩ := zwh_inv (c := zc_M_group_4) (s := zs_M_group_4) (fun j ls M' => ∃ B', ls = lsG t n B'.length m (some (.int (nI j))) none ∧ GM M' n B' ∧ gF M M' ∧ (∃ W, B' = B ++ W) ∧ GE n c B' ∧ ∀ a, a < j → cp (La n c a) (ge B m) ∈ B' ∧ cp (Ra n c a) (ge B m) ∈ B') (Q := fun r ls M' => r = none ∧ ∃ B', ls = lsG t n B'.length m (some (.int (nI n))) none ∧ GM M' n B' ∧ gF M M' ∧ (∃ W, B' = B ++ W) ∧ GE n c B' ∧ ∀ a, a < n → cp (La n c a) (ge B m) ∈ B' ∧ cp (Ra n c a) (ge B m) ∈ B') (n := n) (fun ls M' q => by
      obtain ⟨B', rfl, q1, q2⟩ := q
      have b5 := (q1.len h7).1
      refine ⟨?_, rfl, B', rfl, q1, q2⟩
      simp (disch := omega) [zc_M_group_4, lsG, zmeth, xm_en, zret, zretz, zretv, zseq, zst, zinc, zkl, zskip, zk, zi, za, zbin, zdiv, zrem, zgi, zgr, zld, zldr, zlen, zn, zc, zcall, zcallv, zrcv, zdo, zdov, zpf, zpfc, zas, zasc, zmin, zmax, zcmp, zcz, zand_e, zor_e, zite_e, zbite_e, zif_e, znot_e, z_add, z_sub, z_mul, z_and, z_or, z_xor, z_shl, z_shr, zcpy, -List.getElem?_cons_succ, zg_0, zg_1, zg_2, zg_3, zg_4, zg_5, zg_6, zg_7, zg_8, zg_9, zc_lt, zc_le, zc_gt, zc_ge, zc_eq, zc_ne, zc_lt0, zc_ge0, zc_gt0, zc_eq0, zc_ne0, zb_ne, zb_eq, zb_01, z_00, z_01, z_11, zb_f, zb_T, zb_F, zbm1, zbm2, zbm5, zbm6, zbm3, zbm4, nI_clamp, zmod_n, pk_div, nI_ne0, pk_mul, nI_add, nI_1]) n 0 (by omega) (fun j ls M' _ hj q => by
      obtain ⟨B1, rfl, q1, q2, ⟨W, qW⟩, q4, q5⟩ := q
      have b5 := (q1.len h7).1
      refine ⟨by simp (disch := omega) [zc_M_group_4, lsG, zmeth, xm_en, zret, zretz, zretv, zseq, zst, zinc, zkl, zskip, zk, zi, za, zbin, zdiv, zrem, zgi, zgr, zld, zldr, zlen, zn, zc, zcall, zcallv, zrcv, zdo, zdov, zpf, zpfc, zas, zasc, zmin, zmax, zcmp, zcz, zand_e, zor_e, zite_e, zbite_e, zif_e, znot_e, z_add, z_sub, z_mul, z_and, z_or, z_xor, z_shl, z_shr, zcpy, -List.getElem?_cons_succ, zg_0, zg_1, zg_2, zg_3, zg_4, zg_5, zg_6, zg_7, zg_8, zg_9, zc_lt, zc_le, zc_gt, zc_ge, zc_eq, zc_ne, zc_lt0, zc_ge0, zc_gt0, zc_eq0, zc_ne0, zb_ne, zb_eq, zb_01, z_00, z_01, z_11, zb_f, zb_T, zb_F, zbm1, zbm2, zbm5, zbm6, zbm3, zbm4, nI_clamp, zmod_n, pk_div, nI_ne0, pk_mul, nI_add, nI_1, hj], ?_⟩
      have e0 : ge B1 m = ge B m := by rw [qW, ge_app hm]
      have m1 : m < B1.length := by rw [qW, List.length_append]; omega
      have in1 : ge B m ∈ B1 := by rw [← e0]; exact ge_mem m1
      have row : ∀ i, i < n → M' 37 (7 * m + i) = nI (gd (ge B m) i) := fun i hi => by rw [← e0]; exact q1.2.2.1 m i m1 hi
      obtain ⟨M1, e1, i1, s1⟩ := qM_imgF (c' := zc_M_group_5) (s' := zs_M_group_5) (ls0 := fun i => lsG t n B1.length m (some (.int (nI j))) (some (.int (nI i)))) (f := fun v => c j v) (m := m) pq row (fun i M2 hi => by simp (disch := omega) [zc_M_group_5, lsG, zmeth, xm_en, zret, zretz, zretv, zseq, zst, zinc, zkl, zskip, zk, zi, za, zbin, zdiv, zrem, zgi, zgr, zld, zldr, zlen, zn, zc, zcall, zcallv, zrcv, zdo, zdov, zpf, zpfc, zas, zasc, zmin, zmax, zcmp, zcz, zand_e, zor_e, zite_e, zbite_e, zif_e, znot_e, z_add, z_sub, z_mul, z_and, z_or, z_xor, z_shl, z_shr, zcpy, -List.getElem?_cons_succ, zg_0, zg_1, zg_2, zg_3, zg_4, zg_5, zg_6, zg_7, zg_8, zg_9, zc_lt, zc_le, zc_gt, zc_ge, zc_eq, zc_ne, zc_lt0, zc_ge0, zc_gt0, zc_eq0, zc_ne0, zb_ne, zb_eq, zb_01, z_00, z_01, z_11, zb_f, zb_T, zb_F, zbm1, zbm2, zbm5, zbm6, zbm3, zbm4, nI_clamp, zmod_n, pk_div, nI_ne0, pk_mul, nI_add, nI_1, hi]) (fun M2 => by simp (disch := omega) [zc_M_group_5, lsG, zmeth, xm_en, zret, zretz, zretv, zseq, zst, zinc, zkl, zskip, zk, zi, za, zbin, zdiv, zrem, zgi, zgr, zld, zldr, zlen, zn, zc, zcall, zcallv, zrcv, zdo, zdov, zpf, zpfc, zas, zasc, zmin, zmax, zcmp, zcz, zand_e, zor_e, zite_e, zbite_e, zif_e, znot_e, z_add, z_sub, z_mul, z_and, z_or, z_xor, z_shl, z_shr, zcpy, -List.getElem?_cons_succ, zg_0, zg_1, zg_2, zg_3, zg_4, zg_5, zg_6, zg_7, zg_8, zg_9, zc_lt, zc_le, zc_gt, zc_ge, zc_eq, zc_ne, zc_lt0, zc_ge0, zc_gt0, zc_eq0, zc_ne0, zb_ne, zb_eq, zb_01, z_00, z_01, z_11, zb_f, zb_T, zb_F, zbm1, zbm2, zbm5, zbm6, zbm3, zbm4, nI_clamp, zmod_n, pk_div, nI_ne0, pk_mul, nI_add, nI_1]) (fun i M2 v hi hv fr hv2 => by
        have rt : rT M2 t n c := (q2.rT h8 h).same h8 (fr _ _ (by decide)) (fun j _ _ => fr _ _ (by decide))
        have mul := qM_mul ht rt h8 hf hj hv
        simp (disch := omega) [zs_M_group_5, lsG, zmeth, xm_en, zret, zretz, zretv, zseq, zst, zinc, zkl, zskip, zk, zi, za, zbin, zdiv, zrem, zgi, zgr, zld, zldr, zlen, zn, zc, zcall, zcallv, zrcv, zdo, zdov, zpf, zpfc, zas, zasc, zmin, zmax, zcmp, zcz, zand_e, zor_e, zite_e, zbite_e, zif_e, znot_e, z_add, z_sub, z_mul, z_and, z_or, z_xor, z_shl, z_shr, zcpy, -List.getElem?_cons_succ, zg_0, zg_1, zg_2, zg_3, zg_4, zg_5, zg_6, zg_7, zg_8, zg_9, zc_lt, zc_le, zc_gt, zc_ge, zc_eq, zc_ne, zc_lt0, zc_ge0, zc_gt0, zc_eq0, zc_ne0, zb_ne, zb_eq, zb_01, z_00, z_01, z_11, zb_f, zb_T, zb_F, zbm1, zbm2, zbm5, zbm6, zbm3, zbm4, nI_clamp, zmod_n, pk_div, nI_ne0, pk_mul, nI_add, nI_1, zt_0, zt_12, zt_20, zt_26, zt_32, zf_0_0, zf_0_1, zf_0_2, zf_0_3, zf_0_4, zf_12_0, zf_12_1, zf_12_2, zf_12_4, zf_12_5, zf_20_1, zf_20_2, zf_20_3, zf_20_4, zf_20_6, zf_26_0, zf_26_1, zf_26_2, zf_26_3, zf_32_0, zf_32_1, zf_32_3, zf_32_4, zf_32_5, zf_32_6, zi_36, zi_37, hv2, mul])
      have pl := La_PQ ho hf hj
      have pr := Ra_PQ ho hf hj
      have c1 : ∀ i, i < n → M1 36 i = nI (gd (cp (La n c j) (ge B m)) i) := fun i hi => by
        rw [i1 i hi, cp_gd pq hi]
        unfold La
        rw [fl_gd (pq.gl hi)]
      obtain ⟨B2, M2, e2, b2, f2, s2, l2⟩ := qM_joinsF h7 (cp_PQ pl pq) c1 (q1.fr s1)
      have x2 : (∃ W, B2 = B1 ++ W) ∧ GE n c B2 ∧ cp (La n c j) (ge B m) ∈ B2 := by
        rcases l2 with ⟨rfl, z⟩ | rfl
        · exact ⟨⟨[], (List.append_nil _).symm⟩, q4, z⟩
        · exact ⟨⟨_, rfl⟩, (q4.add hj in1 pq).1, List.mem_append.mpr (Or.inr (List.mem_singleton.mpr rfl))⟩
      obtain ⟨⟨W2, x2⟩, x3, x4⟩ := x2
      have b52 := (b2.len h7).1
      have m2 : m < B2.length := by rw [x2, List.length_append]; omega
      have e02 : ge B2 m = ge B m := by rw [x2, ge_app m1, e0]
      have in2 : ge B m ∈ B2 := by rw [← e02]; exact ge_mem m2
      have g1 : gF M' M1 := fun q j a _ _ => s1 q j a
      have fr2 : gF M M2 := q2.trans (g1.trans f2)
      have row2 : ∀ i, i < n → M2 37 (7 * m + i) = nI (gd (ge B m) i) := fun i hi => by rw [← e02]; exact b2.2.2.1 m i m2 hi
      obtain ⟨M3, e3, i3, s3⟩ := qM_imgF (c' := zc_M_group_6) (s' := zs_M_group_6) (ls0 := fun i => lsG t n B2.length m (some (.int (nI j))) (some (.int (nI i)))) (f := fun v => c v j) (m := m) pq row2 (fun i M2 hi => by simp (disch := omega) [zc_M_group_6, lsG, zmeth, xm_en, zret, zretz, zretv, zseq, zst, zinc, zkl, zskip, zk, zi, za, zbin, zdiv, zrem, zgi, zgr, zld, zldr, zlen, zn, zc, zcall, zcallv, zrcv, zdo, zdov, zpf, zpfc, zas, zasc, zmin, zmax, zcmp, zcz, zand_e, zor_e, zite_e, zbite_e, zif_e, znot_e, z_add, z_sub, z_mul, z_and, z_or, z_xor, z_shl, z_shr, zcpy, -List.getElem?_cons_succ, zg_0, zg_1, zg_2, zg_3, zg_4, zg_5, zg_6, zg_7, zg_8, zg_9, zc_lt, zc_le, zc_gt, zc_ge, zc_eq, zc_ne, zc_lt0, zc_ge0, zc_gt0, zc_eq0, zc_ne0, zb_ne, zb_eq, zb_01, z_00, z_01, z_11, zb_f, zb_T, zb_F, zbm1, zbm2, zbm5, zbm6, zbm3, zbm4, nI_clamp, zmod_n, pk_div, nI_ne0, pk_mul, nI_add, nI_1, hi]) (fun M2 => by simp (disch := omega) [zc_M_group_6, lsG, zmeth, xm_en, zret, zretz, zretv, zseq, zst, zinc, zkl, zskip, zk, zi, za, zbin, zdiv, zrem, zgi, zgr, zld, zldr, zlen, zn, zc, zcall, zcallv, zrcv, zdo, zdov, zpf, zpfc, zas, zasc, zmin, zmax, zcmp, zcz, zand_e, zor_e, zite_e, zbite_e, zif_e, znot_e, z_add, z_sub, z_mul, z_and, z_or, z_xor, z_shl, z_shr, zcpy, -List.getElem?_cons_succ, zg_0, zg_1, zg_2, zg_3, zg_4, zg_5, zg_6, zg_7, zg_8, zg_9, zc_lt, zc_le, zc_gt, zc_ge, zc_eq, zc_ne, zc_lt0, zc_ge0, zc_gt0, zc_eq0, zc_ne0, zb_ne, zb_eq, zb_01, z_00, z_01, z_11, zb_f, zb_T, zb_F, zbm1, zbm2, zbm5, zbm6, zbm3, zbm4, nI_clamp, zmod_n, pk_div, nI_ne0, pk_mul, nI_add, nI_1]) (fun i M4 v hi hv fr hv2 => by
        have rt : rT M4 t n c := (fr2.rT h8 h).same h8 (fr _ _ (by decide)) (fun j _ _ => fr _ _ (by decide))
        have mul := qM_mul ht rt h8 hf hv hj
        simp (disch := omega) [zs_M_group_6, lsG, zmeth, xm_en, zret, zretz, zretv, zseq, zst, zinc, zkl, zskip, zk, zi, za, zbin, zdiv, zrem, zgi, zgr, zld, zldr, zlen, zn, zc, zcall, zcallv, zrcv, zdo, zdov, zpf, zpfc, zas, zasc, zmin, zmax, zcmp, zcz, zand_e, zor_e, zite_e, zbite_e, zif_e, znot_e, z_add, z_sub, z_mul, z_and, z_or, z_xor, z_shl, z_shr, zcpy, -List.getElem?_cons_succ, zg_0, zg_1, zg_2, zg_3, zg_4, zg_5, zg_6, zg_7, zg_8, zg_9, zc_lt, zc_le, zc_gt, zc_ge, zc_eq, zc_ne, zc_lt0, zc_ge0, zc_gt0, zc_eq0, zc_ne0, zb_ne, zb_eq, zb_01, z_00, z_01, z_11, zb_f, zb_T, zb_F, zbm1, zbm2, zbm5, zbm6, zbm3, zbm4, nI_clamp, zmod_n, pk_div, nI_ne0, pk_mul, nI_add, nI_1, zt_0, zt_12, zt_20, zt_26, zt_32, zf_0_0, zf_0_1, zf_0_2, zf_0_3, zf_0_4, zf_12_0, zf_12_1, zf_12_2, zf_12_4, zf_12_5, zf_20_1, zf_20_2, zf_20_3, zf_20_4, zf_20_6, zf_26_0, zf_26_1, zf_26_2, zf_26_3, zf_32_0, zf_32_1, zf_32_3, zf_32_4, zf_32_5, zf_32_6, zi_36, zi_37, hv2, mul])
      have c3 : ∀ i, i < n → M3 36 i = nI (gd (cp (Ra n c j) (ge B m)) i) := fun i hi => by
        rw [i3 i hi, cp_gd pq hi]
        unfold Ra
        rw [fl_gd (pq.gl hi)]
      obtain ⟨B4, M4, e4, b4, f4, s4, l4⟩ := qM_joinsF h7 (cp_PQ pr pq) c3 (b2.fr s3)
      have x5 : (∃ W, B4 = B2 ++ W) ∧ GE n c B4 ∧ cp (Ra n c j) (ge B m) ∈ B4 := by
        rcases l4 with ⟨rfl, z⟩ | rfl
        · exact ⟨⟨[], (List.append_nil _).symm⟩, x3, z⟩
        · exact ⟨⟨_, rfl⟩, (x3.add hj in2 pq).2, List.mem_append.mpr (Or.inr (List.mem_singleton.mpr rfl))⟩
      obtain ⟨⟨W4, x5⟩, x6, x7⟩ := x5
      have b54 := (b4.len h7).1
      have g3 : gF M2 M3 := fun q j a _ _ => s3 q j a
      have sub : ∀ p, p ∈ B1 → p ∈ B4 := fun p hp => by rw [x5, x2]; exact List.mem_append.mpr (Or.inl (List.mem_append.mpr (Or.inl hp)))
      refine ⟨none, lsG t n B4.length m (some (.int (nI (j + 1)))) none, M4, ?_, B4, rfl, b4, fr2.trans (g3.trans f4), ⟨W ++ (W2 ++ W4), by rw [x5, x2, qW, List.append_assoc, List.append_assoc]⟩, x6, fun a ha => ?_⟩
      · simp only [lsG] at e1 e3 ⊢
        simp (disch := omega) [zs_M_group_4, zmeth, xm_en, zret, zretz, zretv, zseq, zst, zinc, zkl, zskip, zk, zi, za, zbin, zdiv, zrem, zgi, zgr, zld, zldr, zlen, zn, zc, zcall, zcallv, zrcv, zdo, zdov, zpf, zpfc, zas, zasc, zmin, zmax, zcmp, zcz, zand_e, zor_e, zite_e, zbite_e, zif_e, znot_e, z_add, z_sub, z_mul, z_and, z_or, z_xor, z_shl, z_shr, zcpy, -List.getElem?_cons_succ, zg_0, zg_1, zg_2, zg_3, zg_4, zg_5, zg_6, zg_7, zg_8, zg_9, zc_lt, zc_le, zc_gt, zc_ge, zc_eq, zc_ne, zc_lt0, zc_ge0, zc_gt0, zc_eq0, zc_ne0, zb_ne, zb_eq, zb_01, z_00, z_01, z_11, zb_f, zb_T, zb_F, zbm1, zbm2, zbm5, zbm6, zbm3, zbm4, nI_clamp, zmod_n, pk_div, nI_ne0, pk_mul, nI_add, nI_1, zt_0, zt_12, zt_20, zt_26, zt_32, zf_0_0, zf_0_1, zf_0_2, zf_0_3, zf_0_4, zf_12_0, zf_12_1, zf_12_2, zf_12_4, zf_12_5, zf_20_1, zf_20_2, zf_20_3, zf_20_4, zf_20_6, zf_26_0, zf_26_1, zf_26_2, zf_26_3, zf_32_0, zf_32_1, zf_32_3, zf_32_4, zf_32_5, zf_32_6, e1, e2, e3, e4]
      · by_cases z : a = j
        · subst z
          exact ⟨by rw [x5]; exact List.mem_append.mpr (Or.inl x4), x7⟩
        · have := q5 a (by omega)
          exact ⟨sub _ this.1, sub _ this.2⟩) _ M ⟨B, rfl, hB, fun _ _ _ _ _ => rfl, ⟨[], (List.append_nil _).symm⟩, hG, fun a ha => absurd ha (Nat.not_lt_zero a)⟩
  exact ⟨B', M', w1, w2, w3, w4, w5, w6⟩
theorem qM_gr3F {t n : Nat} {c : tC} (ht : t < 6) (h7 : n ≤ 7) (ho : tO n c) (hf : tF n c) : ∀ (d m : Nat) (B : List (List Nat)) (M : zM), 5040 ≤ m + d → m ≤ B.length → rT M t n c → GM M n B → GE n c B → (∀ k a, k < m → a < n → cp (La n c a) (ge B k) ∈ B ∧ cp (Ra n c a) (ge B k) ∈ B) → ∃ B' M', zwh zc_M_group_3 zs_M_group_3 (lsG t n B.length m none none) M = some (none, lsG t n B'.length B'.length none none, M') ∧ GM M' n B' ∧ gF M M' ∧ (∃ W, B' = B ++ W) ∧ GE n c B' ∧ ∀ k a, k < B'.length → a < n → cp (La n c a) (ge B' k) ∈ B' ∧ cp (Ra n c a) (ge B' k) ∈ B' := by
  have stop : ∀ (m : Nat) (B : List (List Nat)) (M : zM), m = B.length → GM M n B → zwh zc_M_group_3 zs_M_group_3 (lsG t n B.length m none none) M = some (none, lsG t n B.length B.length none none, M) := fun m B M e hB => by
    subst e
    have b5 := (hB.len h7).1
    exact zwh_f (by simp (disch := omega) [zc_M_group_3, lsG, zmeth, xm_en, zret, zretz, zretv, zseq, zst, zinc, zkl, zskip, zk, zi, za, zbin, zdiv, zrem, zgi, zgr, zld, zldr, zlen, zn, zc, zcall, zcallv, zrcv, zdo, zdov, zpf, zpfc, zas, zasc, zmin, zmax, zcmp, zcz, zand_e, zor_e, zite_e, zbite_e, zif_e, znot_e, z_add, z_sub, z_mul, z_and, z_or, z_xor, z_shl, z_shr, zcpy, -List.getElem?_cons_succ, zg_0, zg_1, zg_2, zg_3, zg_4, zg_5, zg_6, zg_7, zg_8, zg_9, zc_lt, zc_le, zc_gt, zc_ge, zc_eq, zc_ne, zc_lt0, zc_ge0, zc_gt0, zc_eq0, zc_ne0, zb_ne, zb_eq, zb_01, z_00, z_01, z_11, zb_f, zb_T, zb_F, zbm1, zbm2, zbm5, zbm6, zbm3, zbm4, nI_clamp, zmod_n, pk_div, nI_ne0, pk_mul, nI_add, nI_1])
  intro d
  induction d with
  | zero =>
    intro m B M h1 h2 h hB hG hm
    have b5 := (hB.len h7).1
    have e : m = B.length := by omega
    exact ⟨B, M, stop m B M e hB, hB, fun _ _ _ _ _ => rfl, ⟨[], (List.append_nil _).symm⟩, hG, fun k a hk => hm k a (by omega)⟩
  | succ d ih =>
    intro m B M h1 h2 h hB hG hm
    have b5 := (hB.len h7).1
    rcases Nat.lt_or_ge m B.length with q | q
    · obtain ⟨B1, M1, e1, b1, f1, ⟨W, x1⟩, x2, x3⟩ := qM_gr4F ht h h7 ho hf q hB hG
      have l1 : B.length ≤ B1.length := by rw [x1, List.length_append]; omega
      have b51 := (b1.len h7).1
      obtain ⟨B2, M2, e2, b2, f2, ⟨W2, y1⟩, y2, y3⟩ := ih (m + 1) B1 M1 (by omega) (by omega) (f1.rT (by omega) h) b1 x2 (fun k a hk ha => by
        have eg : ge B1 k = ge B k := by rw [x1, ge_app (by omega)]
        rw [eg]
        by_cases z : k = m
        · subst z
          exact x3 a ha
        · have := hm k a (by omega) ha
          exact ⟨by rw [x1]; exact List.mem_append.mpr (Or.inl this.1), by rw [x1]; exact List.mem_append.mpr (Or.inl this.2)⟩)
      refine ⟨B2, M2, zwh_t (ls2 := lsG t n B1.length (m + 1) none none) (M2 := M1) (M1 := M) ?_ ?_ e2, b2, f1.trans f2, ⟨W ++ W2, by rw [y1, x1, List.append_assoc]⟩, y2, y3⟩
      · simp (disch := omega) [zc_M_group_3, lsG, zmeth, xm_en, zret, zretz, zretv, zseq, zst, zinc, zkl, zskip, zk, zi, za, zbin, zdiv, zrem, zgi, zgr, zld, zldr, zlen, zn, zc, zcall, zcallv, zrcv, zdo, zdov, zpf, zpfc, zas, zasc, zmin, zmax, zcmp, zcz, zand_e, zor_e, zite_e, zbite_e, zif_e, znot_e, z_add, z_sub, z_mul, z_and, z_or, z_xor, z_shl, z_shr, zcpy, -List.getElem?_cons_succ, zg_0, zg_1, zg_2, zg_3, zg_4, zg_5, zg_6, zg_7, zg_8, zg_9, zc_lt, zc_le, zc_gt, zc_ge, zc_eq, zc_ne, zc_lt0, zc_ge0, zc_gt0, zc_eq0, zc_ne0, zb_ne, zb_eq, zb_01, z_00, z_01, z_11, zb_f, zb_T, zb_F, zbm1, zbm2, zbm5, zbm6, zbm3, zbm4, nI_clamp, zmod_n, pk_div, nI_ne0, pk_mul, nI_add, nI_1, q]
      · simp only [lsG] at e1 ⊢
        simp (disch := omega) [zs_M_group_3, zmeth, xm_en, zret, zretz, zretv, zseq, zst, zinc, zkl, zskip, zk, zi, za, zbin, zdiv, zrem, zgi, zgr, zld, zldr, zlen, zn, zc, zcall, zcallv, zrcv, zdo, zdov, zpf, zpfc, zas, zasc, zmin, zmax, zcmp, zcz, zand_e, zor_e, zite_e, zbite_e, zif_e, znot_e, z_add, z_sub, z_mul, z_and, z_or, z_xor, z_shl, z_shr, zcpy, -List.getElem?_cons_succ, zg_0, zg_1, zg_2, zg_3, zg_4, zg_5, zg_6, zg_7, zg_8, zg_9, zc_lt, zc_le, zc_gt, zc_ge, zc_eq, zc_ne, zc_lt0, zc_ge0, zc_gt0, zc_eq0, zc_ne0, zb_ne, zb_eq, zb_01, z_00, z_01, z_11, zb_f, zb_T, zb_F, zbm1, zbm2, zbm5, zbm6, zbm3, zbm4, nI_clamp, zmod_n, pk_div, nI_ne0, pk_mul, nI_add, nI_1, e1]
    · have e : m = B.length := by omega
      exact ⟨B, M, stop m B M e hB, hB, fun _ _ _ _ _ => rfl, ⟨[], (List.append_nil _).symm⟩, hG, fun k a hk => hm k a (by omega)⟩
/-- the group that all turns make -/
def GRP (n : Nat) (c : tC) (B : List (List Nat)) : Prop := (∀ p, p ∈ B → PQ n p) ∧ B.Nodup ∧ List.range n ∈ B ∧ GE n c B ∧ ∀ p a, p ∈ B → a < n → cp (La n c a) p ∈ B ∧ cp (Ra n c a) p ∈ B
/-- the reference's answer, with a list of its members -/
def aGM (T : tS) (x : Int32) (r : Int32) : Prop := (zlt x 4 = false ∧ r = -1) ∨ (zlt x 4 = true ∧ (tB (T x.toNatClampNeg).1 (T x.toNatClampNeg).2 = false ∨ 7 < (T x.toNatClampNeg).1) ∧ r = -2) ∨ (zlt x 4 = true ∧ tB (T x.toNatClampNeg).1 (T x.toNatClampNeg).2 = true ∧ (T x.toNatClampNeg).1 ≤ 7 ∧ ∃ B, GRP (T x.toNatClampNeg).1 (T x.toNatClampNeg).2 B ∧ r = nI B.length)
theorem qM_groupF {T : tS} {M : zM} (x : Int32) (hR : RS T M) (hT : TO T) : ∃ r M', zf_M_group [.ref 32, .int x] M = some (some r, M') ∧ zsr M M' ∧ aGM T x r := by
  rcases z3 x (n := 4) (by decide) with h | ⟨t, ht, rfl⟩
  · refine ⟨-1, M, ?_, zsr.refl M, Or.inl ⟨h, rfl⟩⟩
    simp [zf_M_group, zmeth, xm_en, zret, zretz, zretv, zseq, zst, zinc, zkl, zskip, zk, zi, za, zbin, zdiv, zrem, zgi, zgr, zld, zldr, zlen, zn, zc, zcall, zcallv, zrcv, zdo, zdov, zpf, zpfc, zas, zasc, zmin, zmax, zcmp, zcz, zand_e, zor_e, zite_e, zbite_e, zif_e, znot_e, z_add, z_sub, z_mul, z_and, z_or, z_xor, z_shl, z_shr, zcpy, -List.getElem?_cons_succ, zg_0, zg_1, zg_2, zg_3, zg_4, zg_5, zg_6, zg_7, zg_8, zg_9, qM_isTable, zb_ne, h]
  · have e := zlt_y ht (by decide)
    have ct : (nI t).toNatClampNeg = t := nI_clamp (by omega)
    have h8 := (hT t ht).1.2
    have h6 : t < 6 := by omega
    cases hb : tB (T t).1 (T t).2 with
    | false =>
      refine ⟨-2, M, ?_, zsr.refl M, Or.inr (Or.inl ⟨e, Or.inl (by rw [ct]; exact hb), rfl⟩)⟩
      simp (disch := omega) [zf_M_group, zmeth, xm_en, zret, zretz, zretv, zseq, zst, zinc, zkl, zskip, zk, zi, za, zbin, zdiv, zrem, zgi, zgr, zld, zldr, zlen, zn, zc, zcall, zcallv, zrcv, zdo, zdov, zpf, zpfc, zas, zasc, zmin, zmax, zcmp, zcz, zand_e, zor_e, zite_e, zbite_e, zif_e, znot_e, z_add, z_sub, z_mul, z_and, z_or, z_xor, z_shl, z_shr, zcpy, -List.getElem?_cons_succ, zg_0, zg_1, zg_2, zg_3, zg_4, zg_5, zg_6, zg_7, zg_8, zg_9, zt_0, zt_12, zt_20, zt_26, zt_32, zf_0_0, zf_0_1, zf_0_2, zf_0_3, zf_0_4, zf_12_0, zf_12_1, zf_12_2, zf_12_4, zf_12_5, zf_20_1, zf_20_2, zf_20_3, zf_20_4, zf_20_6, zf_26_0, zf_26_1, zf_26_2, zf_26_3, zf_32_0, zf_32_1, zf_32_3, zf_32_4, zf_32_5, zf_32_6, qM_isTable, zb_ne, e, qM_isFull h6 (hR t ht) h8, hb]
    | true =>
      by_cases h7 : 7 < (T t).1
      · refine ⟨-2, M, ?_, zsr.refl M, Or.inr (Or.inl ⟨e, Or.inr (by rw [ct]; exact h7), rfl⟩)⟩
        simp (disch := omega) [zf_M_group, zmeth, xm_en, zret, zretz, zretv, zseq, zst, zinc, zkl, zskip, zk, zi, za, zbin, zdiv, zrem, zgi, zgr, zld, zldr, zlen, zn, zc, zcall, zcallv, zrcv, zdo, zdov, zpf, zpfc, zas, zasc, zmin, zmax, zcmp, zcz, zand_e, zor_e, zite_e, zbite_e, zif_e, znot_e, z_add, z_sub, z_mul, z_and, z_or, z_xor, z_shl, z_shr, zcpy, -List.getElem?_cons_succ, zg_0, zg_1, zg_2, zg_3, zg_4, zg_5, zg_6, zg_7, zg_8, zg_9, zt_0, zt_12, zt_20, zt_26, zt_32, zf_0_0, zf_0_1, zf_0_2, zf_0_3, zf_0_4, zf_12_0, zf_12_1, zf_12_2, zf_12_4, zf_12_5, zf_20_1, zf_20_2, zf_20_3, zf_20_4, zf_20_6, zf_26_0, zf_26_1, zf_26_2, zf_26_3, zf_32_0, zf_32_1, zf_32_3, zf_32_4, zf_32_5, zf_32_6, qM_isTable, zb_ne, e, qM_isFull h6 (hR t ht) h8, hb, zi_33, nI_clamp, (hR t ht).1, zc_gt, h7]
      · have hf := (tB_iff (hT t ht)).mp hb
        have h7' : (T t).1 ≤ 7 := by omega
        obtain ⟨M1, e1, f1, z1⟩ := qM_gr1 (M := M) (t := t) (n := (T t).1)
        obtain ⟨M2, e2, f2, i2, s2⟩ := qM_gr2 (M := M1) (t := t) h7'
        have rb : ∀ p, rr (T t).1 (gd p) (T t).1 < 5040 := fun p => by have := rr_lt (T t).1 (gd p) (T t).1 (Nat.le_refl _); have := ff_le (T t).1 h7' (T t).1 (Nat.le_refl _); omega
        have b2 : GM M2 (T t).1 [] := ⟨fun p hp => absurd hp List.not_mem_nil, List.nodup_nil, fun m i hm => absurd hm (Nat.not_lt_zero m), fun p _ => ⟨fun _ => List.not_mem_nil, fun _ => by rw [s2, z1 _ (rb p)]⟩⟩
        obtain ⟨B3, M3, e3, b3, f3, s3, l3⟩ := qM_joinsF h7' id_PQ (fun i hi => by rw [gd_rg hi]; exact (i2 i hi).1) b2
        have l3 : B3 = [List.range (T t).1] := by
          rcases l3 with ⟨_, z⟩ | z
          · exact absurd z List.not_mem_nil
          · exact z
        obtain ⟨B4, M4, e4, b4, f4, ⟨W, x1⟩, x2, x3⟩ := qM_gr3F (t := t) h6 h7' (hT t ht) hf 5040 0 B3 M3 (by omega) (by omega) ((f1.trans (f2.trans f3)).rT h8 (hR t ht)) b3 (fun H h1 _ p hp => by
          rw [l3, List.mem_singleton] at hp
          rw [hp]
          exact h1) (fun k a hk => absurd hk (Nat.not_lt_zero k))
        have b5 := (b4.len h7').1
        refine ⟨nI B4.length, M4, ?_, (f1.trans (f2.trans (f3.trans f4))).sr, Or.inr (Or.inr ⟨e, by rw [ct]; exact hb, by rw [ct]; exact h7', B4, ?_, rfl⟩)⟩
        · simp only [lsG] at e4
          have e3' : zf_M_joins [.ref 32, .int (nI (T t).1), .int (nI 0)] M2 = some (some (nI B3.length), M3) := e3
          simp (disch := omega) [zf_M_group, zmeth, xm_en, zret, zretz, zretv, zseq, zst, zinc, zkl, zskip, zk, zi, za, zbin, zdiv, zrem, zgi, zgr, zld, zldr, zlen, zn, zc, zcall, zcallv, zrcv, zdo, zdov, zpf, zpfc, zas, zasc, zmin, zmax, zcmp, zcz, zand_e, zor_e, zite_e, zbite_e, zif_e, znot_e, z_add, z_sub, z_mul, z_and, z_or, z_xor, z_shl, z_shr, zcpy, -List.getElem?_cons_succ, zg_0, zg_1, zg_2, zg_3, zg_4, zg_5, zg_6, zg_7, zg_8, zg_9, zt_0, zt_12, zt_20, zt_26, zt_32, zf_0_0, zf_0_1, zf_0_2, zf_0_3, zf_0_4, zf_12_0, zf_12_1, zf_12_2, zf_12_4, zf_12_5, zf_20_1, zf_20_2, zf_20_3, zf_20_4, zf_20_6, zf_26_0, zf_26_1, zf_26_2, zf_26_3, zf_32_0, zf_32_1, zf_32_3, zf_32_4, zf_32_5, zf_32_6, zc_lt, zc_le, zc_gt, zc_ge, zc_eq, zc_ne, zc_lt0, zc_ge0, zc_gt0, zc_eq0, zc_ne0, zb_ne, zb_eq, zb_01, z_00, z_01, z_11, zb_f, zb_T, zb_F, zbm1, zbm2, zbm5, zbm6, zbm3, zbm4, nI_clamp, zmod_n, pk_div, nI_ne0, pk_mul, nI_add, nI_1, qM_isTable, zb_ne, e, qM_isFull h6 (hR t ht) h8, hb, zi_33, nI_clamp, (hR t ht).1, zc_gt, h7, e1, e2, e3', e4]
        · rw [ct]
          refine ⟨b4.1, b4.2.1, ?_, x2, fun p a hp ha => ?_⟩
          · rw [x1, l3]
            exact List.mem_append.mpr (Or.inl (List.mem_singleton.mpr rfl))
          · obtain ⟨k, k1, k2⟩ := ge_of hp
            rw [← k2]
            exact x3 k a k1 ha
/-! group: the class's kept permutations -/
/-- in the group that the turns make -/
def HC (n : Nat) (c : tC) (H : List Nat → Prop) : Prop := H (List.range n) ∧ (∀ p q, PQ n p → PQ n q → H p → H q → H (cp p q)) ∧ (∀ p, PQ n p → H p → H (iv n p)) ∧ ∀ a, a < n → H (La n c a) ∧ H (Ra n c a)
def GH (n : Nat) (c : tC) (p : List Nat) : Prop := ∀ H, HC n c H → H p
theorem GH_HC (n : Nat) (c : tC) : HC n c (GH n c) := ⟨fun H h => h.1, fun p q hp hq a b H h => h.2.1 p q hp hq (a H h) (b H h), fun p hp a H h => h.2.2.1 p hp (a H h), fun a ha => ⟨fun H h => (h.2.2.2 a ha).1, fun H h => (h.2.2.2 a ha).2⟩⟩
/-- what the class has kept: its permutations e, its bits b, the places K in their order -/
def KS (M0 : zM) (n : Nat) (c : tC) (e : Nat → Nat → List Nat) (b : Nat → Nat) (K : List Nat) (M : zM) : Prop := (M 20 0 = nI n ∧ M 20 5 = nI K.length ∧ ∀ q j, q < 20 ∨ 25 < q → M q j = M0 q j) ∧ TB n e b ∧ (∀ i, i < 7 → M 23 i = nI (b i) ∧ b i < 128) ∧ (∀ i j, (b i).testBit j = true → GH n c (e i j) ∧ (∀ x, x < n → M 21 (7 * (7 * i + j) + x) = nI (gd (e i j) x)) ∧ ∀ x, x < n → M 22 (7 * (7 * i + j) + x) = nI (px (e i j) x)) ∧ (K.Nodup ∧ (∀ m, m < K.length → M 24 m = nI (gd K m)) ∧ ∀ k, k ∈ K ↔ ∃ i j, (b i).testBit j = true ∧ k = 7 * i + j)
theorem KS.fr {M0 M M' : zM} {n : Nat} {c : tC} {e : Nat → Nat → List Nat} {b : Nat → Nat} {K : List Nat} (h : KS M0 n c e b K M) (hs : ∀ q j, q ≠ 25 → M' q j = M q j) : KS M0 n c e b K M' := by
  obtain ⟨⟨a1, a2, a3⟩, a4, a5, a6, a7, a8, a9⟩ := h
  exact ⟨⟨(hs _ _ (by decide)).trans a1, (hs _ _ (by decide)).trans a2, fun q j hq => (hs q j (by omega)).trans (a3 q j hq)⟩, a4, fun i hi => ⟨(hs _ _ (by decide)).trans (a5 i hi).1, (a5 i hi).2⟩, fun i j q => ⟨(a6 i j q).1, fun x hx => (hs _ _ (by decide)).trans ((a6 i j q).2.1 x hx), fun x hx => (hs _ _ (by decide)).trans ((a6 i j q).2.2 x hx)⟩, a7, fun m hm => (hs _ _ (by decide)).trans (a8 m hm), a9⟩
theorem KS.n {M0 M : zM} {n : Nat} {c : tC} {e : Nat → Nat → List Nat} {b : Nat → Nat} {K : List Nat} (h : KS M0 n c e b K M) : M 20 0 = nI n := h.1.1
theorem KS.pl {M0 M : zM} {n : Nat} {c : tC} {e : Nat → Nat → List Nat} {b : Nat → Nat} {K : List Nat} (h7 : n ≤ 7) (h : KS M0 n c e b K M) {k : Nat} (hk : k ∈ K) : k < 49 ∧ (b (k / 7)).testBit (k % 7) = true := by
  obtain ⟨i, j, q, rfl⟩ := (h.2.2.2.2.2.2 k).mp hk
  have t := (h.2.1 i j q).1
  have e1 : (7 * i + j) / 7 = i := by omega
  have e2 : (7 * i + j) % 7 = j := by omega
  rw [e1, e2]
  exact ⟨by omega, q⟩
theorem KS.len {M0 M : zM} {n : Nat} {c : tC} {e : Nat → Nat → List Nat} {b : Nat → Nat} {K : List Nat} (h7 : n ≤ 7) (h : KS M0 n c e b K M) : K.length ≤ 49 ∧ ∀ k, k < 49 → k ∉ K → K.length < 49 := by
  have a := nd_le (B := List.range 49) h.2.2.2.2.1 (fun k hk => List.mem_range.mpr (h.pl h7 hk).1)
  rw [List.length_range] at a
  refine ⟨a, fun k hk q => ?_⟩
  have := nd_le (A := k :: K) (B := List.range 49) (List.nodup_cons.mpr ⟨q, h.2.2.2.2.1⟩) (fun x hx => by
    rcases List.mem_cons.mp hx with rfl | hx
    · exact List.mem_range.mpr hk
    · exact List.mem_range.mpr (h.pl h7 hx).1)
  rw [List.length_range, List.length_cons] at this
  omega
def TR (M : zM) (n : Nat) (p : List Nat) : Prop := ∀ x, x < n → M 25 x = nI (gd p x)
theorem qT_rd {M : zM} {k p x : Nat} (hk : xp_sh[k]? = some (0, 343)) (hp : p < 49) (hx : x < 7) : zf_Turns_read [.ref k, .int (nI p), .int (nI x)] M = some (some (M k (7 * p + x)), M) := by
  have hl : Int32.ofNat 343 = nI 343 := rfl
  have e : nI 7 * nI p + nI x = nI (7 * p + x) := by rw [pk_mul, nI_add]
  have h1 : xe_cd .ge (nI (7 * p + x)) 0 = true := zc_ge0 (by omega)
  have h2 : xe_cd .lt (nI (7 * p + x)) (nI 343) = true := by rw [zc_lt (by omega) (by omega)]; exact decide_eq_true (by omega)
  simp (disch := omega) [zf_Turns_read, zmeth, xm_en, zret, zretz, zretv, zseq, zst, zinc, zkl, zskip, zk, zi, za, zbin, zdiv, zrem, zgi, zgr, zld, zldr, zlen, zn, zc, zcall, zcallv, zrcv, zdo, zdov, zpf, zpfc, zas, zasc, zmin, zmax, zcmp, zcz, zand_e, zor_e, zite_e, zbite_e, zif_e, znot_e, z_add, z_sub, z_mul, z_and, z_or, z_xor, z_shl, z_shr, zcpy, -List.getElem?_cons_succ, zg_0, zg_1, zg_2, zg_3, zg_4, zg_5, zg_6, zg_7, zg_8, zg_9, e, h1, h2, hk, hl, zin_nI hk (show 7 * p + x < 343 by omega) (by decide), nI_clamp]
theorem qT_wr {M : zM} {k p x : Nat} {v : Int32} (hk : xp_sh[k]? = some (0, 343)) (hp : p < 49) (hx : x < 7) : zf_Turns_write [.ref k, .int (nI p), .int (nI x), .int v] M = some (none, zup M k (7 * p + x) v) := by
  have hl : Int32.ofNat 343 = nI 343 := rfl
  have e : nI 7 * nI p + nI x = nI (7 * p + x) := by rw [pk_mul, nI_add]
  have h1 : xe_cd .ge (nI (7 * p + x)) 0 = true := zc_ge0 (by omega)
  have h2 : xe_cd .lt (nI (7 * p + x)) (nI 343) = true := by rw [zc_lt (by omega) (by omega)]; exact decide_eq_true (by omega)
  simp (disch := omega) [zf_Turns_write, zmeth, xm_en, zret, zretz, zretv, zseq, zst, zinc, zkl, zskip, zk, zi, za, zbin, zdiv, zrem, zgi, zgr, zld, zldr, zlen, zn, zc, zcall, zcallv, zrcv, zdo, zdov, zpf, zpfc, zas, zasc, zmin, zmax, zcmp, zcz, zand_e, zor_e, zite_e, zbite_e, zif_e, znot_e, z_add, z_sub, z_mul, z_and, z_or, z_xor, z_shl, z_shr, zcpy, -List.getElem?_cons_succ, zg_0, zg_1, zg_2, zg_3, zg_4, zg_5, zg_6, zg_7, zg_8, zg_9, e, h1, h2, hk, hl, zin_nI hk (show 7 * p + x < 343 by omega) (by decide), nI_clamp]
/-- tried is written place by place -/
theorem tr_loop {c' : zB} {s' : zS} {M : zM} {n : Nat} {ls0 : Nat → zL} {f : Nat → Nat} (hc : ∀ j M', j < n → (∀ q i, q ≠ 25 → M' q i = M q i) → c' (ls0 j) M' = some (true, M')) (he : ∀ M', (∀ q i, q ≠ 25 → M' q i = M q i) → c' (ls0 n) M' = some (false, M'))
    (hs : ∀ j M', j < n → (∀ q i, q ≠ 25 → M' q i = M q i) → (∀ i, j ≤ i → M' 25 i = M 25 i) → s' (ls0 j) M' = some (none, ls0 (j + 1), zup M' 25 j (nI (f j)))) : ∃ M', zwh c' s' (ls0 0) M = some (none, ls0 n, M') ∧ (∀ i, i < n → M' 25 i = nI (f i)) ∧ ∀ q i, q ≠ 25 → M' q i = M q i := by
  obtain ⟨r, ls, M', w1, rfl, rfl, w2, w3, w4⟩ := zwh_inv (c := c') (s := s') (fun j ls M' => ls = ls0 j ∧ (∀ i, i < j → M' 25 i = nI (f i)) ∧ (∀ i, j ≤ i → M' 25 i = M 25 i) ∧ ∀ q i, q ≠ 25 → M' q i = M q i) (Q := fun r ls M' => r = none ∧ ls = ls0 n ∧ (∀ i, i < n → M' 25 i = nI (f i)) ∧ (∀ i, n ≤ i → M' 25 i = M 25 i) ∧ ∀ q i, q ≠ 25 → M' q i = M q i) (n := n) (fun ls M' h => by
      obtain ⟨rfl, a1, a2, a3⟩ := h
      exact ⟨he M' a3, rfl, rfl, a1, a2, a3⟩) n 0 (by omega) (fun j ls M' _ hj h => by
      obtain ⟨rfl, a1, a2, a3⟩ := h
      refine ⟨hc j M' hj a3, none, ls0 (j + 1), _, hs j M' hj a3 a2, rfl, fun i hi => ?_, fun i hi => ?_, fun q i hq => ?_⟩
      · by_cases q : i = j
        · rw [zup_e, if_pos ⟨rfl, q⟩, q]
        · rw [zup_e, if_neg (by omega)]
          exact a1 i (by omega)
      · rw [zup_e, if_neg (by omega)]
        exact a2 i (by omega)
      · rw [zup_e, if_neg (by omega)]
        exact a3 q i hq) (ls0 0) M ⟨rfl, fun i hi => absurd hi (Nat.not_lt_zero i), fun _ _ => rfl, fun _ _ _ => rfl⟩
  exact ⟨M', w1, w2, w4⟩
theorem qT_undoF {M0 M : zM} {n i j : Nat} {c : tC} {e : Nat → Nat → List Nat} {b : Nat → Nat} {K p : List Nat} (h7 : n ≤ 7) (h : KS M0 n c e b K M) (hp : PQ n p) (ht : TR M n p) (hb : (b i).testBit j = true) : ∃ M', zf_Turns_undo [.ref 20, .int (nI (7 * i + j))] M = some (none, M') ∧ KS M0 n c e b K M' ∧ TR M' n (cp (iv n (e i j)) p) := by
  obtain ⟨t1, t2, _, _⟩ := h.2.1 i j hb
  obtain ⟨_, _, s3⟩ := h.2.2.2.1 i j hb
  have n0 := h.n
  obtain ⟨M1, e1, g1, g2⟩ := tr_loop (c' := zc_Turns_undo_1) (s' := zs_Turns_undo_1) (M := M) (n := n) (ls0 := fun x => [some (Value.ref (20)), some (Value.int (nI (7 * i + j))), some (Value.int (nI x))]) (f := fun x => px (e i j) (gd p x)) (fun x M' hx fr => by
      have z : M' 20 0 = nI n := (fr _ _ (by decide)).trans n0
      simp (disch := omega) [zc_Turns_undo_1, zmeth, xm_en, zret, zretz, zretv, zseq, zst, zinc, zkl, zskip, zk, zi, za, zbin, zdiv, zrem, zgi, zgr, zld, zldr, zlen, zn, zc, zcall, zcallv, zrcv, zdo, zdov, zpf, zpfc, zas, zasc, zmin, zmax, zcmp, zcz, zand_e, zor_e, zite_e, zbite_e, zif_e, znot_e, z_add, z_sub, z_mul, z_and, z_or, z_xor, z_shl, z_shr, zcpy, -List.getElem?_cons_succ, zg_0, zg_1, zg_2, zg_3, zg_4, zg_5, zg_6, zg_7, zg_8, zg_9, zc_lt, zc_le, zc_gt, zc_ge, zc_eq, zc_ne, zc_lt0, zc_ge0, zc_gt0, zc_eq0, zc_ne0, zb_ne, zb_eq, zb_01, z_00, z_01, z_11, zb_f, zb_T, zb_F, zbm1, zbm2, zbm5, zbm6, zbm3, zbm4, nI_clamp, zmod_n, pk_div, nI_ne0, pk_mul, nI_add, nI_1, zt_0, zt_12, zt_20, zt_26, zt_32, zf_0_0, zf_0_1, zf_0_2, zf_0_3, zf_0_4, zf_12_0, zf_12_1, zf_12_2, zf_12_4, zf_12_5, zf_20_1, zf_20_2, zf_20_3, zf_20_4, zf_20_6, zf_26_0, zf_26_1, zf_26_2, zf_26_3, zf_32_0, zf_32_1, zf_32_3, zf_32_4, zf_32_5, zf_32_6, z, hx]) (fun M' fr => by
      have z : M' 20 0 = nI n := (fr _ _ (by decide)).trans n0
      simp (disch := omega) [zc_Turns_undo_1, zmeth, xm_en, zret, zretz, zretv, zseq, zst, zinc, zkl, zskip, zk, zi, za, zbin, zdiv, zrem, zgi, zgr, zld, zldr, zlen, zn, zc, zcall, zcallv, zrcv, zdo, zdov, zpf, zpfc, zas, zasc, zmin, zmax, zcmp, zcz, zand_e, zor_e, zite_e, zbite_e, zif_e, znot_e, z_add, z_sub, z_mul, z_and, z_or, z_xor, z_shl, z_shr, zcpy, -List.getElem?_cons_succ, zg_0, zg_1, zg_2, zg_3, zg_4, zg_5, zg_6, zg_7, zg_8, zg_9, zc_lt, zc_le, zc_gt, zc_ge, zc_eq, zc_ne, zc_lt0, zc_ge0, zc_gt0, zc_eq0, zc_ne0, zb_ne, zb_eq, zb_01, z_00, z_01, z_11, zb_f, zb_T, zb_F, zbm1, zbm2, zbm5, zbm6, zbm3, zbm4, nI_clamp, zmod_n, pk_div, nI_ne0, pk_mul, nI_add, nI_1, zt_0, zt_12, zt_20, zt_26, zt_32, zf_0_0, zf_0_1, zf_0_2, zf_0_3, zf_0_4, zf_12_0, zf_12_1, zf_12_2, zf_12_4, zf_12_5, zf_20_1, zf_20_2, zf_20_3, zf_20_4, zf_20_6, zf_26_0, zf_26_1, zf_26_2, zf_26_3, zf_32_0, zf_32_1, zf_32_3, zf_32_4, zf_32_5, zf_32_6, z]) (fun x M' hx fr same => by
      have tx : M' 25 x = nI (gd p x) := (same x (Nat.le_refl x)).trans (ht x hx)
      have gx := hp.gl hx
      have rd := qT_rd (M := M') (k := 22) (p := 7 * i + j) (x := gd p x) rfl (by omega) (by omega)
      have v : M' 22 (7 * (7 * i + j) + gd p x) = nI (px (e i j) (gd p x)) := (fr _ _ (by decide)).trans (s3 _ gx)
      rw [v] at rd
      simp (disch := omega) [zs_Turns_undo_1, zmeth, xm_en, zret, zretz, zretv, zseq, zst, zinc, zkl, zskip, zk, zi, za, zbin, zdiv, zrem, zgi, zgr, zld, zldr, zlen, zn, zc, zcall, zcallv, zrcv, zdo, zdov, zpf, zpfc, zas, zasc, zmin, zmax, zcmp, zcz, zand_e, zor_e, zite_e, zbite_e, zif_e, znot_e, z_add, z_sub, z_mul, z_and, z_or, z_xor, z_shl, z_shr, zcpy, -List.getElem?_cons_succ, zg_0, zg_1, zg_2, zg_3, zg_4, zg_5, zg_6, zg_7, zg_8, zg_9, zc_lt, zc_le, zc_gt, zc_ge, zc_eq, zc_ne, zc_lt0, zc_ge0, zc_gt0, zc_eq0, zc_ne0, zb_ne, zb_eq, zb_01, z_00, z_01, z_11, zb_f, zb_T, zb_F, zbm1, zbm2, zbm5, zbm6, zbm3, zbm4, nI_clamp, zmod_n, pk_div, nI_ne0, pk_mul, nI_add, nI_1, zt_0, zt_12, zt_20, zt_26, zt_32, zf_0_0, zf_0_1, zf_0_2, zf_0_3, zf_0_4, zf_12_0, zf_12_1, zf_12_2, zf_12_4, zf_12_5, zf_20_1, zf_20_2, zf_20_3, zf_20_4, zf_20_6, zf_26_0, zf_26_1, zf_26_2, zf_26_3, zf_32_0, zf_32_1, zf_32_3, zf_32_4, zf_32_5, zf_32_6, zi_25, tx, rd])
  refine ⟨M1, by simp (disch := omega) [zf_Turns_undo, zmeth, xm_en, zret, zretz, zretv, zseq, zst, zinc, zkl, zskip, zk, zi, za, zbin, zdiv, zrem, zgi, zgr, zld, zldr, zlen, zn, zc, zcall, zcallv, zrcv, zdo, zdov, zpf, zpfc, zas, zasc, zmin, zmax, zcmp, zcz, zand_e, zor_e, zite_e, zbite_e, zif_e, znot_e, z_add, z_sub, z_mul, z_and, z_or, z_xor, z_shl, z_shr, zcpy, -List.getElem?_cons_succ, zg_0, zg_1, zg_2, zg_3, zg_4, zg_5, zg_6, zg_7, zg_8, zg_9, e1], h.fr g2, fun x hx => ?_⟩
  rw [g1 x hx, cp_gd hp hx]
  unfold iv
  rw [fl_gd (hp.gl hx)]
def eU (e : Nat → Nat → List Nat) (i j : Nat) (p : List Nat) : Nat → Nat → List Nat := fun a d => if a = i ∧ d = j then p else e a d
def bU (b : Nat → Nat) (i j : Nat) : Nat → Nat := fun a => if a = i then b i ||| 2 ^ j else b a
theorem bU_t {b : Nat → Nat} {i j a d : Nat} : (bU b i j a).testBit d = true ↔ (b a).testBit d = true ∨ a = i ∧ d = j := by
  unfold bU
  by_cases h : a = i
  · rw [if_pos h, Nat.testBit_or, Nat.testBit_two_pow, Bool.or_eq_true, decide_eq_true_eq, h]
    exact ⟨fun q => q.elim Or.inl (fun q => Or.inr ⟨rfl, q.symm⟩), fun q => q.elim Or.inl (fun q => Or.inr q.2.symm)⟩
  · rw [if_neg h]
    exact ⟨Or.inl, fun q => q.elim id (fun q => absurd q.1 h)⟩
theorem eU_ex {e : Nat → Nat → List Nat} {b : Nat → Nat} {i j : Nat} {p : List Nat} (nb : ¬ (b i).testBit j = true) : EX e b (eU e i j p) (bU b i j) := fun a d h => ⟨bU_t.mpr (Or.inl h), if_neg (fun z => nb (by rw [← z.1, ← z.2]; exact h))⟩
theorem qT_keepF {M0 M : zM} {n i j : Nat} {c : tC} {e : Nat → Nat → List Nat} {b : Nat → Nat} {K p : List Nat} (h7 : n ≤ 7) (h : KS M0 n c e b K M) (hp : PQ n p) (ht : TR M n p) (hij : i < j) (hj : j < n) (fx : ∀ x, x < i → gd p x = x) (pi : gd p i = j) (gh : GH n c p) (nb : ¬ (b i).testBit j = true) : ∃ M', zf_Turns_keep [.ref 20, .int (nI i), .int (nI j)] M = some (none, M') ∧ KS M0 n c (eU e i j p) (bU b i j) (K ++ [7 * i + j]) M' := by
  have nk : 7 * i + j ∉ K := fun z => by
    obtain ⟨_, q⟩ := h.pl h7 z
    have e1 : (7 * i + j) / 7 = i := by omega
    have e2 : (7 * i + j) % 7 = j := by omega
    rw [e1, e2] at q
    exact nb q
  have lk := (h.len h7).2 (7 * i + j) (by omega) nk
  obtain ⟨⟨a1, a2, a3⟩, a4, a5, a6, a7, a8, a9⟩ := h
  have bi := a5 i (by omega)
  have b8 : b i ||| 2 ^ j < 128 := Nat.or_lt_two_pow (n := 7) bi.2 (Nat.pow_lt_pow_right (by decide) (by omega))
  obtain ⟨r, ls, M1, w1, rfl, rfl, w2, w3⟩ := zwh_inv (c := zc_Turns_keep_1) (s := zs_Turns_keep_1) (fun x ls M' => ls = [some (Value.ref (20)), some (Value.int (nI i)), some (Value.int (nI j)), some (Value.int (nI (7 * i + j))), some (Value.int (nI x))] ∧ (∀ y, y < x → M' 21 (7 * (7 * i + j) + y) = nI (gd p y) ∧ M' 22 (7 * (7 * i + j) + gd p y) = nI y) ∧ ∀ q k, ¬ ((q = 21 ∨ q = 22) ∧ 7 * (7 * i + j) ≤ k ∧ k < 7 * (7 * i + j) + 7) → M' q k = zup M 23 i (nI (b i ||| 2 ^ j)) q k) (Q := fun r ls M' => r = none ∧ ls = [some (Value.ref (20)), some (Value.int (nI i)), some (Value.int (nI j)), some (Value.int (nI (7 * i + j))), some (Value.int (nI n))] ∧ (∀ y, y < n → M' 21 (7 * (7 * i + j) + y) = nI (gd p y) ∧ M' 22 (7 * (7 * i + j) + gd p y) = nI y) ∧ ∀ q k, ¬ ((q = 21 ∨ q = 22) ∧ 7 * (7 * i + j) ≤ k ∧ k < 7 * (7 * i + j) + 7) → M' q k = zup M 23 i (nI (b i ||| 2 ^ j)) q k) (n := n) (fun ls M' q => by
      obtain ⟨rfl, q1, q2⟩ := q
      have z : M' 20 0 = nI n := by rw [q2 _ _ (by omega), zup_e, if_neg (by omega)]; exact a1
      exact ⟨by simp (disch := omega) [zc_Turns_keep_1, zmeth, xm_en, zret, zretz, zretv, zseq, zst, zinc, zkl, zskip, zk, zi, za, zbin, zdiv, zrem, zgi, zgr, zld, zldr, zlen, zn, zc, zcall, zcallv, zrcv, zdo, zdov, zpf, zpfc, zas, zasc, zmin, zmax, zcmp, zcz, zand_e, zor_e, zite_e, zbite_e, zif_e, znot_e, z_add, z_sub, z_mul, z_and, z_or, z_xor, z_shl, z_shr, zcpy, -List.getElem?_cons_succ, zg_0, zg_1, zg_2, zg_3, zg_4, zg_5, zg_6, zg_7, zg_8, zg_9, zc_lt, zc_le, zc_gt, zc_ge, zc_eq, zc_ne, zc_lt0, zc_ge0, zc_gt0, zc_eq0, zc_ne0, zb_ne, zb_eq, zb_01, z_00, z_01, z_11, zb_f, zb_T, zb_F, zbm1, zbm2, zbm5, zbm6, zbm3, zbm4, nI_clamp, zmod_n, pk_div, nI_ne0, pk_mul, nI_add, nI_1, zt_0, zt_12, zt_20, zt_26, zt_32, zf_0_0, zf_0_1, zf_0_2, zf_0_3, zf_0_4, zf_12_0, zf_12_1, zf_12_2, zf_12_4, zf_12_5, zf_20_1, zf_20_2, zf_20_3, zf_20_4, zf_20_6, zf_26_0, zf_26_1, zf_26_2, zf_26_3, zf_32_0, zf_32_1, zf_32_3, zf_32_4, zf_32_5, zf_32_6, z], rfl, rfl, q1, q2⟩) n 0 (by omega) (fun x ls M' _ hx q => by
      obtain ⟨rfl, q1, q2⟩ := q
      have z : M' 20 0 = nI n := by rw [q2 _ _ (by omega), zup_e, if_neg (by omega)]; exact a1
      have tx : M' 25 x = nI (gd p x) := by rw [q2 _ _ (by omega), zup_e, if_neg (by omega)]; exact ht x hx
      have gx := hp.gl hx
      refine ⟨by simp (disch := omega) [zc_Turns_keep_1, zmeth, xm_en, zret, zretz, zretv, zseq, zst, zinc, zkl, zskip, zk, zi, za, zbin, zdiv, zrem, zgi, zgr, zld, zldr, zlen, zn, zc, zcall, zcallv, zrcv, zdo, zdov, zpf, zpfc, zas, zasc, zmin, zmax, zcmp, zcz, zand_e, zor_e, zite_e, zbite_e, zif_e, znot_e, z_add, z_sub, z_mul, z_and, z_or, z_xor, z_shl, z_shr, zcpy, -List.getElem?_cons_succ, zg_0, zg_1, zg_2, zg_3, zg_4, zg_5, zg_6, zg_7, zg_8, zg_9, zc_lt, zc_le, zc_gt, zc_ge, zc_eq, zc_ne, zc_lt0, zc_ge0, zc_gt0, zc_eq0, zc_ne0, zb_ne, zb_eq, zb_01, z_00, z_01, z_11, zb_f, zb_T, zb_F, zbm1, zbm2, zbm5, zbm6, zbm3, zbm4, nI_clamp, zmod_n, pk_div, nI_ne0, pk_mul, nI_add, nI_1, zt_0, zt_12, zt_20, zt_26, zt_32, zf_0_0, zf_0_1, zf_0_2, zf_0_3, zf_0_4, zf_12_0, zf_12_1, zf_12_2, zf_12_4, zf_12_5, zf_20_1, zf_20_2, zf_20_3, zf_20_4, zf_20_6, zf_26_0, zf_26_1, zf_26_2, zf_26_3, zf_32_0, zf_32_1, zf_32_3, zf_32_4, zf_32_5, zf_32_6, z, hx], ?_⟩
      have e1 := qT_wr (M := M') (k := 21) (p := 7 * i + j) (x := x) (v := nI (gd p x)) rfl (by omega) (by omega)
      have tx2 : zup M' 21 (7 * (7 * i + j) + x) (nI (gd p x)) 25 x = nI (gd p x) := by rw [zup_e, if_neg (by omega)]; exact tx
      have e2 := qT_wr (M := zup M' 21 (7 * (7 * i + j) + x) (nI (gd p x))) (k := 22) (p := 7 * i + j) (x := gd p x) (v := nI x) rfl (by omega) (by omega)
      refine ⟨none, _, zup (zup M' 21 (7 * (7 * i + j) + x) (nI (gd p x))) 22 (7 * (7 * i + j) + gd p x) (nI x), by simp (disch := omega) [zs_Turns_keep_1, zmeth, xm_en, zret, zretz, zretv, zseq, zst, zinc, zkl, zskip, zk, zi, za, zbin, zdiv, zrem, zgi, zgr, zld, zldr, zlen, zn, zc, zcall, zcallv, zrcv, zdo, zdov, zpf, zpfc, zas, zasc, zmin, zmax, zcmp, zcz, zand_e, zor_e, zite_e, zbite_e, zif_e, znot_e, z_add, z_sub, z_mul, z_and, z_or, z_xor, z_shl, z_shr, zcpy, -List.getElem?_cons_succ, zg_0, zg_1, zg_2, zg_3, zg_4, zg_5, zg_6, zg_7, zg_8, zg_9, zc_lt, zc_le, zc_gt, zc_ge, zc_eq, zc_ne, zc_lt0, zc_ge0, zc_gt0, zc_eq0, zc_ne0, zb_ne, zb_eq, zb_01, z_00, z_01, z_11, zb_f, zb_T, zb_F, zbm1, zbm2, zbm5, zbm6, zbm3, zbm4, nI_clamp, zmod_n, pk_div, nI_ne0, pk_mul, nI_add, nI_1, zt_0, zt_12, zt_20, zt_26, zt_32, zf_0_0, zf_0_1, zf_0_2, zf_0_3, zf_0_4, zf_12_0, zf_12_1, zf_12_2, zf_12_4, zf_12_5, zf_20_1, zf_20_2, zf_20_3, zf_20_4, zf_20_6, zf_26_0, zf_26_1, zf_26_2, zf_26_3, zf_32_0, zf_32_1, zf_32_3, zf_32_4, zf_32_5, zf_32_6, zi_25, tx, tx2, e1, e2], rfl, fun y hy => ?_, fun q k hq => ?_⟩
      · by_cases ey : y = x
        · subst ey
          exact ⟨by rw [zup_e, if_neg (by omega), zup_e, if_pos ⟨rfl, rfl⟩], by rw [zup_e, if_pos ⟨rfl, rfl⟩]⟩
        · have := q1 y (by omega)
          have ne : gd p y ≠ gd p x := fun w => ey (hp.inj (by omega) hx w)
          exact ⟨by rw [zup_e, if_neg (by omega), zup_e, if_neg (by omega)]; exact this.1, by rw [zup_e, if_neg (by omega), zup_e, if_neg (by omega)]; exact this.2⟩
      · rw [zup_e, if_neg (by omega), zup_e, if_neg (by omega)]
        exact q2 q k hq) [some (Value.ref (20)), some (Value.int (nI i)), some (Value.int (nI j)), some (Value.int (nI (7 * i + j))), some (Value.int (nI 0))] (zup M 23 i (nI (b i ||| 2 ^ j))) ⟨rfl, fun y hy => absurd hy (Nat.not_lt_zero y), fun _ _ _ => rfl⟩
  have oth : ∀ q k, q ≠ 21 → q ≠ 22 → ¬ (q = 23 ∧ k = i) → M1 q k = M q k := fun q k x1 x2 x3 => by rw [w3 q k (by omega), zup_e, if_neg x3]
  refine ⟨zup (zup M1 24 K.length (nI (7 * i + j))) 20 5 (nI (K.length + 1)), ?_, ⟨?_, ?_, fun q k hq => ?_⟩, fun a d q => ?_, fun a ha => ?_, fun a d q => ?_, ?_, fun m hm => ?_, fun k => ?_⟩
  · have e7 : nI 7 * nI i = nI (7 * i) := pk_mul 7 i
    have ea : nI (7 * i) + nI j = nI (7 * i + j) := nI_add _ _
    have es := nI_shl1 (v := j) (by omega)
    have eo := nI_or (b i) (2 ^ j)
    have k1 : M1 20 5 = nI K.length := (oth _ _ (by decide) (by decide) (by omega)).trans a2
    have k2 : zup M1 24 K.length (nI (7 * i + j)) 20 5 = nI K.length := by rw [zup_e, if_neg (by omega)]; exact k1
    simp (disch := omega) [zf_Turns_keep, zmeth, xm_en, zret, zretz, zretv, zseq, zst, zinc, zkl, zskip, zk, zi, za, zbin, zdiv, zrem, zgi, zgr, zld, zldr, zlen, zn, zc, zcall, zcallv, zrcv, zdo, zdov, zpf, zpfc, zas, zasc, zmin, zmax, zcmp, zcz, zand_e, zor_e, zite_e, zbite_e, zif_e, znot_e, z_add, z_sub, z_mul, z_and, z_or, z_xor, z_shl, z_shr, zcpy, -List.getElem?_cons_succ, zg_0, zg_1, zg_2, zg_3, zg_4, zg_5, zg_6, zg_7, zg_8, zg_9, zc_lt, zc_le, zc_gt, zc_ge, zc_eq, zc_ne, zc_lt0, zc_ge0, zc_gt0, zc_eq0, zc_ne0, zb_ne, zb_eq, zb_01, z_00, z_01, z_11, zb_f, zb_T, zb_F, zbm1, zbm2, zbm5, zbm6, zbm3, zbm4, nI_clamp, zmod_n, pk_div, nI_ne0, pk_mul, nI_add, nI_1, zt_0, zt_12, zt_20, zt_26, zt_32, zf_0_0, zf_0_1, zf_0_2, zf_0_3, zf_0_4, zf_12_0, zf_12_1, zf_12_2, zf_12_4, zf_12_5, zf_20_1, zf_20_2, zf_20_3, zf_20_4, zf_20_6, zf_26_0, zf_26_1, zf_26_2, zf_26_3, zf_32_0, zf_32_1, zf_32_3, zf_32_4, zf_32_5, zf_32_6, a2, lk, zi_23, zi_24, nI_clamp, bi.1, es, eo, w1, k1, k2]
  · rw [zup_e, if_neg (by omega), zup_e, if_neg (by omega), oth _ _ (by decide) (by decide) (by omega)]
    exact a1
  · rw [zup_e, if_pos ⟨rfl, rfl⟩, List.length_append, List.length_singleton]
  · rw [zup_e, if_neg (by omega), zup_e, if_neg (by omega), oth q k (by omega) (by omega) (by omega)]
    exact a3 q k hq
  · by_cases z : a = i ∧ d = j
    · obtain ⟨rfl, rfl⟩ := z
      have ee : eU e a d p a d = p := if_pos ⟨rfl, rfl⟩
      rw [ee]
      exact ⟨⟨hij, hj⟩, hp, fx, pi⟩
    · have ee : eU e i j p a d = e a d := if_neg z
      rw [ee]
      exact a4 a d ((bU_t.mp q).elim id (fun w => absurd w z))
  · rw [zup_e, if_neg (by omega), zup_e, if_neg (by omega), w3 _ _ (by omega), zup_e]
    unfold bU
    by_cases z : a = i
    · rw [if_pos ⟨rfl, z⟩, if_pos z]
      exact ⟨rfl, b8⟩
    · rw [if_neg (fun w => z w.2), if_neg z]
      exact a5 a ha
  · by_cases z : a = i ∧ d = j
    · obtain ⟨rfl, rfl⟩ := z
      have ee : eU e a d p a d = p := if_pos ⟨rfl, rfl⟩
      rw [ee]
      refine ⟨gh, fun x hx => ?_, fun x hx => ?_⟩
      · rw [zup_e, if_neg (by omega), zup_e, if_neg (by omega)]
        exact (w2 x hx).1
      · rw [zup_e, if_neg (by omega), zup_e, if_neg (by omega)]
        have := (w2 _ (hp.pl hx)).2
        rw [hp.gp hx] at this
        exact this
    · have ee : eU e i j p a d = e a d := if_neg z
      have q' := (bU_t.mp q).elim id (fun w => absurd w z)
      have t := (a4 a d q').1
      obtain ⟨s1, s2, s3⟩ := a6 a d q'
      have ne : ¬ 7 * a + d = 7 * i + j := fun w => z (by omega)
      rw [ee]
      refine ⟨s1, fun x hx => ?_, fun x hx => ?_⟩
      · rw [zup_e, if_neg (by omega), zup_e, if_neg (by omega), w3 _ _ (by omega), zup_e, if_neg (by omega)]
        exact s2 x hx
      · rw [zup_e, if_neg (by omega), zup_e, if_neg (by omega), w3 _ _ (by omega), zup_e, if_neg (by omega)]
        exact s3 x hx
  · rw [List.nodup_append]
    refine ⟨a7, List.nodup_cons.mpr ⟨List.not_mem_nil, List.nodup_nil⟩, fun x hx y hy w => ?_⟩
    rw [List.mem_singleton] at hy
    subst w
    subst hy
    exact nk hx
  · rw [List.length_append, List.length_singleton] at hm
    rw [zup_e, if_neg (by omega), zup_e]
    by_cases z : m = K.length
    · rw [if_pos ⟨rfl, z⟩, z, gd_new]
    · rw [if_neg (fun w => z w.2), gd_app (by omega), oth _ _ (by decide) (by decide) (by omega)]
      exact a8 m (by omega)
  · rw [List.mem_append, List.mem_singleton, a9 k]
    constructor
    · intro q
      rcases q with ⟨x, y, q1, q2⟩ | q
      · exact ⟨x, y, bU_t.mpr (Or.inl q1), q2⟩
      · exact ⟨i, j, bU_t.mpr (Or.inr ⟨rfl, rfl⟩), q⟩
    · intro ⟨x, y, q1, q2⟩
      rcases bU_t.mp q1 with q1 | ⟨rfl, rfl⟩
      · exact Or.inl ⟨x, y, q1, q2⟩
      · exact Or.inr q2
/-! group: the class's take, its turns and products -/
/-- the tables only grow -/
def GR (M0 : zM) (n : Nat) (c : tC) (e : Nat → Nat → List Nat) (b : Nat → Nat) (K : List Nat) (P : (Nat → Nat → List Nat) → (Nat → Nat) → List Nat → Prop) (M : zM) : Prop := ∃ e' b' K', KS M0 n c e' b' K' M ∧ EX e b e' b' ∧ (∃ W, K' = K ++ W) ∧ P e' b' K'
theorem qT_takeF {M0 M : zM} {n : Nat} {c : tC} {e : Nat → Nat → List Nat} {b : Nat → Nat} {K p : List Nat} (h7 : n ≤ 7) (h : KS M0 n c e b K M) (hp : PQ n p) (ht : TR M n p) (gh : GH n c p) : ∃ M', zf_Turns_take [.ref 20] M = some (none, M') ∧ GR M0 n c e b K (fun e' b' _ => RR n e' b' n 0 p) M' := by
  obtain ⟨r, ls, M1, e1, hr, g1⟩ := zwh_inv (c := zc_Turns_take_1) (s := zs_Turns_take_1) (fun i ls M' => ls = [some (Value.ref (20)), some (Value.int (nI i)), none] ∧ ∃ u, PQ n u ∧ TR M' n u ∧ (∀ x, x < i → gd u x = x) ∧ GH n c u ∧ KS M0 n c e b K M' ∧ ∀ e' b', TB n e' b' → EX e b e' b' → RR n e' b' (n - i) i u → RR n e' b' n 0 p) (Q := fun r ls M' => (r = none ∨ r = some none) ∧ GR M0 n c e b K (fun e' b' _ => RR n e' b' n 0 p) M') (n := n) (fun ls M' q => by
      obtain ⟨rfl, u, u1, u2, u3, u4, u5, u6⟩ := q
      have n0 := u5.n
      refine ⟨by simp (disch := omega) [zc_Turns_take_1, zmeth, xm_en, zret, zretz, zretv, zseq, zst, zinc, zkl, zskip, zk, zi, za, zbin, zdiv, zrem, zgi, zgr, zld, zldr, zlen, zn, zc, zcall, zcallv, zrcv, zdo, zdov, zpf, zpfc, zas, zasc, zmin, zmax, zcmp, zcz, zand_e, zor_e, zite_e, zbite_e, zif_e, znot_e, z_add, z_sub, z_mul, z_and, z_or, z_xor, z_shl, z_shr, zcpy, -List.getElem?_cons_succ, zg_0, zg_1, zg_2, zg_3, zg_4, zg_5, zg_6, zg_7, zg_8, zg_9, zc_lt, zc_le, zc_gt, zc_ge, zc_eq, zc_ne, zc_lt0, zc_ge0, zc_gt0, zc_eq0, zc_ne0, zb_ne, zb_eq, zb_01, z_00, z_01, z_11, zb_f, zb_T, zb_F, zbm1, zbm2, zbm5, zbm6, zbm3, zbm4, nI_clamp, zmod_n, pk_div, nI_ne0, pk_mul, nI_add, nI_1, zt_0, zt_12, zt_20, zt_26, zt_32, zf_0_0, zf_0_1, zf_0_2, zf_0_3, zf_0_4, zf_12_0, zf_12_1, zf_12_2, zf_12_4, zf_12_5, zf_20_1, zf_20_2, zf_20_3, zf_20_4, zf_20_6, zf_26_0, zf_26_1, zf_26_2, zf_26_3, zf_32_0, zf_32_1, zf_32_3, zf_32_4, zf_32_5, zf_32_6, n0], Or.inl rfl, e, b, K, u5, EX.refl e b, ⟨[], (List.append_nil K).symm⟩, u6 e b u5.2.1 (EX.refl e b) ?_⟩
      rw [Nat.sub_self]
      exact PQ.ext u1 id_PQ (fun i hi => by rw [u3 i hi, gd_rg hi])) n 0 (by omega) (fun i ls M' _ hi q => by
      obtain ⟨rfl, u, u1, u2, u3, u4, u5, u6⟩ := q
      have n0 := u5.n
      refine ⟨by simp (disch := omega) [zc_Turns_take_1, zmeth, xm_en, zret, zretz, zretv, zseq, zst, zinc, zkl, zskip, zk, zi, za, zbin, zdiv, zrem, zgi, zgr, zld, zldr, zlen, zn, zc, zcall, zcallv, zrcv, zdo, zdov, zpf, zpfc, zas, zasc, zmin, zmax, zcmp, zcz, zand_e, zor_e, zite_e, zbite_e, zif_e, znot_e, z_add, z_sub, z_mul, z_and, z_or, z_xor, z_shl, z_shr, zcpy, -List.getElem?_cons_succ, zg_0, zg_1, zg_2, zg_3, zg_4, zg_5, zg_6, zg_7, zg_8, zg_9, zc_lt, zc_le, zc_gt, zc_ge, zc_eq, zc_ne, zc_lt0, zc_ge0, zc_gt0, zc_eq0, zc_ne0, zb_ne, zb_eq, zb_01, z_00, z_01, z_11, zb_f, zb_T, zb_F, zbm1, zbm2, zbm5, zbm6, zbm3, zbm4, nI_clamp, zmod_n, pk_div, nI_ne0, pk_mul, nI_add, nI_1, zt_0, zt_12, zt_20, zt_26, zt_32, zf_0_0, zf_0_1, zf_0_2, zf_0_3, zf_0_4, zf_12_0, zf_12_1, zf_12_2, zf_12_4, zf_12_5, zf_20_1, zf_20_2, zf_20_3, zf_20_4, zf_20_6, zf_26_0, zf_26_1, zf_26_2, zf_26_3, zf_32_0, zf_32_1, zf_32_3, zf_32_4, zf_32_5, zf_32_6, n0, hi], ?_⟩
      have ti := u2 i hi
      have gi := u1.gl hi
      have ni : n - i = n - (i + 1) + 1 := by omega
      by_cases hj : gd u i = i
      · rw [hj] at ti
        refine ⟨none, [some (Value.ref (20)), some (Value.int (nI (i + 1))), none], M', by simp (disch := omega) [zs_Turns_take_1, zmeth, xm_en, zret, zretz, zretv, zseq, zst, zinc, zkl, zskip, zk, zi, za, zbin, zdiv, zrem, zgi, zgr, zld, zldr, zlen, zn, zc, zcall, zcallv, zrcv, zdo, zdov, zpf, zpfc, zas, zasc, zmin, zmax, zcmp, zcz, zand_e, zor_e, zite_e, zbite_e, zif_e, znot_e, z_add, z_sub, z_mul, z_and, z_or, z_xor, z_shl, z_shr, zcpy, -List.getElem?_cons_succ, zg_0, zg_1, zg_2, zg_3, zg_4, zg_5, zg_6, zg_7, zg_8, zg_9, zc_lt, zc_le, zc_gt, zc_ge, zc_eq, zc_ne, zc_lt0, zc_ge0, zc_gt0, zc_eq0, zc_ne0, zb_ne, zb_eq, zb_01, z_00, z_01, z_11, zb_f, zb_T, zb_F, zbm1, zbm2, zbm5, zbm6, zbm3, zbm4, nI_clamp, zmod_n, pk_div, nI_ne0, pk_mul, nI_add, nI_1, zt_0, zt_12, zt_20, zt_26, zt_32, zf_0_0, zf_0_1, zf_0_2, zf_0_3, zf_0_4, zf_12_0, zf_12_1, zf_12_2, zf_12_4, zf_12_5, zf_20_1, zf_20_2, zf_20_3, zf_20_4, zf_20_6, zf_26_0, zf_26_1, zf_26_2, zf_26_3, zf_32_0, zf_32_1, zf_32_3, zf_32_4, zf_32_5, zf_32_6, zi_25, ti], rfl, u, u1, u2, fun x hx => ?_, u4, u5, fun e' b' t x q => u6 e' b' t x (by rw [ni]; exact RR.up t q)⟩
        by_cases z : x = i
        · rw [z]
          exact hj
        · exact u3 x (by omega)
      · generalize hgj : gd u i = j at ti gi hj
        have lt : i < j := by
          rcases Nat.lt_trichotomy i j with z | z | z
          · exact z
          · exact absurd z.symm hj
          · have := u3 j z
            rw [← hgj] at this
            have := u1.inj (by rw [hgj]; exact gi) hi this
            omega
        have bl := zlt_y (show j < 7 by omega) (show 7 < 2 ^ 31 by decide)
        have bi := u5.2.2.1 i (by omega)
        have b23 := bi.1
        have bt := nI_bit (n := b i) (v := j) (by have := bi.2; omega) (by omega)
        cases hb : (b i).testBit j with
        | false =>
          rw [hb] at bt
          have nb : ¬ (b i).testBit j = true := by rw [hb]; decide
          obtain ⟨M2, e2, k2⟩ := qT_keepF h7 u5 u1 u2 lt gi u3 hgj u4 nb
          have ex := eU_ex (e := e) (p := u) nb
          refine ⟨some none, _, M2, by simp (disch := omega) [zs_Turns_take_1, zmeth, xm_en, zret, zretz, zretv, zseq, zst, zinc, zkl, zskip, zk, zi, za, zbin, zdiv, zrem, zgi, zgr, zld, zldr, zlen, zn, zc, zcall, zcallv, zrcv, zdo, zdov, zpf, zpfc, zas, zasc, zmin, zmax, zcmp, zcz, zand_e, zor_e, zite_e, zbite_e, zif_e, znot_e, z_add, z_sub, z_mul, z_and, z_or, z_xor, z_shl, z_shr, zcpy, -List.getElem?_cons_succ, zg_0, zg_1, zg_2, zg_3, zg_4, zg_5, zg_6, zg_7, zg_8, zg_9, zc_lt, zc_le, zc_gt, zc_ge, zc_eq, zc_ne, zc_lt0, zc_ge0, zc_gt0, zc_eq0, zc_ne0, zb_ne, zb_eq, zb_01, z_00, z_01, z_11, zb_f, zb_T, zb_F, zbm1, zbm2, zbm5, zbm6, zbm3, zbm4, nI_clamp, zmod_n, pk_div, nI_ne0, pk_mul, nI_add, nI_1, zt_0, zt_12, zt_20, zt_26, zt_32, zf_0_0, zf_0_1, zf_0_2, zf_0_3, zf_0_4, zf_12_0, zf_12_1, zf_12_2, zf_12_4, zf_12_5, zf_20_1, zf_20_2, zf_20_3, zf_20_4, zf_20_6, zf_26_0, zf_26_1, zf_26_2, zf_26_3, zf_32_0, zf_32_1, zf_32_3, zf_32_4, zf_32_5, zf_32_6, zi_25, zi_23, ti, hj, qL_isBelow, bl, b23, bt, e2]; rfl, Or.inr rfl, _, _, _, k2, ex, ⟨_, rfl⟩, u6 _ _ k2.2.1 ex ?_⟩
          rw [ni]
          exact RR.kept k2.2.1 (Or.inr ⟨j, bU_t.mpr (Or.inr ⟨rfl, rfl⟩), (if_pos ⟨rfl, rfl⟩).symm⟩)
        | true =>
          rw [hb] at bt
          obtain ⟨M2, e2, k2, t2⟩ := qT_undoF h7 u5 u1 u2 hb
          obtain ⟨_, x2, x3, x4⟩ := u5.2.1 i j hb
          have gk := (u5.2.2.2.1 i j hb).1
          have fix : ∀ x, x < i + 1 → gd (cp (iv n (e i j)) u) x = x := fun x hx => by
            rw [cp_gd u1 (by omega)]
            unfold iv
            rw [fl_gd (u1.gl (by omega))]
            by_cases z : x = i
            · subst z
              rw [hgj]
              have w := x2.pg hi
              rw [x4] at w
              exact w
            · rw [u3 x (by omega)]
              have := x2.pg (i := x) (by omega)
              rw [x3 x (by omega)] at this
              exact this
          have hc := GH_HC n c
          refine ⟨none, [some (Value.ref (20)), some (Value.int (nI (i + 1))), none], M2, by simp (disch := omega) [zs_Turns_take_1, zmeth, xm_en, zret, zretz, zretv, zseq, zst, zinc, zkl, zskip, zk, zi, za, zbin, zdiv, zrem, zgi, zgr, zld, zldr, zlen, zn, zc, zcall, zcallv, zrcv, zdo, zdov, zpf, zpfc, zas, zasc, zmin, zmax, zcmp, zcz, zand_e, zor_e, zite_e, zbite_e, zif_e, znot_e, z_add, z_sub, z_mul, z_and, z_or, z_xor, z_shl, z_shr, zcpy, -List.getElem?_cons_succ, zg_0, zg_1, zg_2, zg_3, zg_4, zg_5, zg_6, zg_7, zg_8, zg_9, zc_lt, zc_le, zc_gt, zc_ge, zc_eq, zc_ne, zc_lt0, zc_ge0, zc_gt0, zc_eq0, zc_ne0, zb_ne, zb_eq, zb_01, z_00, z_01, z_11, zb_f, zb_T, zb_F, zbm1, zbm2, zbm5, zbm6, zbm3, zbm4, nI_clamp, zmod_n, pk_div, nI_ne0, pk_mul, nI_add, nI_1, zt_0, zt_12, zt_20, zt_26, zt_32, zf_0_0, zf_0_1, zf_0_2, zf_0_3, zf_0_4, zf_12_0, zf_12_1, zf_12_2, zf_12_4, zf_12_5, zf_20_1, zf_20_2, zf_20_3, zf_20_4, zf_20_6, zf_26_0, zf_26_1, zf_26_2, zf_26_3, zf_32_0, zf_32_1, zf_32_3, zf_32_4, zf_32_5, zf_32_6, zi_25, zi_23, ti, hj, qL_isBelow, bl, b23, bt, e2], rfl, cp (iv n (e i j)) u, cp_PQ (iv_PQ x2) u1, t2, fix, hc.2.1 _ _ (iv_PQ x2) u1 (hc.2.2.1 _ x2 gk) u4, k2, fun e' b' t x q => u6 e' b' t x ?_⟩
          rw [ni]
          refine ⟨e i j, cp (iv n (e i j)) u, Or.inr ⟨j, (x i j hb).1, (x i j hb).2.symm⟩, q, ?_⟩
          rw [← cp_as x2 (iv_PQ x2) u1, cp_iv x2, id_cp u1]) [some (Value.ref (20)), some (Value.int (nI 0)), none] M ⟨rfl, p, hp, ht, fun x hx => absurd hx (Nat.not_lt_zero x), gh, h, fun e' b' _ _ q => q⟩
  refine ⟨M1, ?_, g1⟩
  rcases hr with rfl | rfl
  · simp (disch := omega) [zf_Turns_take, zmeth, xm_en, zret, zretz, zretv, zseq, zst, zinc, zkl, zskip, zk, zi, za, zbin, zdiv, zrem, zgi, zgr, zld, zldr, zlen, zn, zc, zcall, zcallv, zrcv, zdo, zdov, zpf, zpfc, zas, zasc, zmin, zmax, zcmp, zcz, zand_e, zor_e, zite_e, zbite_e, zif_e, znot_e, z_add, z_sub, z_mul, z_and, z_or, z_xor, z_shl, z_shr, zcpy, -List.getElem?_cons_succ, zg_0, zg_1, zg_2, zg_3, zg_4, zg_5, zg_6, zg_7, zg_8, zg_9, e1]
  · simp (disch := omega) [zf_Turns_take, zmeth, xm_en, zret, zretz, zretv, zseq, zst, zinc, zkl, zskip, zk, zi, za, zbin, zdiv, zrem, zgi, zgr, zld, zldr, zlen, zn, zc, zcall, zcallv, zrcv, zdo, zdov, zpf, zpfc, zas, zasc, zmin, zmax, zcmp, zcz, zand_e, zor_e, zite_e, zbite_e, zif_e, znot_e, z_add, z_sub, z_mul, z_and, z_or, z_xor, z_shl, z_shr, zcpy, -List.getElem?_cons_succ, zg_0, zg_1, zg_2, zg_3, zg_4, zg_5, zg_6, zg_7, zg_8, zg_9, e1]
theorem KS.kT {M0 M : zM} {n k n' : Nat} {c c' : tC} {e : Nat → Nat → List Nat} {b : Nat → Nat} {K : List Nat} (h : KS M0 n c e b K M) (hk : k < 10) (ht : kT M0 k n' c') : kT M k n' c' := ht.same (fun j => h.1.2.2 _ _ (by omega)) (fun j => h.1.2.2 _ _ (by omega))
theorem qT_takeTurnsF {M0 M : zM} {n k : Nat} {c : tC} {e : Nat → Nat → List Nat} {b : Nat → Nat} {K : List Nat} (h7 : n ≤ 7) (hk : ztb k) (hk2 : k < 10) (ho : tO n c) (hf : tF n c) (ht : kT M0 k n c) (h : KS M0 n c e b K M) : ∃ M', zf_Turns_takeTurns [.ref 20, .ref k] M = some (none, M') ∧ ∃ e' b' K', KS M0 n c e' b' K' M' ∧ ∀ a, 1 ≤ a → a < n → RR n e' b' n 0 (La n c a) ∧ RR n e' b' n 0 (Ra n c a) := by
  have h1 := ho.1.1
  have h8 : n ≤ 8 := by omega
  have gc := GH_HC n c
  obtain ⟨M1, e1, g1⟩ := zwh_inv (c := zc_Turns_takeTurns_1) (s := zs_Turns_takeTurns_1) (fun a ls M' => ls = [some (Value.ref (20)), some (Value.ref (k)), some (Value.int (nI a)), none] ∧ ∃ e' b' K', KS M0 n c e' b' K' M' ∧ ∀ a', 1 ≤ a' → a' < a → RR n e' b' n 0 (La n c a') ∧ RR n e' b' n 0 (Ra n c a')) (Q := fun r ls M' => r = none ∧ ls = [some (Value.ref (20)), some (Value.ref (k)), some (Value.int (nI n)), none] ∧ ∃ e' b' K', KS M0 n c e' b' K' M' ∧ ∀ a, 1 ≤ a → a < n → RR n e' b' n 0 (La n c a) ∧ RR n e' b' n 0 (Ra n c a)) (n := n) (fun ls M' q => by
      obtain ⟨rfl, e', b', K', q1, q2⟩ := q
      have n0 := q1.n
      exact ⟨by simp (disch := omega) [zc_Turns_takeTurns_1, zmeth, xm_en, zret, zretz, zretv, zseq, zst, zinc, zkl, zskip, zk, zi, za, zbin, zdiv, zrem, zgi, zgr, zld, zldr, zlen, zn, zc, zcall, zcallv, zrcv, zdo, zdov, zpf, zpfc, zas, zasc, zmin, zmax, zcmp, zcz, zand_e, zor_e, zite_e, zbite_e, zif_e, znot_e, z_add, z_sub, z_mul, z_and, z_or, z_xor, z_shl, z_shr, zcpy, -List.getElem?_cons_succ, zg_0, zg_1, zg_2, zg_3, zg_4, zg_5, zg_6, zg_7, zg_8, zg_9, zc_lt, zc_le, zc_gt, zc_ge, zc_eq, zc_ne, zc_lt0, zc_ge0, zc_gt0, zc_eq0, zc_ne0, zb_ne, zb_eq, zb_01, z_00, z_01, z_11, zb_f, zb_T, zb_F, zbm1, zbm2, zbm5, zbm6, zbm3, zbm4, nI_clamp, zmod_n, pk_div, nI_ne0, pk_mul, nI_add, nI_1, zt_0, zt_12, zt_20, zt_26, zt_32, zf_0_0, zf_0_1, zf_0_2, zf_0_3, zf_0_4, zf_12_0, zf_12_1, zf_12_2, zf_12_4, zf_12_5, zf_20_1, zf_20_2, zf_20_3, zf_20_4, zf_20_6, zf_26_0, zf_26_1, zf_26_2, zf_26_3, zf_32_0, zf_32_1, zf_32_3, zf_32_4, zf_32_5, zf_32_6, n0], rfl, rfl, e', b', K', q1, q2⟩) (n - 1) 1 (by omega) (fun a ls M' _ ha q => by
      obtain ⟨rfl, e', b', K', q1, q2⟩ := q
      have n0 := q1.n
      refine ⟨by simp (disch := omega) [zc_Turns_takeTurns_1, zmeth, xm_en, zret, zretz, zretv, zseq, zst, zinc, zkl, zskip, zk, zi, za, zbin, zdiv, zrem, zgi, zgr, zld, zldr, zlen, zn, zc, zcall, zcallv, zrcv, zdo, zdov, zpf, zpfc, zas, zasc, zmin, zmax, zcmp, zcz, zand_e, zor_e, zite_e, zbite_e, zif_e, znot_e, z_add, z_sub, z_mul, z_and, z_or, z_xor, z_shl, z_shr, zcpy, -List.getElem?_cons_succ, zg_0, zg_1, zg_2, zg_3, zg_4, zg_5, zg_6, zg_7, zg_8, zg_9, zc_lt, zc_le, zc_gt, zc_ge, zc_eq, zc_ne, zc_lt0, zc_ge0, zc_gt0, zc_eq0, zc_ne0, zb_ne, zb_eq, zb_01, z_00, z_01, z_11, zb_f, zb_T, zb_F, zbm1, zbm2, zbm5, zbm6, zbm3, zbm4, nI_clamp, zmod_n, pk_div, nI_ne0, pk_mul, nI_add, nI_1, zt_0, zt_12, zt_20, zt_26, zt_32, zf_0_0, zf_0_1, zf_0_2, zf_0_3, zf_0_4, zf_12_0, zf_12_1, zf_12_2, zf_12_4, zf_12_5, zf_20_1, zf_20_2, zf_20_3, zf_20_4, zf_20_6, zf_26_0, zf_26_1, zf_26_2, zf_26_3, zf_32_0, zf_32_1, zf_32_3, zf_32_4, zf_32_5, zf_32_6, n0, ha], ?_⟩
      obtain ⟨M2, e2, i2, s2⟩ := tr_loop (c' := zc_Turns_takeTurns_2) (s' := zs_Turns_takeTurns_2) (M := M') (n := n) (ls0 := fun x => [some (Value.ref (20)), some (Value.ref (k)), some (Value.int (nI a)), some (Value.int (nI x))]) (f := fun x => c a x) (fun x M3 hx fr => by
          have z : M3 20 0 = nI n := (fr _ _ (by decide)).trans n0
          simp (disch := omega) [zc_Turns_takeTurns_2, zmeth, xm_en, zret, zretz, zretv, zseq, zst, zinc, zkl, zskip, zk, zi, za, zbin, zdiv, zrem, zgi, zgr, zld, zldr, zlen, zn, zc, zcall, zcallv, zrcv, zdo, zdov, zpf, zpfc, zas, zasc, zmin, zmax, zcmp, zcz, zand_e, zor_e, zite_e, zbite_e, zif_e, znot_e, z_add, z_sub, z_mul, z_and, z_or, z_xor, z_shl, z_shr, zcpy, -List.getElem?_cons_succ, zg_0, zg_1, zg_2, zg_3, zg_4, zg_5, zg_6, zg_7, zg_8, zg_9, zc_lt, zc_le, zc_gt, zc_ge, zc_eq, zc_ne, zc_lt0, zc_ge0, zc_gt0, zc_eq0, zc_ne0, zb_ne, zb_eq, zb_01, z_00, z_01, z_11, zb_f, zb_T, zb_F, zbm1, zbm2, zbm5, zbm6, zbm3, zbm4, nI_clamp, zmod_n, pk_div, nI_ne0, pk_mul, nI_add, nI_1, zt_0, zt_12, zt_20, zt_26, zt_32, zf_0_0, zf_0_1, zf_0_2, zf_0_3, zf_0_4, zf_12_0, zf_12_1, zf_12_2, zf_12_4, zf_12_5, zf_20_1, zf_20_2, zf_20_3, zf_20_4, zf_20_6, zf_26_0, zf_26_1, zf_26_2, zf_26_3, zf_32_0, zf_32_1, zf_32_3, zf_32_4, zf_32_5, zf_32_6, z, hx]) (fun M3 fr => by
          have z : M3 20 0 = nI n := (fr _ _ (by decide)).trans n0
          simp (disch := omega) [zc_Turns_takeTurns_2, zmeth, xm_en, zret, zretz, zretv, zseq, zst, zinc, zkl, zskip, zk, zi, za, zbin, zdiv, zrem, zgi, zgr, zld, zldr, zlen, zn, zc, zcall, zcallv, zrcv, zdo, zdov, zpf, zpfc, zas, zasc, zmin, zmax, zcmp, zcz, zand_e, zor_e, zite_e, zbite_e, zif_e, znot_e, z_add, z_sub, z_mul, z_and, z_or, z_xor, z_shl, z_shr, zcpy, -List.getElem?_cons_succ, zg_0, zg_1, zg_2, zg_3, zg_4, zg_5, zg_6, zg_7, zg_8, zg_9, zc_lt, zc_le, zc_gt, zc_ge, zc_eq, zc_ne, zc_lt0, zc_ge0, zc_gt0, zc_eq0, zc_ne0, zb_ne, zb_eq, zb_01, z_00, z_01, z_11, zb_f, zb_T, zb_F, zbm1, zbm2, zbm5, zbm6, zbm3, zbm4, nI_clamp, zmod_n, pk_div, nI_ne0, pk_mul, nI_add, nI_1, zt_0, zt_12, zt_20, zt_26, zt_32, zf_0_0, zf_0_1, zf_0_2, zf_0_3, zf_0_4, zf_12_0, zf_12_1, zf_12_2, zf_12_4, zf_12_5, zf_20_1, zf_20_2, zf_20_3, zf_20_4, zf_20_6, zf_26_0, zf_26_1, zf_26_2, zf_26_3, zf_32_0, zf_32_1, zf_32_3, zf_32_4, zf_32_5, zf_32_6, z]) (fun x M3 hx fr _ => by
          have m := qT_mul hk ((q1.fr fr).kT hk2 ht) h8 hf ha hx
          simp (disch := omega) [zs_Turns_takeTurns_2, zmeth, xm_en, zret, zretz, zretv, zseq, zst, zinc, zkl, zskip, zk, zi, za, zbin, zdiv, zrem, zgi, zgr, zld, zldr, zlen, zn, zc, zcall, zcallv, zrcv, zdo, zdov, zpf, zpfc, zas, zasc, zmin, zmax, zcmp, zcz, zand_e, zor_e, zite_e, zbite_e, zif_e, znot_e, z_add, z_sub, z_mul, z_and, z_or, z_xor, z_shl, z_shr, zcpy, -List.getElem?_cons_succ, zg_0, zg_1, zg_2, zg_3, zg_4, zg_5, zg_6, zg_7, zg_8, zg_9, zc_lt, zc_le, zc_gt, zc_ge, zc_eq, zc_ne, zc_lt0, zc_ge0, zc_gt0, zc_eq0, zc_ne0, zb_ne, zb_eq, zb_01, z_00, z_01, z_11, zb_f, zb_T, zb_F, zbm1, zbm2, zbm5, zbm6, zbm3, zbm4, nI_clamp, zmod_n, pk_div, nI_ne0, pk_mul, nI_add, nI_1, zt_0, zt_12, zt_20, zt_26, zt_32, zf_0_0, zf_0_1, zf_0_2, zf_0_3, zf_0_4, zf_12_0, zf_12_1, zf_12_2, zf_12_4, zf_12_5, zf_20_1, zf_20_2, zf_20_3, zf_20_4, zf_20_6, zf_26_0, zf_26_1, zf_26_2, zf_26_3, zf_32_0, zf_32_1, zf_32_3, zf_32_4, zf_32_5, zf_32_6, zi_25, ztb_tag hk, m])
      have pl := La_PQ ho hf ha
      obtain ⟨M3, e3, e4, b4, K4, k4, x4, _, r4⟩ := qT_takeF h7 (q1.fr s2) pl (fun x hx => by rw [i2 x hx]; unfold La; rw [fl_gd hx]) (gc.2.2.2 a ha).1
      have n3 := k4.n
      obtain ⟨M5, e5, i5, s5⟩ := tr_loop (c' := zc_Turns_takeTurns_3) (s' := zs_Turns_takeTurns_3) (M := M3) (n := n) (ls0 := fun x => [some (Value.ref (20)), some (Value.ref (k)), some (Value.int (nI a)), some (Value.int (nI x))]) (f := fun x => c x a) (fun x M4 hx fr => by
          have z : M4 20 0 = nI n := (fr _ _ (by decide)).trans n3
          simp (disch := omega) [zc_Turns_takeTurns_3, zmeth, xm_en, zret, zretz, zretv, zseq, zst, zinc, zkl, zskip, zk, zi, za, zbin, zdiv, zrem, zgi, zgr, zld, zldr, zlen, zn, zc, zcall, zcallv, zrcv, zdo, zdov, zpf, zpfc, zas, zasc, zmin, zmax, zcmp, zcz, zand_e, zor_e, zite_e, zbite_e, zif_e, znot_e, z_add, z_sub, z_mul, z_and, z_or, z_xor, z_shl, z_shr, zcpy, -List.getElem?_cons_succ, zg_0, zg_1, zg_2, zg_3, zg_4, zg_5, zg_6, zg_7, zg_8, zg_9, zc_lt, zc_le, zc_gt, zc_ge, zc_eq, zc_ne, zc_lt0, zc_ge0, zc_gt0, zc_eq0, zc_ne0, zb_ne, zb_eq, zb_01, z_00, z_01, z_11, zb_f, zb_T, zb_F, zbm1, zbm2, zbm5, zbm6, zbm3, zbm4, nI_clamp, zmod_n, pk_div, nI_ne0, pk_mul, nI_add, nI_1, zt_0, zt_12, zt_20, zt_26, zt_32, zf_0_0, zf_0_1, zf_0_2, zf_0_3, zf_0_4, zf_12_0, zf_12_1, zf_12_2, zf_12_4, zf_12_5, zf_20_1, zf_20_2, zf_20_3, zf_20_4, zf_20_6, zf_26_0, zf_26_1, zf_26_2, zf_26_3, zf_32_0, zf_32_1, zf_32_3, zf_32_4, zf_32_5, zf_32_6, z, hx]) (fun M4 fr => by
          have z : M4 20 0 = nI n := (fr _ _ (by decide)).trans n3
          simp (disch := omega) [zc_Turns_takeTurns_3, zmeth, xm_en, zret, zretz, zretv, zseq, zst, zinc, zkl, zskip, zk, zi, za, zbin, zdiv, zrem, zgi, zgr, zld, zldr, zlen, zn, zc, zcall, zcallv, zrcv, zdo, zdov, zpf, zpfc, zas, zasc, zmin, zmax, zcmp, zcz, zand_e, zor_e, zite_e, zbite_e, zif_e, znot_e, z_add, z_sub, z_mul, z_and, z_or, z_xor, z_shl, z_shr, zcpy, -List.getElem?_cons_succ, zg_0, zg_1, zg_2, zg_3, zg_4, zg_5, zg_6, zg_7, zg_8, zg_9, zc_lt, zc_le, zc_gt, zc_ge, zc_eq, zc_ne, zc_lt0, zc_ge0, zc_gt0, zc_eq0, zc_ne0, zb_ne, zb_eq, zb_01, z_00, z_01, z_11, zb_f, zb_T, zb_F, zbm1, zbm2, zbm5, zbm6, zbm3, zbm4, nI_clamp, zmod_n, pk_div, nI_ne0, pk_mul, nI_add, nI_1, zt_0, zt_12, zt_20, zt_26, zt_32, zf_0_0, zf_0_1, zf_0_2, zf_0_3, zf_0_4, zf_12_0, zf_12_1, zf_12_2, zf_12_4, zf_12_5, zf_20_1, zf_20_2, zf_20_3, zf_20_4, zf_20_6, zf_26_0, zf_26_1, zf_26_2, zf_26_3, zf_32_0, zf_32_1, zf_32_3, zf_32_4, zf_32_5, zf_32_6, z]) (fun x M4 hx fr _ => by
          have m := qT_mul hk ((k4.fr fr).kT hk2 ht) h8 hf hx ha
          simp (disch := omega) [zs_Turns_takeTurns_3, zmeth, xm_en, zret, zretz, zretv, zseq, zst, zinc, zkl, zskip, zk, zi, za, zbin, zdiv, zrem, zgi, zgr, zld, zldr, zlen, zn, zc, zcall, zcallv, zrcv, zdo, zdov, zpf, zpfc, zas, zasc, zmin, zmax, zcmp, zcz, zand_e, zor_e, zite_e, zbite_e, zif_e, znot_e, z_add, z_sub, z_mul, z_and, z_or, z_xor, z_shl, z_shr, zcpy, -List.getElem?_cons_succ, zg_0, zg_1, zg_2, zg_3, zg_4, zg_5, zg_6, zg_7, zg_8, zg_9, zc_lt, zc_le, zc_gt, zc_ge, zc_eq, zc_ne, zc_lt0, zc_ge0, zc_gt0, zc_eq0, zc_ne0, zb_ne, zb_eq, zb_01, z_00, z_01, z_11, zb_f, zb_T, zb_F, zbm1, zbm2, zbm5, zbm6, zbm3, zbm4, nI_clamp, zmod_n, pk_div, nI_ne0, pk_mul, nI_add, nI_1, zt_0, zt_12, zt_20, zt_26, zt_32, zf_0_0, zf_0_1, zf_0_2, zf_0_3, zf_0_4, zf_12_0, zf_12_1, zf_12_2, zf_12_4, zf_12_5, zf_20_1, zf_20_2, zf_20_3, zf_20_4, zf_20_6, zf_26_0, zf_26_1, zf_26_2, zf_26_3, zf_32_0, zf_32_1, zf_32_3, zf_32_4, zf_32_5, zf_32_6, zi_25, ztb_tag hk, m])
      have pr := Ra_PQ ho hf ha
      obtain ⟨M6, e6, e7, b7, K7, k7, x7, _, r7⟩ := qT_takeF h7 (k4.fr s5) pr (fun x hx => by rw [i5 x hx]; unfold Ra; rw [fl_gd hx]) (gc.2.2.2 a ha).2
      refine ⟨none, [some (Value.ref (20)), some (Value.ref (k)), some (Value.int (nI (a + 1))), none], M6, by simp (disch := omega) [zs_Turns_takeTurns_1, zmeth, xm_en, zret, zretz, zretv, zseq, zst, zinc, zkl, zskip, zk, zi, za, zbin, zdiv, zrem, zgi, zgr, zld, zldr, zlen, zn, zc, zcall, zcallv, zrcv, zdo, zdov, zpf, zpfc, zas, zasc, zmin, zmax, zcmp, zcz, zand_e, zor_e, zite_e, zbite_e, zif_e, znot_e, z_add, z_sub, z_mul, z_and, z_or, z_xor, z_shl, z_shr, zcpy, -List.getElem?_cons_succ, zg_0, zg_1, zg_2, zg_3, zg_4, zg_5, zg_6, zg_7, zg_8, zg_9, zc_lt, zc_le, zc_gt, zc_ge, zc_eq, zc_ne, zc_lt0, zc_ge0, zc_gt0, zc_eq0, zc_ne0, zb_ne, zb_eq, zb_01, z_00, z_01, z_11, zb_f, zb_T, zb_F, zbm1, zbm2, zbm5, zbm6, zbm3, zbm4, nI_clamp, zmod_n, pk_div, nI_ne0, pk_mul, nI_add, nI_1, zt_0, zt_12, zt_20, zt_26, zt_32, zf_0_0, zf_0_1, zf_0_2, zf_0_3, zf_0_4, zf_12_0, zf_12_1, zf_12_2, zf_12_4, zf_12_5, zf_20_1, zf_20_2, zf_20_3, zf_20_4, zf_20_6, zf_26_0, zf_26_1, zf_26_2, zf_26_3, zf_32_0, zf_32_1, zf_32_3, zf_32_4, zf_32_5, zf_32_6, e2, e3, e5, e6], rfl, e7, b7, K7, k7, fun a' l1 l2 => ?_⟩
      by_cases z : a' = a
      · subst z
        exact ⟨r4.ex x7, r7⟩
      · have := q2 a' l1 (by omega)
        exact ⟨this.1.ex (x4.trans x7), this.2.ex (x4.trans x7)⟩) [some (Value.ref (20)), some (Value.ref (k)), some (Value.int (nI 1)), none] M ⟨rfl, e, b, K, h, fun a' l1 l2 => by omega⟩
  obtain ⟨M2, w1, rfl, rfl, w2⟩ := g1
  exact ⟨M2, by simp (disch := omega) [zf_Turns_takeTurns, zmeth, xm_en, zret, zretz, zretv, zseq, zst, zinc, zkl, zskip, zk, zi, za, zbin, zdiv, zrem, zgi, zgr, zld, zldr, zlen, zn, zc, zcall, zcallv, zrcv, zdo, zdov, zpf, zpfc, zas, zasc, zmin, zmax, zcmp, zcz, zand_e, zor_e, zite_e, zbite_e, zif_e, znot_e, z_add, z_sub, z_mul, z_and, z_or, z_xor, z_shl, z_shr, zcpy, -List.getElem?_cons_succ, zg_0, zg_1, zg_2, zg_3, zg_4, zg_5, zg_6, zg_7, zg_8, zg_9, w1], w2⟩
theorem qT_prodF {M0 M : zM} {n k1 k2 : Nat} {c : tC} {e : Nat → Nat → List Nat} {b : Nat → Nat} {K : List Nat} (h7 : n ≤ 7) (h : KS M0 n c e b K M) (h1 : k1 ∈ K) (h2 : k2 ∈ K) : ∃ M', zf_Turns_takeProduct [.ref 20, .int (nI k1), .int (nI k2)] M = some (none, M') ∧ GR M0 n c e b K (fun e' b' _ => RR n e' b' n 0 (cp (e (k2 / 7) (k2 % 7)) (e (k1 / 7) (k1 % 7)))) M' := by
  obtain ⟨a1, a2⟩ := h.pl h7 h1
  obtain ⟨d1, d2⟩ := h.pl h7 h2
  have ea : 7 * (k1 / 7) + k1 % 7 = k1 := by omega
  have ed : 7 * (k2 / 7) + k2 % 7 = k2 := by omega
  obtain ⟨ga, va, _⟩ := h.2.2.2.1 _ _ a2
  obtain ⟨gd', vd, _⟩ := h.2.2.2.1 _ _ d2
  rw [ea] at va
  rw [ed] at vd
  have pa := (h.2.1 _ _ a2).2.1
  have pd := (h.2.1 _ _ d2).2.1
  have n0 := h.n
  have hc := GH_HC n c
  obtain ⟨M2, e2, i2, s2⟩ := tr_loop (c' := zc_Turns_takeProduct_1) (s' := zs_Turns_takeProduct_1) (M := M) (n := n) (ls0 := fun x => [some (Value.ref (20)), some (Value.int (nI k1)), some (Value.int (nI k2)), some (Value.int (nI x))]) (f := fun x => gd (e (k2 / 7) (k2 % 7)) (gd (e (k1 / 7) (k1 % 7)) x)) (fun x M3 hx fr => by
      have z : M3 20 0 = nI n := (fr _ _ (by decide)).trans n0
      simp (disch := omega) [zc_Turns_takeProduct_1, zmeth, xm_en, zret, zretz, zretv, zseq, zst, zinc, zkl, zskip, zk, zi, za, zbin, zdiv, zrem, zgi, zgr, zld, zldr, zlen, zn, zc, zcall, zcallv, zrcv, zdo, zdov, zpf, zpfc, zas, zasc, zmin, zmax, zcmp, zcz, zand_e, zor_e, zite_e, zbite_e, zif_e, znot_e, z_add, z_sub, z_mul, z_and, z_or, z_xor, z_shl, z_shr, zcpy, -List.getElem?_cons_succ, zg_0, zg_1, zg_2, zg_3, zg_4, zg_5, zg_6, zg_7, zg_8, zg_9, zc_lt, zc_le, zc_gt, zc_ge, zc_eq, zc_ne, zc_lt0, zc_ge0, zc_gt0, zc_eq0, zc_ne0, zb_ne, zb_eq, zb_01, z_00, z_01, z_11, zb_f, zb_T, zb_F, zbm1, zbm2, zbm5, zbm6, zbm3, zbm4, nI_clamp, zmod_n, pk_div, nI_ne0, pk_mul, nI_add, nI_1, zt_0, zt_12, zt_20, zt_26, zt_32, zf_0_0, zf_0_1, zf_0_2, zf_0_3, zf_0_4, zf_12_0, zf_12_1, zf_12_2, zf_12_4, zf_12_5, zf_20_1, zf_20_2, zf_20_3, zf_20_4, zf_20_6, zf_26_0, zf_26_1, zf_26_2, zf_26_3, zf_32_0, zf_32_1, zf_32_3, zf_32_4, zf_32_5, zf_32_6, z, hx]) (fun M3 fr => by
      have z : M3 20 0 = nI n := (fr _ _ (by decide)).trans n0
      simp (disch := omega) [zc_Turns_takeProduct_1, zmeth, xm_en, zret, zretz, zretv, zseq, zst, zinc, zkl, zskip, zk, zi, za, zbin, zdiv, zrem, zgi, zgr, zld, zldr, zlen, zn, zc, zcall, zcallv, zrcv, zdo, zdov, zpf, zpfc, zas, zasc, zmin, zmax, zcmp, zcz, zand_e, zor_e, zite_e, zbite_e, zif_e, znot_e, z_add, z_sub, z_mul, z_and, z_or, z_xor, z_shl, z_shr, zcpy, -List.getElem?_cons_succ, zg_0, zg_1, zg_2, zg_3, zg_4, zg_5, zg_6, zg_7, zg_8, zg_9, zc_lt, zc_le, zc_gt, zc_ge, zc_eq, zc_ne, zc_lt0, zc_ge0, zc_gt0, zc_eq0, zc_ne0, zb_ne, zb_eq, zb_01, z_00, z_01, z_11, zb_f, zb_T, zb_F, zbm1, zbm2, zbm5, zbm6, zbm3, zbm4, nI_clamp, zmod_n, pk_div, nI_ne0, pk_mul, nI_add, nI_1, zt_0, zt_12, zt_20, zt_26, zt_32, zf_0_0, zf_0_1, zf_0_2, zf_0_3, zf_0_4, zf_12_0, zf_12_1, zf_12_2, zf_12_4, zf_12_5, zf_20_1, zf_20_2, zf_20_3, zf_20_4, zf_20_6, zf_26_0, zf_26_1, zf_26_2, zf_26_3, zf_32_0, zf_32_1, zf_32_3, zf_32_4, zf_32_5, zf_32_6, z]) (fun x M3 hx fr _ => by
      have gx := pa.gl hx
      have r1 := qT_rd (M := M3) (k := 21) (p := k1) (x := x) rfl a1 (by omega)
      have v1 : M3 21 (7 * k1 + x) = nI (gd (e (k1 / 7) (k1 % 7)) x) := (fr _ _ (by decide)).trans (va x hx)
      rw [v1] at r1
      have r2 := qT_rd (M := M3) (k := 21) (p := k2) (x := gd (e (k1 / 7) (k1 % 7)) x) rfl d1 (by omega)
      have v2 : M3 21 (7 * k2 + gd (e (k1 / 7) (k1 % 7)) x) = nI (gd (e (k2 / 7) (k2 % 7)) (gd (e (k1 / 7) (k1 % 7)) x)) := (fr _ _ (by decide)).trans (vd _ gx)
      rw [v2] at r2
      simp (disch := omega) [zs_Turns_takeProduct_1, zmeth, xm_en, zret, zretz, zretv, zseq, zst, zinc, zkl, zskip, zk, zi, za, zbin, zdiv, zrem, zgi, zgr, zld, zldr, zlen, zn, zc, zcall, zcallv, zrcv, zdo, zdov, zpf, zpfc, zas, zasc, zmin, zmax, zcmp, zcz, zand_e, zor_e, zite_e, zbite_e, zif_e, znot_e, z_add, z_sub, z_mul, z_and, z_or, z_xor, z_shl, z_shr, zcpy, -List.getElem?_cons_succ, zg_0, zg_1, zg_2, zg_3, zg_4, zg_5, zg_6, zg_7, zg_8, zg_9, zc_lt, zc_le, zc_gt, zc_ge, zc_eq, zc_ne, zc_lt0, zc_ge0, zc_gt0, zc_eq0, zc_ne0, zb_ne, zb_eq, zb_01, z_00, z_01, z_11, zb_f, zb_T, zb_F, zbm1, zbm2, zbm5, zbm6, zbm3, zbm4, nI_clamp, zmod_n, pk_div, nI_ne0, pk_mul, nI_add, nI_1, zt_0, zt_12, zt_20, zt_26, zt_32, zf_0_0, zf_0_1, zf_0_2, zf_0_3, zf_0_4, zf_12_0, zf_12_1, zf_12_2, zf_12_4, zf_12_5, zf_20_1, zf_20_2, zf_20_3, zf_20_4, zf_20_6, zf_26_0, zf_26_1, zf_26_2, zf_26_3, zf_32_0, zf_32_1, zf_32_3, zf_32_4, zf_32_5, zf_32_6, zi_25, r1, r2])
  obtain ⟨M3, e3, g3⟩ := qT_takeF h7 (h.fr s2) (cp_PQ pd pa) (fun x hx => by rw [i2 x hx, cp_gd pa hx]) (hc.2.1 _ _ pd pa gd' ga)
  exact ⟨M3, by simp (disch := omega) [zf_Turns_takeProduct, zmeth, xm_en, zret, zretz, zretv, zseq, zst, zinc, zkl, zskip, zk, zi, za, zbin, zdiv, zrem, zgi, zgr, zld, zldr, zlen, zn, zc, zcall, zcallv, zrcv, zdo, zdov, zpf, zpfc, zas, zasc, zmin, zmax, zcmp, zcz, zand_e, zor_e, zite_e, zbite_e, zif_e, znot_e, z_add, z_sub, z_mul, z_and, z_or, z_xor, z_shl, z_shr, zcpy, -List.getElem?_cons_succ, zg_0, zg_1, zg_2, zg_3, zg_4, zg_5, zg_6, zg_7, zg_8, zg_9, zt_0, zt_12, zt_20, zt_26, zt_32, zf_0_0, zf_0_1, zf_0_2, zf_0_3, zf_0_4, zf_12_0, zf_12_1, zf_12_2, zf_12_4, zf_12_5, zf_20_1, zf_20_2, zf_20_3, zf_20_4, zf_20_6, zf_26_0, zf_26_1, zf_26_2, zf_26_3, zf_32_0, zf_32_1, zf_32_3, zf_32_4, zf_32_5, zf_32_6, e2, e3], g3⟩
/-- all products of the first m kept ones are there -/
def PX (n : Nat) (e : Nat → Nat → List Nat) (b : Nat → Nat) (K : List Nat) (m m' : Nat) : Prop := RR n e b n 0 (cp (e (gd K m / 7) (gd K m % 7)) (e (gd K m' / 7) (gd K m' % 7)))
theorem PX.ex {M0 M : zM} {n m m' : Nat} {c : tC} {e e' : Nat → Nat → List Nat} {b b' : Nat → Nat} {K W : List Nat} (h7 : n ≤ 7) (h : KS M0 n c e b K M) (hE : EX e b e' b') (hm : m < K.length) (hm' : m' < K.length) (q : PX n e b K m m') : PX n e' b' (K ++ W) m m' := by
  unfold PX
  rw [gd_app hm, gd_app hm', (hE _ _ (h.pl h7 (gd_mem hm)).2).2, (hE _ _ (h.pl h7 (gd_mem hm')).2).2]
  exact RR.ex hE q
theorem qT_tp2F {M0 M : zM} {n i : Nat} {c : tC} {e : Nat → Nat → List Nat} {b : Nat → Nat} {K : List Nat} (h7 : n ≤ 7) (h : KS M0 n c e b K M) (hi : i < K.length) (hP : ∀ m m', m < i → m' < i → PX n e b K m m') : ∃ M' e' b' K', zwh zc_Turns_takeProducts_2 zs_Turns_takeProducts_2 [some (Value.ref (20)), some (Value.int (nI i)), some (Value.int (nI 0))] M = some (none, [some (Value.ref (20)), some (Value.int (nI i)), some (Value.int (nI (i + 1)))], M') ∧ KS M0 n c e' b' K' M' ∧ EX e b e' b' ∧ (∃ W, K' = K ++ W) ∧ ∀ m m', m < i + 1 → m' < i + 1 → PX n e' b' K' m m' := by
  have l0 := (h.len h7).1
  obtain ⟨r, ls, M', w1, rfl, rfl, e', b', K', k1, k2, ⟨W, k3⟩, k4⟩ := zwh_inv (c := zc_Turns_takeProducts_2) (s := zs_Turns_takeProducts_2) (fun j ls M' => ls = [some (Value.ref (20)), some (Value.int (nI i)), some (Value.int (nI j))] ∧ ∃ e' b' K', KS M0 n c e' b' K' M' ∧ EX e b e' b' ∧ (∃ W, K' = K ++ W) ∧ ∀ m, m < j → PX n e' b' K' m i ∧ PX n e' b' K' i m) (Q := fun r ls M' => r = none ∧ ls = [some (Value.ref (20)), some (Value.int (nI i)), some (Value.int (nI (i + 1)))] ∧ ∃ e' b' K', KS M0 n c e' b' K' M' ∧ EX e b e' b' ∧ (∃ W, K' = K ++ W) ∧ ∀ m, m < i + 1 → PX n e' b' K' m i ∧ PX n e' b' K' i m) (n := i + 1) (fun ls M' q => by
      obtain ⟨rfl, q⟩ := q
      exact ⟨by simp (disch := omega) [zc_Turns_takeProducts_2, zmeth, xm_en, zret, zretz, zretv, zseq, zst, zinc, zkl, zskip, zk, zi, za, zbin, zdiv, zrem, zgi, zgr, zld, zldr, zlen, zn, zc, zcall, zcallv, zrcv, zdo, zdov, zpf, zpfc, zas, zasc, zmin, zmax, zcmp, zcz, zand_e, zor_e, zite_e, zbite_e, zif_e, znot_e, z_add, z_sub, z_mul, z_and, z_or, z_xor, z_shl, z_shr, zcpy, -List.getElem?_cons_succ, zg_0, zg_1, zg_2, zg_3, zg_4, zg_5, zg_6, zg_7, zg_8, zg_9, zc_lt, zc_le, zc_gt, zc_ge, zc_eq, zc_ne, zc_lt0, zc_ge0, zc_gt0, zc_eq0, zc_ne0, zb_ne, zb_eq, zb_01, z_00, z_01, z_11, zb_f, zb_T, zb_F, zbm1, zbm2, zbm5, zbm6, zbm3, zbm4, nI_clamp, zmod_n, pk_div, nI_ne0, pk_mul, nI_add, nI_1, zt_0, zt_12, zt_20, zt_26, zt_32, zf_0_0, zf_0_1, zf_0_2, zf_0_3, zf_0_4, zf_12_0, zf_12_1, zf_12_2, zf_12_4, zf_12_5, zf_20_1, zf_20_2, zf_20_3, zf_20_4, zf_20_6, zf_26_0, zf_26_1, zf_26_2, zf_26_3, zf_32_0, zf_32_1, zf_32_3, zf_32_4, zf_32_5, zf_32_6], rfl, rfl, q⟩) (i + 1) 0 (by omega) (fun j ls M1 _ hj q => by
      obtain ⟨rfl, e1, b1, K1, q1, q2, ⟨W1, q3⟩, q4⟩ := q
      have jle : j ≤ i := by omega
      refine ⟨by simp (disch := omega) [zc_Turns_takeProducts_2, zmeth, xm_en, zret, zretz, zretv, zseq, zst, zinc, zkl, zskip, zk, zi, za, zbin, zdiv, zrem, zgi, zgr, zld, zldr, zlen, zn, zc, zcall, zcallv, zrcv, zdo, zdov, zpf, zpfc, zas, zasc, zmin, zmax, zcmp, zcz, zand_e, zor_e, zite_e, zbite_e, zif_e, znot_e, z_add, z_sub, z_mul, z_and, z_or, z_xor, z_shl, z_shr, zcpy, -List.getElem?_cons_succ, zg_0, zg_1, zg_2, zg_3, zg_4, zg_5, zg_6, zg_7, zg_8, zg_9, zc_lt, zc_le, zc_gt, zc_ge, zc_eq, zc_ne, zc_lt0, zc_ge0, zc_gt0, zc_eq0, zc_ne0, zb_ne, zb_eq, zb_01, z_00, z_01, z_11, zb_f, zb_T, zb_F, zbm1, zbm2, zbm5, zbm6, zbm3, zbm4, nI_clamp, zmod_n, pk_div, nI_ne0, pk_mul, nI_add, nI_1, zt_0, zt_12, zt_20, zt_26, zt_32, zf_0_0, zf_0_1, zf_0_2, zf_0_3, zf_0_4, zf_12_0, zf_12_1, zf_12_2, zf_12_4, zf_12_5, zf_20_1, zf_20_2, zf_20_3, zf_20_4, zf_20_6, zf_26_0, zf_26_1, zf_26_2, zf_26_3, zf_32_0, zf_32_1, zf_32_3, zf_32_4, zf_32_5, zf_32_6, jle], ?_⟩
      have li : i < K1.length := by rw [q3, List.length_append]; omega
      have lj : j < K1.length := by omega
      have l1 := (q1.len h7).1
      have vi := q1.2.2.2.2.2.1 i li
      have vj := q1.2.2.2.2.2.1 j lj
      obtain ⟨M2, x2, e2, b2, K2, k2, y2, ⟨W2, z2⟩, p2⟩ := qT_prodF h7 q1 (gd_mem li) (gd_mem lj)
      have li2 : i < K2.length := by rw [z2, List.length_append]; omega
      have lj2 : j < K2.length := by omega
      have gi : gd K2 i = gd K1 i := by rw [z2, gd_app li]
      have gj : gd K2 j = gd K1 j := by rw [z2, gd_app lj]
      have vi2 := k2.2.2.2.2.2.1 i li2
      have vj2 := k2.2.2.2.2.2.1 j lj2
      obtain ⟨M3, x3, e3, b3, K3, k3, y3, ⟨W3, z3⟩, p3⟩ := qT_prodF h7 k2 (gd_mem lj2) (gd_mem li2)
      have x3' := x3
      rw [gi, gj] at x3'
      rw [gi] at vi2
      rw [gj] at vj2
      have pxA : PX n e3 b3 K3 j i := by
        have : PX n e2 b2 K2 j i := by
          unfold PX
          rw [gi, gj, (y2 _ _ (q1.pl h7 (gd_mem li)).2).2, (y2 _ _ (q1.pl h7 (gd_mem lj)).2).2]
          exact p2
        rw [z3]
        exact this.ex h7 k2 y3 lj2 li2
      have pxB : PX n e3 b3 K3 i j := by
        unfold PX
        rw [z3, gd_app li2, gd_app lj2, (y3 _ _ (k2.pl h7 (gd_mem li2)).2).2, (y3 _ _ (k2.pl h7 (gd_mem lj2)).2).2]
        exact p3
      refine ⟨none, [some (Value.ref (20)), some (Value.int (nI i)), some (Value.int (nI (j + 1)))], M3, by simp (disch := omega) [zs_Turns_takeProducts_2, zmeth, xm_en, zret, zretz, zretv, zseq, zst, zinc, zkl, zskip, zk, zi, za, zbin, zdiv, zrem, zgi, zgr, zld, zldr, zlen, zn, zc, zcall, zcallv, zrcv, zdo, zdov, zpf, zpfc, zas, zasc, zmin, zmax, zcmp, zcz, zand_e, zor_e, zite_e, zbite_e, zif_e, znot_e, z_add, z_sub, z_mul, z_and, z_or, z_xor, z_shl, z_shr, zcpy, -List.getElem?_cons_succ, zg_0, zg_1, zg_2, zg_3, zg_4, zg_5, zg_6, zg_7, zg_8, zg_9, zc_lt, zc_le, zc_gt, zc_ge, zc_eq, zc_ne, zc_lt0, zc_ge0, zc_gt0, zc_eq0, zc_ne0, zb_ne, zb_eq, zb_01, z_00, z_01, z_11, zb_f, zb_T, zb_F, zbm1, zbm2, zbm5, zbm6, zbm3, zbm4, nI_clamp, zmod_n, pk_div, nI_ne0, pk_mul, nI_add, nI_1, zt_0, zt_12, zt_20, zt_26, zt_32, zf_0_0, zf_0_1, zf_0_2, zf_0_3, zf_0_4, zf_12_0, zf_12_1, zf_12_2, zf_12_4, zf_12_5, zf_20_1, zf_20_2, zf_20_3, zf_20_4, zf_20_6, zf_26_0, zf_26_1, zf_26_2, zf_26_3, zf_32_0, zf_32_1, zf_32_3, zf_32_4, zf_32_5, zf_32_6, zi_24, vi, vj, vi2, vj2, x2, x3'], rfl, e3, b3, K3, k3, q2.trans (y2.trans y3), ⟨W1 ++ (W2 ++ W3), by rw [z3, z2, q3, List.append_assoc, List.append_assoc]⟩, fun m hm => ?_⟩
      by_cases z : m = j
      · subst z
        exact ⟨pxA, pxB⟩
      · have := q4 m (by omega)
        have lm : m < K1.length := by omega
        have a : PX n e2 b2 K2 m i ∧ PX n e2 b2 K2 i m := by
          rw [z2]
          exact ⟨this.1.ex h7 q1 y2 lm li, this.2.ex h7 q1 y2 li lm⟩
        rw [z3]
        exact ⟨a.1.ex h7 k2 y3 (by omega) li2, a.2.ex h7 k2 y3 li2 (by omega)⟩) [some (Value.ref (20)), some (Value.int (nI i)), some (Value.int (nI 0))] M ⟨rfl, e, b, K, h, EX.refl e b, ⟨[], (List.append_nil K).symm⟩, fun m hm => absurd hm (Nat.not_lt_zero m)⟩
  refine ⟨M', e', b', K', w1, k1, k2, ⟨W, k3⟩, fun m m' hm hm' => ?_⟩
  by_cases z : m = i
  · subst z
    exact (k4 m' hm').2
  · by_cases z' : m' = i
    · subst z'
      exact (k4 m hm).1
    · rw [k3]
      exact (hP m m' (by omega) (by omega)).ex h7 h k2 (by omega) (by omega)
theorem qT_tp1F {M0 : zM} {n : Nat} {c : tC} (h7 : n ≤ 7) : ∀ (d i : Nat) (e : Nat → Nat → List Nat) (b : Nat → Nat) (K : List Nat) (M : zM), 49 ≤ i + d → i ≤ K.length → KS M0 n c e b K M → (∀ m m', m < i → m' < i → PX n e b K m m') → ∃ i' M' e' b' K', zwh zc_Turns_takeProducts_1 zs_Turns_takeProducts_1 [some (Value.ref (20)), some (Value.int (nI i)), none] M = some (none, [some (Value.ref (20)), some (Value.int (nI i')), none], M') ∧ KS M0 n c e' b' K' M' ∧ EX e b e' b' ∧ ∀ m m', m < K'.length → m' < K'.length → PX n e' b' K' m m' := by
  have stop : ∀ (i : Nat) (e : Nat → Nat → List Nat) (b : Nat → Nat) (K : List Nat) (M : zM), i = K.length → KS M0 n c e b K M → zwh zc_Turns_takeProducts_1 zs_Turns_takeProducts_1 [some (Value.ref (20)), some (Value.int (nI i)), none] M = some (none, [some (Value.ref (20)), some (Value.int (nI i)), none], M) := fun i e b K M q h => by
    have l0 := (h.len h7).1
    have k5 := h.1.2.1
    subst q
    exact zwh_f (by simp (disch := omega) [zc_Turns_takeProducts_1, zmeth, xm_en, zret, zretz, zretv, zseq, zst, zinc, zkl, zskip, zk, zi, za, zbin, zdiv, zrem, zgi, zgr, zld, zldr, zlen, zn, zc, zcall, zcallv, zrcv, zdo, zdov, zpf, zpfc, zas, zasc, zmin, zmax, zcmp, zcz, zand_e, zor_e, zite_e, zbite_e, zif_e, znot_e, z_add, z_sub, z_mul, z_and, z_or, z_xor, z_shl, z_shr, zcpy, -List.getElem?_cons_succ, zg_0, zg_1, zg_2, zg_3, zg_4, zg_5, zg_6, zg_7, zg_8, zg_9, zc_lt, zc_le, zc_gt, zc_ge, zc_eq, zc_ne, zc_lt0, zc_ge0, zc_gt0, zc_eq0, zc_ne0, zb_ne, zb_eq, zb_01, z_00, z_01, z_11, zb_f, zb_T, zb_F, zbm1, zbm2, zbm5, zbm6, zbm3, zbm4, nI_clamp, zmod_n, pk_div, nI_ne0, pk_mul, nI_add, nI_1, zt_0, zt_12, zt_20, zt_26, zt_32, zf_0_0, zf_0_1, zf_0_2, zf_0_3, zf_0_4, zf_12_0, zf_12_1, zf_12_2, zf_12_4, zf_12_5, zf_20_1, zf_20_2, zf_20_3, zf_20_4, zf_20_6, zf_26_0, zf_26_1, zf_26_2, zf_26_3, zf_32_0, zf_32_1, zf_32_3, zf_32_4, zf_32_5, zf_32_6, k5])
  intro d
  induction d with
  | zero =>
    intro i e b K M h1 h2 h hP
    have l0 := (h.len h7).1
    have q : i = K.length := by omega
    exact ⟨i, M, e, b, K, stop i e b K M q h, h, EX.refl e b, fun m m' a a' => hP m m' (by omega) (by omega)⟩
  | succ d ih =>
    intro i e b K M h1 h2 h hP
    have l0 := (h.len h7).1
    by_cases q : i = K.length
    · exact ⟨i, M, e, b, K, stop i e b K M q h, h, EX.refl e b, fun m m' a a' => hP m m' (by omega) (by omega)⟩
    · have li : i < K.length := by omega
      have k5 := h.1.2.1
      obtain ⟨M1, e1, b1, K1, w1, k1, x1, ⟨W, y1⟩, p1⟩ := qT_tp2F h7 h li hP
      have l1 : K.length ≤ K1.length := by rw [y1, List.length_append]; omega
      obtain ⟨i', M2, e2, b2, K2, w2, k2, x2, p2⟩ := ih (i + 1) e1 b1 K1 M1 (by omega) (by omega) k1 p1
      refine ⟨i', M2, e2, b2, K2, zwh_t (ls2 := [some (Value.ref (20)), some (Value.int (nI (i + 1))), none]) (M2 := M1) (M1 := M) ?_ ?_ w2, k2, x1.trans x2, p2⟩
      · have i49 : i < 49 := by omega
        simp (disch := omega) [zc_Turns_takeProducts_1, zmeth, xm_en, zret, zretz, zretv, zseq, zst, zinc, zkl, zskip, zk, zi, za, zbin, zdiv, zrem, zgi, zgr, zld, zldr, zlen, zn, zc, zcall, zcallv, zrcv, zdo, zdov, zpf, zpfc, zas, zasc, zmin, zmax, zcmp, zcz, zand_e, zor_e, zite_e, zbite_e, zif_e, znot_e, z_add, z_sub, z_mul, z_and, z_or, z_xor, z_shl, z_shr, zcpy, -List.getElem?_cons_succ, zg_0, zg_1, zg_2, zg_3, zg_4, zg_5, zg_6, zg_7, zg_8, zg_9, zc_lt, zc_le, zc_gt, zc_ge, zc_eq, zc_ne, zc_lt0, zc_ge0, zc_gt0, zc_eq0, zc_ne0, zb_ne, zb_eq, zb_01, z_00, z_01, z_11, zb_f, zb_T, zb_F, zbm1, zbm2, zbm5, zbm6, zbm3, zbm4, nI_clamp, zmod_n, pk_div, nI_ne0, pk_mul, nI_add, nI_1, zt_0, zt_12, zt_20, zt_26, zt_32, zf_0_0, zf_0_1, zf_0_2, zf_0_3, zf_0_4, zf_12_0, zf_12_1, zf_12_2, zf_12_4, zf_12_5, zf_20_1, zf_20_2, zf_20_3, zf_20_4, zf_20_6, zf_26_0, zf_26_1, zf_26_2, zf_26_3, zf_32_0, zf_32_1, zf_32_3, zf_32_4, zf_32_5, zf_32_6, k5, li, i49]
      · simp (disch := omega) [zs_Turns_takeProducts_1, zmeth, xm_en, zret, zretz, zretv, zseq, zst, zinc, zkl, zskip, zk, zi, za, zbin, zdiv, zrem, zgi, zgr, zld, zldr, zlen, zn, zc, zcall, zcallv, zrcv, zdo, zdov, zpf, zpfc, zas, zasc, zmin, zmax, zcmp, zcz, zand_e, zor_e, zite_e, zbite_e, zif_e, znot_e, z_add, z_sub, z_mul, z_and, z_or, z_xor, z_shl, z_shr, zcpy, -List.getElem?_cons_succ, zg_0, zg_1, zg_2, zg_3, zg_4, zg_5, zg_6, zg_7, zg_8, zg_9, zc_lt, zc_le, zc_gt, zc_ge, zc_eq, zc_ne, zc_lt0, zc_ge0, zc_gt0, zc_eq0, zc_ne0, zb_ne, zb_eq, zb_01, z_00, z_01, z_11, zb_f, zb_T, zb_F, zbm1, zbm2, zbm5, zbm6, zbm3, zbm4, nI_clamp, zmod_n, pk_div, nI_ne0, pk_mul, nI_add, nI_1, w1]
theorem CL_of {M0 M : zM} {n : Nat} {c : tC} {e : Nat → Nat → List Nat} {b : Nat → Nat} {K : List Nat} (h7 : n ≤ 7) (h : KS M0 n c e b K M) (hP : ∀ m m', m < K.length → m' < K.length → PX n e b K m m') : CL n e b := fun i j i' j' q q' => by
  have t := (h.2.1 i j q).1
  have t' := (h.2.1 i' j' q').1
  have m1 := px_mem ((h.2.2.2.2.2.2 (7 * i + j)).mpr ⟨i, j, q, rfl⟩)
  have m2 := px_mem ((h.2.2.2.2.2.2 (7 * i' + j')).mpr ⟨i', j', q', rfl⟩)
  have := hP _ _ m1.1 m2.1
  unfold PX at this
  have e1 : (7 * i + j) / 7 = i := by omega
  have e2 : (7 * i + j) % 7 = j := by omega
  have e3 : (7 * i' + j') / 7 = i' := by omega
  have e4 : (7 * i' + j') % 7 = j' := by omega
  rw [m1.2, m2.2, e1, e2, e3, e4] at this
  exact this
/-! group: the class's answer; both answers are the same -/
theorem bc_ch {n i : Nat} {e : Nat → Nat → List Nat} {b : Nat → Nat} (h7 : n ≤ 7) (hB : TB n e b) : ch n b i = 1 + bc (b i) := by
  unfold ch bc
  rw [← List.countP_eq_length_filter]
  have h := cn_map (fun k => k) (fun k => (b i).testBit k) n
  rw [List.map_id'] at h
  rw [h]
  have ext : ∀ m, n ≤ m → zsum (fun k => if (b i).testBit k = true then 1 else 0) m = zsum (fun k => if (b i).testBit k = true then 1 else 0) n := by
    intro m hm
    induction hm with
    | refl => rfl
    | step hm ih =>
      rename_i m
      show zsum _ m + (if (b i).testBit m = true then 1 else 0) = _
      have hm : n ≤ m := hm
      rw [ih, if_neg (fun z => by have := (hB i m z).1.2; omega), Nat.add_zero]
  rw [ext 8 (by omega)]
theorem qT_choicesF {M0 M : zM} {n : Nat} {c : tC} {e : Nat → Nat → List Nat} {b : Nat → Nat} {K : List Nat} (h7 : n ≤ 7) (h : KS M0 n c e b K M) : zf_Turns_countChoices [.ref 20] M = some (some (nI (RL n e b n 0).length), M) := by
  have n0 := h.n
  obtain ⟨r, ls, M1, e1, rfl, v, rfl, rfl, hv⟩ := zwh_inv (c := zc_Turns_countChoices_1) (s := zs_Turns_countChoices_1) (fun i ls M' => ∃ v : Nat, ls = [some (Value.ref (20)), some (Value.int (nI v)), some (Value.int (nI i))] ∧ M' = M ∧ v * (RL n e b (n - i) i).length = (RL n e b n 0).length) (Q := fun r ls M' => r = none ∧ ∃ v : Nat, ls = [some (Value.ref (20)), some (Value.int (nI v)), some (Value.int (nI n))] ∧ M' = M ∧ v = (RL n e b n 0).length) (n := n) (fun ls M' q => by
      obtain ⟨v, rfl, rfl, q⟩ := q
      refine ⟨by simp (disch := omega) [zc_Turns_countChoices_1, zmeth, xm_en, zret, zretz, zretv, zseq, zst, zinc, zkl, zskip, zk, zi, za, zbin, zdiv, zrem, zgi, zgr, zld, zldr, zlen, zn, zc, zcall, zcallv, zrcv, zdo, zdov, zpf, zpfc, zas, zasc, zmin, zmax, zcmp, zcz, zand_e, zor_e, zite_e, zbite_e, zif_e, znot_e, z_add, z_sub, z_mul, z_and, z_or, z_xor, z_shl, z_shr, zcpy, -List.getElem?_cons_succ, zg_0, zg_1, zg_2, zg_3, zg_4, zg_5, zg_6, zg_7, zg_8, zg_9, zc_lt, zc_le, zc_gt, zc_ge, zc_eq, zc_ne, zc_lt0, zc_ge0, zc_gt0, zc_eq0, zc_ne0, zb_ne, zb_eq, zb_01, z_00, z_01, z_11, zb_f, zb_T, zb_F, zbm1, zbm2, zbm5, zbm6, zbm3, zbm4, nI_clamp, zmod_n, pk_div, nI_ne0, pk_mul, nI_add, nI_1, zt_0, zt_12, zt_20, zt_26, zt_32, zf_0_0, zf_0_1, zf_0_2, zf_0_3, zf_0_4, zf_12_0, zf_12_1, zf_12_2, zf_12_4, zf_12_5, zf_20_1, zf_20_2, zf_20_3, zf_20_4, zf_20_6, zf_26_0, zf_26_1, zf_26_2, zf_26_3, zf_32_0, zf_32_1, zf_32_3, zf_32_4, zf_32_5, zf_32_6, n0], rfl, v, rfl, rfl, ?_⟩
      rw [Nat.sub_self] at q
      have : (RL n e b 0 n).length = 1 := rfl
      rw [this, Nat.mul_one] at q
      exact q) n 0 (by omega) (fun i ls M' _ hi q => by
      obtain ⟨v, rfl, rfl, q⟩ := q
      refine ⟨by simp (disch := omega) [zc_Turns_countChoices_1, zmeth, xm_en, zret, zretz, zretv, zseq, zst, zinc, zkl, zskip, zk, zi, za, zbin, zdiv, zrem, zgi, zgr, zld, zldr, zlen, zn, zc, zcall, zcallv, zrcv, zdo, zdov, zpf, zpfc, zas, zasc, zmin, zmax, zcmp, zcz, zand_e, zor_e, zite_e, zbite_e, zif_e, znot_e, z_add, z_sub, z_mul, z_and, z_or, z_xor, z_shl, z_shr, zcpy, -List.getElem?_cons_succ, zg_0, zg_1, zg_2, zg_3, zg_4, zg_5, zg_6, zg_7, zg_8, zg_9, zc_lt, zc_le, zc_gt, zc_ge, zc_eq, zc_ne, zc_lt0, zc_ge0, zc_gt0, zc_eq0, zc_ne0, zb_ne, zb_eq, zb_01, z_00, z_01, z_11, zb_f, zb_T, zb_F, zbm1, zbm2, zbm5, zbm6, zbm3, zbm4, nI_clamp, zmod_n, pk_div, nI_ne0, pk_mul, nI_add, nI_1, zt_0, zt_12, zt_20, zt_26, zt_32, zf_0_0, zf_0_1, zf_0_2, zf_0_3, zf_0_4, zf_12_0, zf_12_1, zf_12_2, zf_12_4, zf_12_5, zf_20_1, zf_20_2, zf_20_3, zf_20_4, zf_20_6, zf_26_0, zf_26_1, zf_26_2, zf_26_3, zf_32_0, zf_32_1, zf_32_3, zf_32_4, zf_32_5, zf_32_6, n0, hi], ?_⟩
      have bi := h.2.2.1 i (by omega)
      have b23 := bi.1
      have er := qI_bc (M := M') (v := b i) (by have := bi.2; omega)
      have ni : n - i = n - (i + 1) + 1 := by omega
      refine ⟨none, [some (Value.ref (20)), some (Value.int (nI (v * (1 + bc (b i))))), some (Value.int (nI (i + 1)))], M', ?_, v * (1 + bc (b i)), rfl, rfl, ?_⟩
      · simp (disch := omega) [zs_Turns_countChoices_1, zmeth, xm_en, zret, zretz, zretv, zseq, zst, zinc, zkl, zskip, zk, zi, za, zbin, zdiv, zrem, zgi, zgr, zld, zldr, zlen, zn, zc, zcall, zcallv, zrcv, zdo, zdov, zpf, zpfc, zas, zasc, zmin, zmax, zcmp, zcz, zand_e, zor_e, zite_e, zbite_e, zif_e, znot_e, z_add, z_sub, z_mul, z_and, z_or, z_xor, z_shl, z_shr, zcpy, -List.getElem?_cons_succ, zg_0, zg_1, zg_2, zg_3, zg_4, zg_5, zg_6, zg_7, zg_8, zg_9, nI_clamp, nI_add, nI_1, pk_mul, zt_0, zt_12, zt_20, zt_26, zt_32, zf_0_0, zf_0_1, zf_0_2, zf_0_3, zf_0_4, zf_12_0, zf_12_1, zf_12_2, zf_12_4, zf_12_5, zf_20_1, zf_20_2, zf_20_3, zf_20_4, zf_20_6, zf_26_0, zf_26_1, zf_26_2, zf_26_3, zf_32_0, zf_32_1, zf_32_3, zf_32_4, zf_32_5, zf_32_6, zi_23, b23, er]
      · rw [ni, RL_len, bc_ch h7 h.2.1] at q
        rw [Nat.mul_assoc]
        exact q) [some (Value.ref (20)), some (Value.int (nI 1)), some (Value.int (nI 0))] M ⟨1, rfl, rfl, by rw [Nat.one_mul]; rfl⟩
  subst hv
  simp (disch := omega) [zf_Turns_countChoices, zmeth, xm_en, zret, zretz, zretv, zseq, zst, zinc, zkl, zskip, zk, zi, za, zbin, zdiv, zrem, zgi, zgr, zld, zldr, zlen, zn, zc, zcall, zcallv, zrcv, zdo, zdov, zpf, zpfc, zas, zasc, zmin, zmax, zcmp, zcz, zand_e, zor_e, zite_e, zbite_e, zif_e, znot_e, z_add, z_sub, z_mul, z_and, z_or, z_xor, z_shl, z_shr, zcpy, -List.getElem?_cons_succ, zg_0, zg_1, zg_2, zg_3, zg_4, zg_5, zg_6, zg_7, zg_8, zg_9, e1]
/-- what the class's answer stands on -/
def CG (n : Nat) (c : tC) (k : Nat) : Prop := ∃ e b, TB n e b ∧ CL n e b ∧ (∀ a, 1 ≤ a → a < n → RR n e b n 0 (La n c a) ∧ RR n e b n 0 (Ra n c a)) ∧ (∀ i j, (b i).testBit j = true → GH n c (e i j)) ∧ k = (RL n e b n 0).length
theorem qT_countF {M : zM} {n k : Nat} {c : tC} (h7 : n ≤ 7) (hk : ztb k) (hk2 : k < 10) (ho : tO n c) (hf : tF n c) (ht : kT M k n c) : ∃ g M', zf_Turns_count [.ref 20, .ref k] M = some (some (nI g), M') ∧ zsc M M' ∧ CG n c g := by
  have f1 := qA_fill (M := zup (zup M 20 0 (nI n)) 20 5 (nI 0)) (k := 23) (N := 7) (v := nI 0) rfl (by decide)
  have h0 : KS M n c (fun _ _ => []) (fun _ => 0) [] (zfl (zup (zup M 20 0 (nI n)) 20 5 (nI 0)) 23 7 (nI 0)) := by
    refine ⟨⟨?_, ?_, fun q j hq => ?_⟩, fun i j q => ?_, fun i hi => ⟨?_, (show 0 < 128 by decide)⟩, fun i j q => ?_, List.nodup_nil, fun m hm => absurd hm (Nat.not_lt_zero m), fun k => ⟨fun z => absurd z List.not_mem_nil, fun ⟨i, j, q, _⟩ => ?_⟩⟩
    · unfold zfl
      rw [if_neg (by omega), zup_e, if_neg (by omega), zup_e, if_pos ⟨rfl, rfl⟩]
    · unfold zfl
      rw [if_neg (by omega), zup_e, if_pos ⟨rfl, rfl⟩]
      rfl
    · unfold zfl
      rw [if_neg (by omega), zup_e, if_neg (by omega), zup_e, if_neg (by omega)]
    · rw [Nat.zero_testBit] at q
      cases q
    · unfold zfl
      rw [if_pos ⟨rfl, hi⟩]
    · rw [Nat.zero_testBit] at q
      cases q
    · rw [Nat.zero_testBit] at q
      cases q
  obtain ⟨M1, e1, a1, b1, K1, k1, p1⟩ := qT_takeTurnsF h7 hk hk2 ho hf ht h0
  obtain ⟨i', M2, a2, b2, K2, w2, k2, x2, p2⟩ := qT_tp1F h7 49 0 a1 b1 K1 M1 (by omega) (by omega) k1 (fun m m' hm => absurd hm (Nat.not_lt_zero m))
  have e2 : zf_Turns_takeProducts [.ref 20] M1 = some (none, M2) := by simp (disch := omega) [zf_Turns_takeProducts, zmeth, xm_en, zret, zretz, zretv, zseq, zst, zinc, zkl, zskip, zk, zi, za, zbin, zdiv, zrem, zgi, zgr, zld, zldr, zlen, zn, zc, zcall, zcallv, zrcv, zdo, zdov, zpf, zpfc, zas, zasc, zmin, zmax, zcmp, zcz, zand_e, zor_e, zite_e, zbite_e, zif_e, znot_e, z_add, z_sub, z_mul, z_and, z_or, z_xor, z_shl, z_shr, zcpy, -List.getElem?_cons_succ, zg_0, zg_1, zg_2, zg_3, zg_4, zg_5, zg_6, zg_7, zg_8, zg_9, w2]
  have e3 := qT_choicesF h7 k2
  have z0 := ht.1
  have lt : ¬ (nI 7 < nI n) := by rw [nI_ltI (by decide) (by omega)]; omega
  exact ⟨_, M2, by simp (disch := omega) [zf_Turns_count, zmeth, xm_en, zret, zretz, zretv, zseq, zst, zinc, zkl, zskip, zk, zi, za, zbin, zdiv, zrem, zgi, zgr, zld, zldr, zlen, zn, zc, zcall, zcallv, zrcv, zdo, zdov, zpf, zpfc, zas, zasc, zmin, zmax, zcmp, zcz, zand_e, zor_e, zite_e, zbite_e, zif_e, znot_e, z_add, z_sub, z_mul, z_and, z_or, z_xor, z_shl, z_shr, zcpy, -List.getElem?_cons_succ, zg_0, zg_1, zg_2, zg_3, zg_4, zg_5, zg_6, zg_7, zg_8, zg_9, zt_0, zt_12, zt_20, zt_26, zt_32, zf_0_0, zf_0_1, zf_0_2, zf_0_3, zf_0_4, zf_12_0, zf_12_1, zf_12_2, zf_12_4, zf_12_5, zf_20_1, zf_20_2, zf_20_3, zf_20_4, zf_20_6, zf_26_0, zf_26_1, zf_26_2, zf_26_3, zf_32_0, zf_32_1, zf_32_3, zf_32_4, zf_32_5, zf_32_6, ztb_tag hk, z0, lt, f1, e1, e2, e3], fun q j hq => k2.1.2.2 q j (by omega), a2, b2, k2.2.1, CL_of h7 k2 p2, fun a l1 l2 => ⟨(p1 a l1 l2).1.ex x2, (p1 a l1 l2).2.ex x2⟩, fun i j q => (k2.2.2.2.1 i j q).1, rfl⟩
theorem nd_back {α : Type} [DecidableEq α] {A B : List α} (hA : A.Nodup) (h : ∀ x, x ∈ A → x ∈ B) (l : B.length ≤ A.length) {x : α} (hx : x ∈ B) : x ∈ A := by
  by_cases q : x ∈ A
  · exact q
  · have := nd_le (A := x :: A) (B := B) (List.nodup_cons.mpr ⟨q, hA⟩) (fun y hy => by
      rcases List.mem_cons.mp hy with rfl | hy
      · exact hx
      · exact h y hy)
    rw [List.length_cons] at this
    omega
theorem GRP_HC {n : Nat} {c : tC} {B : List (List Nat)} (ho : tO n c) (hf : tF n c) (h : GRP n c B) : HC n c (fun p => p ∈ B) := by
  obtain ⟨h1, h2, h3, h4, h5⟩ := h
  have mul : ∀ p, p ∈ B → ∀ q, q ∈ B → cp p q ∈ B := fun p hp => h4 (fun p => ∀ q, q ∈ B → cp p q ∈ B) (fun q hq => by
    rw [id_cp (h1 q hq)]
    exact hq) (fun p a ha pp hp => ⟨fun q hq => by
    rw [cp_as (La_PQ ho hf ha) pp (h1 q hq)]
    exact (h5 _ a (hp q hq) ha).1, fun q hq => by
    rw [cp_as (Ra_PQ ho hf ha) pp (h1 q hq)]
    exact (h5 _ a (hp q hq) ha).2⟩) p hp
  refine ⟨h3, fun p q _ _ hp hq => mul p hp q hq, fun p pp hp => ?_, fun a ha => ⟨?_, ?_⟩⟩
  · have id := nd_back (A := B.map (cp p)) (B := B) (nd_map h2 (fun x y hx hy e => cp_inj pp (h1 x hx) (h1 y hy) e)) (fun x hx => by
      obtain ⟨q, q1, rfl⟩ := List.mem_map.mp hx
      exact mul p hp q q1) (by rw [List.length_map]; exact Nat.le_refl _) h3
    obtain ⟨q, q1, q2⟩ := List.mem_map.mp id
    have pq := h1 q q1
    have : iv n p = q := by
      have e : cp (iv n p) (cp p q) = cp (iv n p) (List.range n) := by rw [q2]
      rw [← cp_as (iv_PQ pp) pp pq, iv_cp pp, id_cp pq, cp_id (iv_PQ pp)] at e
      exact e.symm
    show iv n p ∈ B
    rw [this]
    exact q1
  · have := (h5 _ a h3 ha).1
    rw [cp_id (La_PQ ho hf ha)] at this
    exact this
  · have := (h5 _ a h3 ha).2
    rw [cp_id (Ra_PQ ho hf ha)] at this
    exact this
theorem GRP_eq {n k : Nat} {c : tC} {B : List (List Nat)} (ho : tO n c) (hf : tF n c) (h : GRP n c B) (hk : CG n c k) : k = B.length := by
  obtain ⟨e, b, t1, t2, t3, t4, rfl⟩ := hk
  have hc := GRP_HC ho hf h
  have sub : ∀ d i p, RR n e b d i p → p ∈ B := by
    intro d
    induction d with
    | zero =>
      intro i p q
      have q : p = List.range n := q
      rw [q]
      exact hc.1
    | succ d ih =>
      intro i p q
      obtain ⟨t, u, q1, q2, rfl⟩ := q
      have pt := (q1.pq t1).1
      have pu := (RR.pq t1 q2).1
      refine hc.2.1 t u pt pu ?_ (ih _ _ q2)
      rcases q1 with rfl | ⟨j, q1, rfl⟩
      · exact hc.1
      · exact t4 _ j q1 _ hc
  have sup : ∀ p, p ∈ B → RR n e b n 0 p := h.2.2.2.1 (fun p => RR n e b n 0 p) RR.id (fun p a ha pp hp => by
    by_cases a0 : a = 0
    · have e1 : La n c a = List.range n := PQ.ext (La_PQ ho hf ha) id_PQ (fun i hi => by
        unfold La
        rw [fl_gd hi, gd_rg hi, a0, (ho.2.1 i hi).1])
      have e2 : Ra n c a = List.range n := PQ.ext (Ra_PQ ho hf ha) id_PQ (fun i hi => by
        unfold Ra
        rw [fl_gd hi, gd_rg hi, a0, (ho.2.1 i hi).2])
      rw [e1, e2, id_cp pp]
      exact ⟨hp, hp⟩
    · have := t3 a (by omega) ha
      exact ⟨RR.mul t1 t2 n 0 (by omega) _ _ this.1 hp, RR.mul t1 t2 n 0 (by omega) _ _ this.2 hp⟩)
  exact Nat.le_antisymm (nd_le (RL_nd t1 n 0 (by omega)) (fun p hp => sub n 0 p ((RL_m t1).mp hp))) (nd_le h.2.1 (fun p hp => (RL_m t1).mpr (sup p hp)))
/-- the class's answer -/
def aGL (T : tS) (x : Int32) (r : Int32) : Prop := (zlt x 4 = false ∧ r = -1) ∨ (zlt x 4 = true ∧ (tB (T x.toNatClampNeg).1 (T x.toNatClampNeg).2 = false ∨ 7 < (T x.toNatClampNeg).1) ∧ r = -2) ∨ (zlt x 4 = true ∧ tB (T x.toNatClampNeg).1 (T x.toNatClampNeg).2 = true ∧ (T x.toNatClampNeg).1 ≤ 7 ∧ ∃ k, CG (T x.toNatClampNeg).1 (T x.toNatClampNeg).2 k ∧ r = nI k)
theorem qL_groupF {T : tS} {M : zM} (x : Int32) (hC : CS T M) (hT : TO T) : ∃ r M', zf_L_group [.ref 0, .int x] M = some (some r, M') ∧ zsc M M' ∧ aGL T x r := by
  rcases z3 x (n := 4) (by decide) with h | ⟨t, ht, rfl⟩
  · refine ⟨-1, M, ?_, zsc.refl M, Or.inl ⟨h, rfl⟩⟩
    simp [zf_L_group, zmeth, xm_en, zret, zretz, zretv, zseq, zst, zinc, zkl, zskip, zk, zi, za, zbin, zdiv, zrem, zgi, zgr, zld, zldr, zlen, zn, zc, zcall, zcallv, zrcv, zdo, zdov, zpf, zpfc, zas, zasc, zmin, zmax, zcmp, zcz, zand_e, zor_e, zite_e, zbite_e, zif_e, znot_e, z_add, z_sub, z_mul, z_and, z_or, z_xor, z_shl, z_shr, zcpy, -List.getElem?_cons_succ, zg_0, zg_1, zg_2, zg_3, zg_4, zg_5, zg_6, zg_7, zg_8, zg_9, qL_isTable, zb_ne, h]
  · have e := zlt_y ht (by decide)
    have ct : (nI t).toNatClampNeg = t := nI_clamp (by omega)
    have fu := qT_isFull (tb4 ht) (hC t ht) (hT t ht)
    have h8 := (hT t ht).1
    cases hb : tB (T t).1 (T t).2 with
    | false =>
      rw [hb] at fu
      refine ⟨-2, M, ?_, zsc.refl M, Or.inr (Or.inl ⟨e, Or.inl (by rw [ct]; exact hb), rfl⟩)⟩
      simp (disch := omega) [zf_L_group, zmeth, xm_en, zret, zretz, zretv, zseq, zst, zinc, zkl, zskip, zk, zi, za, zbin, zdiv, zrem, zgi, zgr, zld, zldr, zlen, zn, zc, zcall, zcallv, zrcv, zdo, zdov, zpf, zpfc, zas, zasc, zmin, zmax, zcmp, zcz, zand_e, zor_e, zite_e, zbite_e, zif_e, znot_e, z_add, z_sub, z_mul, z_and, z_or, z_xor, z_shl, z_shr, zcpy, -List.getElem?_cons_succ, zg_0, zg_1, zg_2, zg_3, zg_4, zg_5, zg_6, zg_7, zg_8, zg_9, zt_0, zt_12, zt_20, zt_26, zt_32, zf_0_0, zf_0_1, zf_0_2, zf_0_3, zf_0_4, zf_12_0, zf_12_1, zf_12_2, zf_12_4, zf_12_5, zf_20_1, zf_20_2, zf_20_3, zf_20_4, zf_20_6, zf_26_0, zf_26_1, zf_26_2, zf_26_3, zf_32_0, zf_32_1, zf_32_3, zf_32_4, zf_32_5, zf_32_6, qL_isTable, zb_ne, e, zi_1, zf_1, ct, ztb_tag (tb4 ht), fu]
    | true =>
      rw [hb] at fu
      by_cases h7 : 7 < (T t).1
      · refine ⟨-2, M, ?_, zsc.refl M, Or.inr (Or.inl ⟨e, Or.inr (by rw [ct]; exact h7), rfl⟩)⟩
        simp (disch := omega) [zf_L_group, zmeth, xm_en, zret, zretz, zretv, zseq, zst, zinc, zkl, zskip, zk, zi, za, zbin, zdiv, zrem, zgi, zgr, zld, zldr, zlen, zn, zc, zcall, zcallv, zrcv, zdo, zdov, zpf, zpfc, zas, zasc, zmin, zmax, zcmp, zcz, zand_e, zor_e, zite_e, zbite_e, zif_e, znot_e, z_add, z_sub, z_mul, z_and, z_or, z_xor, z_shl, z_shr, zcpy, -List.getElem?_cons_succ, zg_0, zg_1, zg_2, zg_3, zg_4, zg_5, zg_6, zg_7, zg_8, zg_9, zt_0, zt_12, zt_20, zt_26, zt_32, zf_0_0, zf_0_1, zf_0_2, zf_0_3, zf_0_4, zf_12_0, zf_12_1, zf_12_2, zf_12_4, zf_12_5, zf_20_1, zf_20_2, zf_20_3, zf_20_4, zf_20_6, zf_26_0, zf_26_1, zf_26_2, zf_26_3, zf_32_0, zf_32_1, zf_32_3, zf_32_4, zf_32_5, zf_32_6, qL_isTable, zb_ne, e, zi_1, zf_1, ct, ztb_tag (tb4 ht), fu, (hC t ht).1, zc_gt, h7]
      · have hf := (tB_iff (hT t ht)).mp hb
        obtain ⟨g, M1, e1, g1, c1⟩ := qT_countF (by omega) (tb4 ht) (by omega) (hT t ht) hf (hC t ht)
        refine ⟨nI g, M1, ?_, g1, Or.inr (Or.inr ⟨e, by rw [ct]; exact hb, by rw [ct]; omega, g, by rw [ct]; exact c1, rfl⟩)⟩
        simp (disch := omega) [zf_L_group, zmeth, xm_en, zret, zretz, zretv, zseq, zst, zinc, zkl, zskip, zk, zi, za, zbin, zdiv, zrem, zgi, zgr, zld, zldr, zlen, zn, zc, zcall, zcallv, zrcv, zdo, zdov, zpf, zpfc, zas, zasc, zmin, zmax, zcmp, zcz, zand_e, zor_e, zite_e, zbite_e, zif_e, znot_e, z_add, z_sub, z_mul, z_and, z_or, z_xor, z_shl, z_shr, zcpy, -List.getElem?_cons_succ, zg_0, zg_1, zg_2, zg_3, zg_4, zg_5, zg_6, zg_7, zg_8, zg_9, zt_0, zt_12, zt_20, zt_26, zt_32, zf_0_0, zf_0_1, zf_0_2, zf_0_3, zf_0_4, zf_12_0, zf_12_1, zf_12_2, zf_12_4, zf_12_5, zf_20_1, zf_20_2, zf_20_3, zf_20_4, zf_20_6, zf_26_0, zf_26_1, zf_26_2, zf_26_3, zf_32_0, zf_32_1, zf_32_3, zf_32_4, zf_32_5, zf_32_6, qL_isTable, zb_ne, e, zi_1, zf_1, ct, ztb_tag (tb4 ht), fu, (hC t ht).1, zc_gt, h7, e1]
theorem aG_eq {T : tS} {x r r' : Int32} (hT : TO T) (h : aGL T x r) (h' : aGM T x r') : r = r' := by
  rcases h with ⟨a, rfl⟩ | ⟨a, b, rfl⟩ | ⟨a, b, d, k, g, rfl⟩
  · rcases h' with ⟨a', rfl⟩ | ⟨a', _, rfl⟩ | ⟨a', _, _, _, _, rfl⟩
    · rfl
    · rw [a] at a'
      cases a'
    · rw [a] at a'
      cases a'
  · rcases h' with ⟨a', rfl⟩ | ⟨a', _, rfl⟩ | ⟨a', b', d', _, _, rfl⟩
    · rw [a] at a'
      cases a'
    · rfl
    · rcases b with b | b
      · rw [b] at b'
        cases b'
      · omega
  · rcases h' with ⟨a', rfl⟩ | ⟨a', b', rfl⟩ | ⟨a', b', d', B, g', rfl⟩
    · rw [a] at a'
      cases a'
    · rcases b' with b' | b'
      · rw [b] at b'
        cases b'
      · omega
    · obtain ⟨t, ht, rfl⟩ := zlt_t (by decide) a
      have ct : (nI t).toNatClampNeg = t := nI_clamp (by omega)
      rw [ct] at b g g'
      rw [GRP_eq (hT t ht) ((tB_iff (hT t ht)).mp b) g' g]
/-! both sides in step: each call of the class and of the reference keeps one table state for both -/
def Inv (M : zM) : Prop := ∃ T : tS, CS T M ∧ RS T M ∧ TO T
def lsT (x : Int32) : zL := [some (.float 0), some (.ref 0), some (.ref 32), some (.int x)]
theorem pr_table {M : zM} (h : Inv M) (x1 x2 : Int32) : ∃ r r' M1 M2, zf_L_table [.ref 0, .int x1, .int x2] M = some (some r, M1) ∧ zf_M_table [.ref 32, .int x1, .int x2] M1 = some (some r', M2) ∧ Inv M2 ∧ r = r' := by
  obtain ⟨T, hC, hR, hT⟩ := h
  obtain ⟨M1, e1, c1, h1⟩ := qL_table x1 x2 hC
  obtain ⟨M2, e2, r2, t2, l2⟩ := qM_table (M := M1) x1 x2 (hR.hi hT h1) hT
  exact ⟨_, _, M1, M2, e1, e2, ⟨_, c1.lo l2, r2, t2⟩, rfl⟩
theorem pr_set {M : zM} (h : Inv M) (x1 x2 x3 x4 : Int32) : ∃ r r' M1 M2, zf_L_set [.ref 0, .int x1, .int x2, .int x3, .int x4] M = some (some r, M1) ∧ zf_M_set [.ref 32, .int x1, .int x2, .int x3, .int x4] M1 = some (some r', M2) ∧ Inv M2 := by
  obtain ⟨T, hC, hR, hT⟩ := h
  obtain ⟨r, M1, e1, c1, h1⟩ := qL_set x1 x2 x3 x4 hC hT
  obtain ⟨r', M2, e2, r2, t2, l2⟩ := qM_set (M := M1) x1 x2 x3 x4 (hR.hi hT h1) hT
  exact ⟨r, r', M1, M2, e1, e2, _, c1.lo l2, r2, t2⟩
theorem pr_at {M : zM} (h : Inv M) (x1 x2 x3 : Int32) : ∃ r r' M1 M2, zf_L_at [.ref 0, .int x1, .int x2, .int x3] M = some (some r, M1) ∧ zf_M_at [.ref 32, .int x1, .int x2, .int x3] M1 = some (some r', M2) ∧ Inv M2 ∧ r = r' := by
  obtain ⟨T, hC, hR, hT⟩ := h
  exact ⟨_, _, M, M, qL_at x1 x2 x3 hC hT, qM_at x1 x2 x3 hR hT, ⟨T, hC, hR, hT⟩, rfl⟩
theorem pr_empty {M : zM} (h : Inv M) (x1 : Int32) : ∃ r r' M1 M2, zf_L_empty [.ref 0, .int x1] M = some (some r, M1) ∧ zf_M_empty [.ref 32, .int x1] M1 = some (some r', M2) ∧ Inv M2 ∧ r = r' := by
  obtain ⟨T, hC, hR, hT⟩ := h
  exact ⟨_, _, M, M, qL_empty x1 hC hT, qM_empty x1 hR hT, ⟨T, hC, hR, hT⟩, rfl⟩
theorem pr_ways {M : zM} (h : Inv M) (x1 x2 : Int32) : ∃ r r' M1 M2, zf_L_ways [.ref 0, .int x1, .int x2] M = some (some r, M1) ∧ zf_M_ways [.ref 32, .int x1, .int x2] M1 = some (some r', M2) ∧ Inv M2 ∧ r = r' := by
  obtain ⟨T, hC, hR, hT⟩ := h
  obtain ⟨M1, e1, s1⟩ := qL_ways x1 x2 hC hT
  obtain ⟨M2, e2, s2⟩ := qM_ways (M := M1) x1 x2 (hR.hi hT s1.hi) hT
  exact ⟨_, _, M1, M2, e1, e2, ⟨T, (hC.sc s1).lo s2.lo, (hR.hi hT s1.hi).sr hT s2, hT⟩, rfl⟩
theorem pr_end {M : zM} (h : Inv M) (x1 x2 : Int32) : ∃ r r' M1 M2, zf_L_end [.ref 0, .int x1, .int x2] M = some (some r, M1) ∧ zf_M_end [.ref 32, .int x1, .int x2] M1 = some (some r', M2) ∧ Inv M2 ∧ r = r' := by
  obtain ⟨T, hC, hR, hT⟩ := h
  obtain ⟨M1, e1, c1, h1⟩ := qL_end x1 x2 hC hT
  obtain ⟨M2, e2, r2, t2, l2⟩ := qM_end (M := M1) x1 x2 (hR.hi hT h1) hT
  exact ⟨_, _, M1, M2, e1, e2, ⟨_, c1.lo l2, r2, t2⟩, rfl⟩
theorem pr_divide {M : zM} (h : Inv M) (x1 x2 x3 x4 : Int32) : ∃ r r' M1 M2, zf_L_divide [.ref 0, .int x1, .int x2, .int x3, .int x4] M = some (some r, M1) ∧ zf_M_divide [.ref 32, .int x1, .int x2, .int x3, .int x4] M1 = some (some r', M2) ∧ Inv M2 ∧ r = r' := by
  obtain ⟨T, hC, hR, hT⟩ := h
  exact ⟨_, _, M, M, qL_divide x1 x2 x3 x4 hC hT, qM_divide x1 x2 x3 x4 hR hT, ⟨T, hC, hR, hT⟩, rfl⟩
theorem pr_law {M : zM} (h : Inv M) (x1 x2 x3 : Int32) : ∃ r r' M1 M2, zf_L_law [.ref 0, .int x1, .int x2, .int x3] M = some (some r, M1) ∧ zf_M_law [.ref 32, .int x1, .int x2, .int x3] M1 = some (some r', M2) ∧ Inv M2 ∧ r = r' := by
  obtain ⟨T, hC, hR, hT⟩ := h
  exact ⟨_, _, M, M, qL_law x1 x2 x3 hC hT, qM_law x1 x2 x3 hR hT, ⟨T, hC, hR, hT⟩, rfl⟩
theorem pr_joining {M : zM} (h : Inv M) (x1 x2 : Int32) : ∃ r r' M1 M2, zf_L_joining [.ref 0, .int x1, .int x2] M = some (some r, M1) ∧ zf_M_joining [.ref 32, .int x1, .int x2] M1 = some (some r', M2) ∧ Inv M2 ∧ r = r' := by
  obtain ⟨T, hC, hR, hT⟩ := h
  exact ⟨_, _, M, M, qL_joining x1 x2 hC hT, qM_joining x1 x2 hR hT, ⟨T, hC, hR, hT⟩, rfl⟩
theorem pr_made {M : zM} (h : Inv M) (x1 x2 : Int32) : ∃ r r' M1 M2, zf_L_made [.ref 0, .int x1, .int x2] M = some (some r, M1) ∧ zf_M_made [.ref 32, .int x1, .int x2] M1 = some (some r', M2) ∧ Inv M2 ∧ r = r' := by
  obtain ⟨T, hC, hR, hT⟩ := h
  exact ⟨_, _, M, M, qL_made' x1 x2 hC hR hT, qM_made x1 x2 hR hT, ⟨T, hC, hR, hT⟩, rfl⟩
theorem pr_parts {M : zM} (h : Inv M) (x1 x2 : Int32) : ∃ r r' M1 M2, zf_L_parts [.ref 0, .int x1, .int x2] M = some (some r, M1) ∧ zf_M_parts [.ref 32, .int x1, .int x2] M1 = some (some r', M2) ∧ Inv M2 ∧ r = r' := by
  obtain ⟨T, hC, hR, hT⟩ := h
  exact ⟨_, _, M, M, qL_parts x1 x2 hC hT, qM_parts x1 x2 hR hT, ⟨T, hC, hR, hT⟩, rfl⟩
theorem pr_normal {M : zM} (h : Inv M) (x1 x2 : Int32) : ∃ r r' M1 M2, zf_L_normal [.ref 0, .int x1, .int x2] M = some (some r, M1) ∧ zf_M_normal [.ref 32, .int x1, .int x2] M1 = some (some r', M2) ∧ Inv M2 ∧ r = r' := by
  obtain ⟨T, hC, hR, hT⟩ := h
  exact ⟨_, _, M, M, qL_normal x1 x2 hC hT, qM_normal x1 x2 hR hT, ⟨T, hC, hR, hT⟩, rfl⟩
theorem pr_left {M : zM} (h : Inv M) (x1 x2 x3 : Int32) : ∃ r r' M1 M2, zf_L_left [.ref 0, .int x1, .int x2, .int x3] M = some (some r, M1) ∧ zf_M_left [.ref 32, .int x1, .int x2, .int x3] M1 = some (some r', M2) ∧ Inv M2 ∧ r = r' := by
  obtain ⟨T, hC, hR, hT⟩ := h
  obtain ⟨M1, e1, c1, h1⟩ := qL_left x1 x2 x3 hC hT
  obtain ⟨M2, e2, r2, t2, l2⟩ := qM_left (M := M1) x1 x2 x3 (hR.hi hT h1) hT
  exact ⟨_, _, M1, M2, e1, e2, ⟨_, c1.lo l2, r2, t2⟩, rfl⟩
theorem pr_group {M : zM} (h : Inv M) (x1 : Int32) : ∃ r r' M1 M2, zf_L_group [.ref 0, .int x1] M = some (some r, M1) ∧ zf_M_group [.ref 32, .int x1] M1 = some (some r', M2) ∧ Inv M2 ∧ r = r' := by
  obtain ⟨T, hC, hR, hT⟩ := h
  obtain ⟨r, M1, e1, s1, a1⟩ := qL_groupF x1 hC hT
  obtain ⟨r', M2, e2, s2, a2⟩ := qM_groupF (M := M1) x1 (hR.hi hT s1.hi) hT
  exact ⟨r, r', M1, M2, e1, e2, ⟨T, (hC.sc s1).lo s2.lo, (hR.hi hT s1.hi).sr hT s2, hT⟩, aG_eq hT a1 a2⟩
theorem pr_alike {M : zM} (h : Inv M) (x1 x2 x3 : Int32) : ∃ r r' M1 M2, zf_L_alike [.ref 0, .int x1, .int x2, .int x3] M = some (some r, M1) ∧ zf_M_alike [.ref 32, .int x1, .int x2, .int x3] M1 = some (some r', M2) ∧ Inv M2 ∧ r = r' := by
  obtain ⟨T, hC, hR, hT⟩ := h
  obtain ⟨M1, e1, s1⟩ := qL_alikeF x1 x2 x3 hC hT
  obtain ⟨M2, e2, s2⟩ := qM_alikeF (M := M1) x1 x2 x3 (hR.hi hT s1.hi) hT
  exact ⟨_, _, M1, M2, e1, e2, ⟨T, (hC.sc s1).lo s2.lo, (hR.hi hT s1.hi).sr hT s2, hT⟩, rfl⟩
theorem pr_name {M : zM} (h : Inv M) (x1 x2 : Int32) : ∃ r r' M1 M2, zf_L_name [.ref 0, .int x1, .int x2] M = some (some r, M1) ∧ zf_M_name [.ref 32, .int x1, .int x2] M1 = some (some r', M2) ∧ Inv M2 ∧ r = r' := by
  obtain ⟨T, hC, hR, hT⟩ := h
  obtain ⟨M1, e1, c1, h1⟩ := qL_name x1 x2 hC hT
  obtain ⟨M2, e2, r2, t2, l2⟩ := qM_name (M := M1) x1 x2 (hR.hi hT h1) hT
  exact ⟨_, _, M1, M2, e1, e2, ⟨_, c1.lo l2, r2, t2⟩, rfl⟩
theorem pr_square {M : zM} (h : Inv M) (x1 x2 : Int32) : ∃ r r' M1 M2, zf_L_square [.ref 0, .int x1, .int x2] M = some (some r, M1) ∧ zf_M_square [.ref 32, .int x1, .int x2] M1 = some (some r', M2) ∧ Inv M2 ∧ r = r' := by
  obtain ⟨T, hC, hR, hT⟩ := h
  exact ⟨_, _, M, M, qL_square x1 x2 hC hT, qM_square x1 x2 hR hT, ⟨T, hC, hR, hT⟩, rfl⟩
theorem pr_turn {M : zM} (h : Inv M) (x1 x2 : Int32) : ∃ r r' M1 M2, zf_L_turn [.ref 0, .int x1, .int x2] M = some (some r, M1) ∧ zf_M_turn [.ref 32, .int x1, .int x2] M1 = some (some r', M2) ∧ Inv M2 ∧ r = r' := by
  obtain ⟨T, hC, hR, hT⟩ := h
  obtain ⟨M1, e1, c1, h1⟩ := qL_turn x1 x2 hC hT
  obtain ⟨M2, e2, r2, t2, l2⟩ := qM_turn (M := M1) x1 x2 (hR.hi hT h1) hT
  exact ⟨_, _, M1, M2, e1, e2, ⟨_, c1.lo l2, r2, t2⟩, rfl⟩
theorem pr_doubled {M : zM} (h : Inv M) (x1 x2 x3 : Int32) : ∃ r r' M1 M2, zf_L_doubled [.ref 0, .int x1, .int x2, .int x3] M = some (some r, M1) ∧ zf_M_doubled [.ref 32, .int x1, .int x2, .int x3] M1 = some (some r', M2) ∧ Inv M2 ∧ r = r' := by
  obtain ⟨T, hC, hR, hT⟩ := h
  obtain ⟨M1, e1, c1, h1⟩ := qL_doubled x1 x2 x3 hC hT
  obtain ⟨M2, e2, r2, t2, l2⟩ := qM_doubled (M := M1) x1 x2 x3 (hR.hi hT h1) hT
  exact ⟨_, _, M1, M2, e1, e2, ⟨_, c1.lo l2, r2, t2⟩, rfl⟩
theorem pr_product {M : zM} (h : Inv M) (x1 x2 x3 : Int32) : ∃ r r' M1 M2, zf_L_product [.ref 0, .int x1, .int x2, .int x3] M = some (some r, M1) ∧ zf_M_product [.ref 32, .int x1, .int x2, .int x3] M1 = some (some r', M2) ∧ Inv M2 ∧ r = r' := by
  obtain ⟨T, hC, hR, hT⟩ := h
  obtain ⟨M1, e1, c1, h1⟩ := qL_product x1 x2 x3 hC hT
  obtain ⟨M2, e2, r2, t2, l2⟩ := qM_product (M := M1) x1 x2 x3 (hR.hi hT h1) hT
  exact ⟨_, _, M1, M2, e1, e2, ⟨_, c1.lo l2, r2, t2⟩, rfl⟩
theorem pr_size {M : zM} (h : Inv M) (x1 : Int32) : ∃ r r' M1 M2, zf_L_size [.ref 0, .int x1] M = some (some r, M1) ∧ zf_M_size [.ref 32, .int x1] M1 = some (some r', M2) ∧ Inv M2 ∧ r = r' := by
  obtain ⟨T, hC, hR, hT⟩ := h
  exact ⟨_, _, M, M, qL_size x1 hC, qM_size x1 hR, ⟨T, hC, hR, hT⟩, rfl⟩
theorem top_drop {fL fM : zF} {aL aM : zA} {ls : zL} {M M1 M2 : zM} {vL vM : List Value} {r1 r2 : Int32} (h1 : aL ls M = some (vL, M)) (h2 : zrcv 4 vL = true) (h3 : fL vL M = some (some r1, M1)) (h4 : aM ls M1 = some (vM, M1)) (h5 : zrcv 5 vM = true) (h6 : fM vM M1 = some (some r2, M2)) : zseq (zpop (zcallv 4 fL aL)) (zpop (zcallv 5 fM aM)) ls M = some (none, ls, M2) := by
  simp [zseq, zpop, zcallv, h1, h2, h3, h4, h5, h6]
theorem top_cmp {fL fM : zF} {aL aM : zA} {ls : zL} {M M1 M2 : zM} {vL vM : List Value} {r1 r2 : Int32} (h1 : aL ls M = some (vL, M)) (h2 : zrcv 4 vL = true) (h3 : fL vL M = some (some r1, M1)) (h4 : aM ls M1 = some (vM, M1)) (h5 : zrcv 5 vM = true) (h6 : fM vM M1 = some (some r2, M2)) (e : r1 = r2) : zif (zcmp .ne (zcallv 4 fL aL) (zcallv 5 fM aM)) (zretz (zk (nI 0))) (zskip) ls M = some (none, ls, M2) := by
  have n : xe_cd .ne r1 r2 = false := by simp [xe_cd, e]
  simp [zif, zcmp, zskip, zcallv, h1, h2, h3, h4, h5, h6, n]
theorem sx_at {G : xm_G} {i j : Nat} (h : i + j < G.2.2.2.2.1) (h2 : G.2.2.2.2.1 ≤ 2560) (M : zM) : zsx G (zbin z_add (zi 3) (zk (nI j))) (lsT (nI i)) M = some (.int (G.2.2.2.2.2 (i + j)), M) := by
  have e : nI i + nI j = nI (i + j) := nI_add i j
  have p : ¬ nI (i + j) < 0 := nI_pos (by omega)
  have c : (nI (i + j)).toNatClampNeg = i + j := nI_clamp (by omega)
  have q : ¬ G.2.2.2.2.1 ≤ i + j := by omega
  simp [zsx, lsT, zbin, zi, zk, z_add, e, p, c, q]
theorem sx_0 {G : xm_G} {i : Nat} (h : i < G.2.2.2.2.1) (h2 : G.2.2.2.2.1 ≤ 2560) (M : zM) : zsx G (zi 3) (lsT (nI i)) M = some (.int (G.2.2.2.2.2 i), M) := by
  have p : ¬ nI i < 0 := nI_pos (by omega)
  have c : (nI i).toNatClampNeg = i := nI_clamp (by omega)
  have q : ¬ G.2.2.2.2.1 ≤ i := by omega
  simp [zsx, lsT, zi, p, c, q]
theorem rc4 (l : List Value) : zrcv 4 (.ref 0 :: l) = true := rfl
theorem rc5 (l : List Value) : zrcv 5 (.ref 32 :: l) = true := rfl
theorem za_1 (x : Int32) (M : zM) : za 1 (lsT x) M = some (.ref 0, M) := rfl
theorem za_2 (x : Int32) (M : zM) : za 2 (lsT x) M = some (.ref 32, M) := rfl
theorem tO_1 : tO 1 (fun _ _ => 0) := ⟨by decide, fun a ha => ⟨(show 0 = a by omega), (show 0 = a by omega)⟩, fun a b _ _ => Or.inl Nat.one_pos, fun a b d ha hb hd _ _ => by omega, fun a b d ha hb hd _ _ => by omega⟩
theorem kT_1 {M : zM} {k : Nat} (h1 : M k 0 = nI 1) (h2 : M (k + 1) 0 = nI 0) : kT M k 1 (fun _ _ => 0) := ⟨h1, fun a b ha hb => by
  have a0 : a = 0 := by omega
  have b0 : b = 0 := by omega
  subst a0
  subst b0
  exact h2⟩
theorem rT_1 {M : zM} {t : Nat} (h1 : M 33 t = nI 1) (h2 : M 34 (64 * t) = nI 0) : rT M t 1 (fun _ _ => 0) := ⟨h1, fun a b ha hb => by
  have a0 : a = 0 := by omega
  have b0 : b = 0 := by omega
  subst a0
  subst b0
  exact h2⟩
theorem Inv_0 : Inv xp_mm := by
  refine ⟨fun _ => (1, fun _ _ => 0), fun t ht => ?_, fun t ht => ?_, fun t _ => tO_1⟩
  · refine kT_1 ?_ ?_
    · match t, ht with
      | 0, _ => rfl
      | 1, _ => rfl
      | 2, _ => rfl
      | 3, _ => rfl
    · match t, ht with
      | 0, _ => rfl
      | 1, _ => rfl
      | 2, _ => rfl
      | 3, _ => rfl
  · refine rT_1 ?_ ?_
    · match t, ht with
      | 0, _ => rfl
      | 1, _ => rfl
      | 2, _ => rfl
      | 3, _ => rfl
    · match t, ht with
      | 0, _ => rfl
      | 1, _ => rfl
      | 2, _ => rfl
      | 3, _ => rfl
