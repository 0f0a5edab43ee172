/-! group: permutations as lists, products of kept ones -/
def PQ (n : Nat) (p : List Nat) : Prop := p.length = n ∧ p.Nodup ∧ ∀ x, x ∈ p → x < n
theorem PQ.gl {n i : Nat} {p : List Nat} (h : PQ n p) (hi : i < n) : gd p i < n := h.2.2 _ (gd_mem (by rw [h.1]; exact hi))
theorem PQ.mem {n x : Nat} {p : List Nat} (h : PQ n p) (hx : x < n) : x ∈ p := nd_all h.2.1 h.1 h.2.2 hx
theorem PQ.pl {n x : Nat} {p : List Nat} (h : PQ n p) (hx : x < n) : px p x < n := by
  have := (px_mem (h.mem hx)).1
  rw [h.1] at this
  exact this
theorem PQ.gp {n x : Nat} {p : List Nat} (h : PQ n p) (hx : x < n) : gd p (px p x) = x := (px_mem (h.mem hx)).2
theorem PQ.pg {n i : Nat} {p : List Nat} (h : PQ n p) (hi : i < n) : px p (gd p i) = i := px_get h.2.1 (by rw [h.1]; exact hi)
theorem PQ.inj {n i j : Nat} {p : List Nat} (h : PQ n p) (hi : i < n) (hj : j < n) (e : gd p i = gd p j) : i = j := by rw [← h.pg hi, ← h.pg hj, e]
theorem PQ.ext {n : Nat} {p q : List Nat} (h : PQ n p) (h' : PQ n q) (e : ∀ i, i < n → gd p i = gd q i) : p = q := gd_ext (by rw [h.1, h'.1]) (fun i hi => e i (by rw [← h.1]; exact hi))
/-- a list out of a function -/
def fl (n : Nat) (f : Nat → Nat) : List Nat := (List.range n).map f
theorem fl_gd {n i : Nat} {f : Nat → Nat} (hi : i < n) : gd (fl n f) i = f i := by
  unfold fl
  rw [gd_map f (by rw [List.length_range]; exact hi), gd_rg hi]
theorem fl_PQ {n : Nat} {f : Nat → Nat} (h : ∀ i, i < n → f i < n) (hi : ∀ i j, i < n → j < n → f i = f j → i = j) : PQ n (fl n f) := by
  have ln : (fl n f).length = n := by unfold fl; rw [List.length_map, List.length_range]
  refine ⟨ln, nd_gd (fun i j a b e => ?_), fun x hx => ?_⟩
  · rw [ln] at a b
    rw [fl_gd a, fl_gd b] at e
    exact hi i j a b e
  · obtain ⟨k, k1, k2⟩ := List.mem_map.mp hx
    rw [← k2]
    exact h k (List.mem_range.mp k1)
/-- x to p (q x) -/
def cp (p q : List Nat) : List Nat := q.map (gd p)
theorem cp_gd {n i : Nat} {p q : List Nat} (hq : PQ n q) (hi : i < n) : gd (cp p q) i = gd p (gd q i) := gd_map (gd p) (by rw [hq.1]; exact hi)
theorem cp_PQ {n : Nat} {p q : List Nat} (hp : PQ n p) (hq : PQ n q) : PQ n (cp p q) := by
  have ln : (cp p q).length = n := by unfold cp; rw [List.length_map]; exact hq.1
  refine ⟨ln, nd_gd (fun i j a b e => ?_), fun x hx => ?_⟩
  · rw [ln] at a b
    rw [cp_gd hq a, cp_gd hq b] at e
    exact hq.inj a b (hp.inj (hq.gl a) (hq.gl b) e)
  · obtain ⟨k, k1, k2⟩ := List.mem_map.mp hx
    rw [← k2]
    exact hp.gl (hq.2.2 k k1)
theorem id_PQ {n : Nat} : PQ n (List.range n) := ⟨List.length_range, List.nodup_range, fun _ hx => List.mem_range.mp hx⟩
theorem cp_as {n : Nat} {p q r : List Nat} (hp : PQ n p) (hq : PQ n q) (hr : PQ n r) : cp (cp p q) r = cp p (cp q r) := PQ.ext (cp_PQ (cp_PQ hp hq) hr) (cp_PQ hp (cp_PQ hq hr)) (fun i hi => by
  rw [cp_gd hr hi, cp_gd hq (hr.gl hi), cp_gd (cp_PQ hq hr) hi, cp_gd hr hi])
theorem cp_id {n : Nat} {p : List Nat} (hp : PQ n p) : cp p (List.range n) = p := PQ.ext (cp_PQ hp id_PQ) hp (fun i hi => by rw [cp_gd id_PQ hi, gd_rg hi])
theorem id_cp {n : Nat} {p : List Nat} (hp : PQ n p) : cp (List.range n) p = p := PQ.ext (cp_PQ id_PQ hp) hp (fun i hi => by rw [cp_gd hp hi, gd_rg (hp.gl hi)])
/-- the inverse -/
def iv (n : Nat) (p : List Nat) : List Nat := fl n (px p)
theorem iv_PQ {n : Nat} {p : List Nat} (hp : PQ n p) : PQ n (iv n p) := fl_PQ (fun _ hi => hp.pl hi) (fun i j hi hj e => by rw [← hp.gp hi, ← hp.gp hj, e])
theorem cp_iv {n : Nat} {p : List Nat} (hp : PQ n p) : cp p (iv n p) = List.range n := PQ.ext (cp_PQ hp (iv_PQ hp)) id_PQ (fun i hi => by
  rw [cp_gd (iv_PQ hp) hi, gd_rg hi]
  unfold iv
  rw [fl_gd hi, hp.gp hi])
theorem iv_cp {n : Nat} {p : List Nat} (hp : PQ n p) : cp (iv n p) p = List.range n := PQ.ext (cp_PQ (iv_PQ hp) hp) id_PQ (fun i hi => by
  rw [cp_gd hp hi, gd_rg hi]
  unfold iv
  rw [fl_gd (hp.gl hi), hp.pg hi])
/-- kept permutations: e i j fixes what is below i and takes i to j, for the bits j of b i -/
def TB (n : Nat) (e : Nat → Nat → List Nat) (b : Nat → Nat) : Prop := ∀ i j, (b i).testBit j = true → (i < j ∧ j < n) ∧ PQ n (e i j) ∧ (∀ x, x < i → gd (e i j) x = x) ∧ gd (e i j) i = j
def inT (n : Nat) (e : Nat → Nat → List Nat) (b : Nat → Nat) (i : Nat) (t : List Nat) : Prop := t = List.range n ∨ ∃ j, (b i).testBit j = true ∧ t = e i j
def RR (n : Nat) (e : Nat → Nat → List Nat) (b : Nat → Nat) : Nat → Nat → List Nat → Prop
  | 0, _, p => p = List.range n
  | d + 1, i, p => ∃ t u, inT n e b i t ∧ RR n e b d (i + 1) u ∧ p = cp t u
theorem inT.pq {n i : Nat} {e : Nat → Nat → List Nat} {b : Nat → Nat} {t : List Nat} (hB : TB n e b) (h : inT n e b i t) : PQ n t ∧ ∀ x, x < i → x < n → gd t x = x := by
  rcases h with rfl | ⟨j, h1, rfl⟩
  · exact ⟨id_PQ, fun x _ hx => gd_rg hx⟩
  · have := hB i j h1
    exact ⟨this.2.1, fun x hx _ => this.2.2.1 x hx⟩
theorem RR.pq {n : Nat} {e : Nat → Nat → List Nat} {b : Nat → Nat} (hB : TB n e b) : ∀ {d i : Nat} {p : List Nat}, RR n e b d i p → PQ n p ∧ ∀ x, x < i → x < n → gd p x = x
  | 0, i, p, h => by
    have h : p = List.range n := h
    subst h
    exact ⟨id_PQ, fun x _ hx => gd_rg hx⟩
  | d + 1, i, p, h => by
    obtain ⟨t, u, h1, h2, rfl⟩ := h
    obtain ⟨t1, t2⟩ := h1.pq hB
    obtain ⟨u1, u2⟩ := RR.pq hB h2
    exact ⟨cp_PQ t1 u1, fun x hx hn => by rw [cp_gd u1 hn, u2 x (by omega) hn, t2 x hx hn]⟩
theorem RR.id {n : Nat} {e : Nat → Nat → List Nat} {b : Nat → Nat} : ∀ {d i : Nat}, RR n e b d i (List.range n)
  | 0, _ => rfl
  | d + 1, i => ⟨List.range n, List.range n, Or.inl rfl, RR.id, (cp_id id_PQ).symm⟩
theorem RR.up {n : Nat} {e : Nat → Nat → List Nat} {b : Nat → Nat} (hB : TB n e b) {d i : Nat} {p : List Nat} (h : RR n e b d (i + 1) p) : RR n e b (d + 1) i p := ⟨List.range n, p, Or.inl rfl, h, (id_cp (RR.pq hB h).1).symm⟩
theorem RR.kept {n : Nat} {e : Nat → Nat → List Nat} {b : Nat → Nat} (hB : TB n e b) {d i : Nat} {t : List Nat} (h : inT n e b i t) : RR n e b (d + 1) i t := ⟨t, List.range n, h, RR.id, (cp_id (h.pq hB).1).symm⟩
theorem RR.ups {n : Nat} {e : Nat → Nat → List Nat} {b : Nat → Nat} (hB : TB n e b) {p : List Nat} : ∀ (k d i : Nat), RR n e b d (i + k) p → RR n e b (d + k) i p
  | 0, d, i, h => h
  | k + 1, d, i, h => RR.up hB (RR.ups hB k d (i + 1) (by
      have : i + 1 + k = i + (k + 1) := by omega
      rw [this]
      exact h))
theorem RR.down {n : Nat} {e : Nat → Nat → List Nat} {b : Nat → Nat} (hB : TB n e b) {d i : Nat} {p : List Nat} (hi : i < n) (h : RR n e b (d + 1) i p) (hp : gd p i = i) : RR n e b d (i + 1) p := by
  obtain ⟨t, u, h1, h2, rfl⟩ := h
  obtain ⟨u1, u2⟩ := RR.pq hB h2
  rw [cp_gd u1 hi, u2 i (by omega) hi] at hp
  rcases h1 with rfl | ⟨j, h1, rfl⟩
  · rw [id_cp u1]
    exact h2
  · have := hB i j h1
    rw [this.2.2.2] at hp
    omega
theorem RR.downs {n : Nat} {e : Nat → Nat → List Nat} {b : Nat → Nat} (hB : TB n e b) {p : List Nat} (h : RR n e b n 0 p) : ∀ i d, i + d = n → (∀ x, x < i → gd p x = x) → RR n e b d i p
  | 0, d, e1, _ => by
    have : d = n := by omega
    subst this
    exact h
  | i + 1, d, e1, hp => RR.down hB (by omega) (RR.downs hB h i (d + 1) (by omega) (fun x hx => hp x (by omega))) (hp i (by omega))
/-- products of two kept ones are products of kept ones in order -/
def CL (n : Nat) (e : Nat → Nat → List Nat) (b : Nat → Nat) : Prop := ∀ i j i' j', (b i).testBit j = true → (b i').testBit j' = true → RR n e b n 0 (cp (e i j) (e i' j'))
theorem RR.pair {n : Nat} {e : Nat → Nat → List Nat} {b : Nat → Nat} (hB : TB n e b) (hC : CL n e b) {d i k : Nat} (hd : i + (d + 1) = n) (hk : i ≤ k) (hkn : k < n) {t s : List Nat} (ht : inT n e b k t) (hs : inT n e b i s) : RR n e b (d + 1) i (cp t s) := by
  obtain ⟨t1, t2⟩ := ht.pq hB
  obtain ⟨s1, s2⟩ := hs.pq hB
  rcases ht with rfl | ⟨j, h1, rfl⟩
  · rw [id_cp s1]
    exact RR.kept hB hs
  · rcases hs with rfl | ⟨j', h2, rfl⟩
    · rw [cp_id t1]
      have a : RR n e b (n - k - 1 + 1) k (e k j) := RR.kept hB (Or.inr ⟨j, h1, rfl⟩)
      have e1 : d + 1 = n - k - 1 + 1 + (k - i) := by omega
      have e2 : i + (k - i) = k := by omega
      rw [e1]
      exact RR.ups hB (k - i) _ i (by rw [e2]; exact a)
    · refine RR.downs hB (hC k j i j' h1 h2) i (d + 1) hd (fun x hx => ?_)
      rw [cp_gd s1 (by omega), s2 x hx (by omega), t2 x (by omega) (by omega)]
theorem RR.mul {n : Nat} {e : Nat → Nat → List Nat} {b : Nat → Nat} (hB : TB n e b) (hC : CL n e b) : ∀ (d i : Nat), i + d = n → ∀ p q, RR n e b d i p → RR n e b d i q → RR n e b d i (cp p q)
  | 0, i, _, p, q, hp, hq => by
    have hp : p = List.range n := hp
    have hq : q = List.range n := hq
    subst hp
    subst hq
    exact cp_id id_PQ
  | d + 1, i, hd, p, q, hp, hq => by
    have ih := RR.mul hB hC d (i + 1) (by omega)
    have lemA : ∀ (c k : Nat) (u s : List Nat), k + c = n → i + 1 ≤ k → RR n e b c k u → inT n e b i s → RR n e b (d + 1) i (cp u s) := by
      intro c
      induction c with
      | zero =>
        intro k u s _ _ hu hs
        have hu : u = List.range n := hu
        subst hu
        rw [id_cp (hs.pq hB).1]
        exact RR.kept hB hs
      | succ c ihc =>
        intro k u s hk hik hu hs
        obtain ⟨t, u', h1, h2, rfl⟩ := hu
        obtain ⟨s', v, g1, g2, g3⟩ := ihc (k + 1) u' s (by omega) (by omega) h2 hs
        obtain ⟨s2, v2, g4, g5, g6⟩ := RR.pair hB hC hd (by omega) (by omega) h1 g1
        have pt := (h1.pq hB).1
        have pu := (RR.pq hB h2).1
        have ps := (hs.pq hB).1
        have ps' := (g1.pq hB).1
        have pv := (RR.pq hB g2).1
        have ps2 := (g4.pq hB).1
        have pv2 := (RR.pq hB g5).1
        refine ⟨s2, cp v2 v, g4, ih v2 v g5 g2, ?_⟩
        rw [cp_as pt pu ps, g3, ← cp_as pt ps' pv, g6, cp_as ps2 pv2 pv]
    obtain ⟨t, u, h1, h2, rfl⟩ := hp
    obtain ⟨t', u', h3, h4, rfl⟩ := hq
    obtain ⟨s, v, g1, g2, g3⟩ := lemA d (i + 1) u t' (by omega) (by omega) h2 h3
    obtain ⟨s2, v2, g4, g5, g6⟩ := RR.pair hB hC hd (Nat.le_refl i) (by omega) h1 g1
    have pt := (h1.pq hB).1
    have pu := (RR.pq hB h2).1
    have pt' := (h3.pq hB).1
    have pu' := (RR.pq hB h4).1
    have ps := (g1.pq hB).1
    have pv := (RR.pq hB g2).1
    have ps2 := (g4.pq hB).1
    have pv2 := (RR.pq hB g5).1
    refine ⟨s2, cp v2 (cp v u'), g4, ih _ _ g5 (ih _ _ g2 h4), ?_⟩
    rw [cp_as pt pu (cp_PQ pt' pu'), ← cp_as pu pt' pu', g3, cp_as ps pv pu', ← cp_as pt ps (cp_PQ pv pu'), g6, cp_as ps2 pv2 (cp_PQ pv pu')]
/-- more kept ones do no harm -/
def EX (e : Nat → Nat → List Nat) (b : Nat → Nat) (e' : Nat → Nat → List Nat) (b' : Nat → Nat) : Prop := ∀ i j, (b i).testBit j = true → (b' i).testBit j = true ∧ e' i j = e i j
theorem EX.refl (e : Nat → Nat → List Nat) (b : Nat → Nat) : EX e b e b := fun _ _ h => ⟨h, rfl⟩
theorem EX.trans {e e1 e2 : Nat → Nat → List Nat} {b b1 b2 : Nat → Nat} (h : EX e b e1 b1) (h2 : EX e1 b1 e2 b2) : EX e b e2 b2 := fun i j q => ⟨(h2 i j (h i j q).1).1, (h2 i j (h i j q).1).2.trans (h i j q).2⟩
theorem inT.ex {n i : Nat} {e e' : Nat → Nat → List Nat} {b b' : Nat → Nat} {t : List Nat} (hE : EX e b e' b') (h : inT n e b i t) : inT n e' b' i t := by
  rcases h with rfl | ⟨j, h1, rfl⟩
  · exact Or.inl rfl
  · exact Or.inr ⟨j, (hE i j h1).1, (hE i j h1).2.symm⟩
theorem RR.ex {n : Nat} {e e' : Nat → Nat → List Nat} {b b' : Nat → Nat} (hE : EX e b e' b') : ∀ {d i : Nat} {p : List Nat}, RR n e b d i p → RR n e' b' d i p
  | 0, _, _, h => h
  | d + 1, i, p, h => by
    obtain ⟨t, u, h1, h2, h3⟩ := h
    exact ⟨t, u, h1.ex hE, RR.ex hE h2, h3⟩
/-! how many products there are -/
def TL (n : Nat) (e : Nat → Nat → List Nat) (b : Nat → Nat) (i : Nat) : List (List Nat) := List.range n :: ((List.range n).filter (fun j => (b i).testBit j)).map (e i)
def RL (n : Nat) (e : Nat → Nat → List Nat) (b : Nat → Nat) : Nat → Nat → List (List Nat)
  | 0, _ => [List.range n]
  | d + 1, i => (TL n e b i).flatMap (fun t => (RL n e b d (i + 1)).map (cp t))
theorem TL_m {n i : Nat} {e : Nat → Nat → List Nat} {b : Nat → Nat} (hB : TB n e b) {t : List Nat} : t ∈ TL n e b i ↔ inT n e b i t := by
  unfold TL inT
  rw [List.mem_cons]
  constructor
  · intro h
    rcases h with h | h
    · exact Or.inl h
    · obtain ⟨j, j1, j2⟩ := List.mem_map.mp h
      exact Or.inr ⟨j, (List.mem_filter.mp j1).2, j2.symm⟩
  · intro h
    rcases h with h | ⟨j, h1, h2⟩
    · exact Or.inl h
    · exact Or.inr (List.mem_map.mpr ⟨j, List.mem_filter.mpr ⟨List.mem_range.mpr (hB i j h1).1.2, h1⟩, h2.symm⟩)
theorem RL_m {n : Nat} {e : Nat → Nat → List Nat} {b : Nat → Nat} (hB : TB n e b) : ∀ {d i : Nat} {p : List Nat}, p ∈ RL n e b d i ↔ RR n e b d i p
  | 0, i, p => List.mem_singleton
  | d + 1, i, p => by
    unfold RL RR
    rw [List.mem_flatMap]
    constructor
    · intro ⟨t, h1, h2⟩
      obtain ⟨u, u1, u2⟩ := List.mem_map.mp h2
      exact ⟨t, u, (TL_m hB).mp h1, (RL_m hB).mp u1, u2.symm⟩
    · intro ⟨t, u, h1, h2, h3⟩
      exact ⟨t, (TL_m hB).mpr h1, List.mem_map.mpr ⟨u, (RL_m hB).mpr h2, h3.symm⟩⟩
theorem TL_nd {n i : Nat} {e : Nat → Nat → List Nat} {b : Nat → Nat} (hB : TB n e b) (hi : i < n) : (TL n e b i).Nodup ∧ ∀ t t', t ∈ TL n e b i → t' ∈ TL n e b i → gd t i = gd t' i → t = t' := by
  have key : ∀ t t', t ∈ TL n e b i → t' ∈ TL n e b i → gd t i = gd t' i → t = t' := fun t t' h h' q => by
    rcases (TL_m hB).mp h with rfl | ⟨j, h1, rfl⟩
    · rcases (TL_m hB).mp h' with rfl | ⟨j', h2, rfl⟩
      · rfl
      · have := hB i j' h2
        rw [gd_rg hi, this.2.2.2] at q
        omega
    · have a := hB i j h1
      rcases (TL_m hB).mp h' with rfl | ⟨j', h2, rfl⟩
      · rw [gd_rg hi, a.2.2.2] at q
        omega
      · have c := hB i j' h2
        rw [a.2.2.2, c.2.2.2] at q
        rw [q]
  refine ⟨?_, key⟩
  unfold TL
  refine List.nodup_cons.mpr ⟨fun h => ?_, nd_map (nd_filter List.nodup_range) (fun x y hx hy q => ?_)⟩
  · obtain ⟨j, j1, j2⟩ := List.mem_map.mp h
    have := hB i j (List.mem_filter.mp j1).2
    rw [j2, gd_rg hi] at this
    omega
  · have a := (hB i x (List.mem_filter.mp hx).2).2.2.2
    have c := (hB i y (List.mem_filter.mp hy).2).2.2.2
    rw [q, c] at a
    exact a.symm
theorem cp_inj {n : Nat} {t u u' : List Nat} (ht : PQ n t) (hu : PQ n u) (hu' : PQ n u') (h : cp t u = cp t u') : u = u' := PQ.ext hu hu' (fun i hi => by
  have : gd (cp t u) i = gd (cp t u') i := by rw [h]
  rw [cp_gd hu hi, cp_gd hu' hi] at this
  exact ht.inj (hu.gl hi) (hu'.gl hi) this)
theorem nd_flat {α β : Type} {f : α → List β} : ∀ {l : List α}, l.Nodup → (∀ x, x ∈ l → (f x).Nodup) → (∀ x y a, x ∈ l → y ∈ l → a ∈ f x → a ∈ f y → x = y) → (l.flatMap f).Nodup
  | [], _, _, _ => List.nodup_nil
  | x :: l, h, h1, h2 => by
    have n2 := List.nodup_cons.mp h
    rw [List.flatMap_cons, List.nodup_append]
    refine ⟨h1 x (List.mem_cons_self ..), nd_flat n2.2 (fun y hy => h1 y (List.mem_cons_of_mem _ hy)) (fun y z a hy hz => h2 y z a (List.mem_cons_of_mem _ hy) (List.mem_cons_of_mem _ hz)), fun a ha c hc e => ?_⟩
    obtain ⟨y, y1, y2⟩ := List.mem_flatMap.mp hc
    rw [← e] at y2
    have := h2 x y a (List.mem_cons_self ..) (List.mem_cons_of_mem _ y1) ha y2
    subst this
    exact n2.1 y1
theorem RL_nd {n : Nat} {e : Nat → Nat → List Nat} {b : Nat → Nat} (hB : TB n e b) : ∀ (d i : Nat), i + d = n → (RL n e b d i).Nodup
  | 0, i, _ => List.nodup_cons.mpr ⟨List.not_mem_nil, List.nodup_nil⟩
  | d + 1, i, hd => by
    obtain ⟨t1, t2⟩ := TL_nd hB (show i < n by omega)
    refine nd_flat t1 (fun t ht => nd_map (RL_nd hB d (i + 1) (by omega)) (fun u u' hu hu' q => cp_inj (((TL_m hB).mp ht).pq hB).1 (RR.pq hB ((RL_m hB).mp hu)).1 (RR.pq hB ((RL_m hB).mp hu')).1 q)) (fun t t' a ht ht' ha ha' => ?_)
    obtain ⟨u, u1, u2⟩ := List.mem_map.mp ha
    obtain ⟨u', u1', u2'⟩ := List.mem_map.mp ha'
    obtain ⟨q1, q2⟩ := RR.pq hB ((RL_m hB).mp u1)
    obtain ⟨q1', q2'⟩ := RR.pq hB ((RL_m hB).mp u1')
    refine t2 t t' ht ht' ?_
    have : gd (cp t u) i = gd (cp t' u') i := by rw [u2, u2']
    rw [cp_gd q1 (by omega), cp_gd q1' (by omega), q2 i (by omega) (by omega), q2' i (by omega) (by omega)] at this
    exact this
theorem len_flat {α β : Type} {f : α → List β} {m : Nat} : ∀ {l : List α}, (∀ x, x ∈ l → (f x).length = m) → (l.flatMap f).length = l.length * m
  | [], _ => by simp
  | x :: l, h => by
    rw [List.flatMap_cons, List.length_append, h x (List.mem_cons_self ..), len_flat (fun y hy => h y (List.mem_cons_of_mem _ hy)), List.length_cons, Nat.succ_mul]
    omega
/-- the choices -/
def ch (n : Nat) (b : Nat → Nat) (i : Nat) : Nat := 1 + ((List.range n).filter (fun j => (b i).testBit j)).length
theorem RL_len {n : Nat} {e : Nat → Nat → List Nat} {b : Nat → Nat} (d i : Nat) : (RL n e b (d + 1) i).length = ch n b i * (RL n e b d (i + 1)).length := by
  show ((TL n e b i).flatMap (fun t => (RL n e b d (i + 1)).map (cp t))).length = _
  rw [len_flat (m := (RL n e b d (i + 1)).length) (fun t _ => List.length_map ..)]
  unfold TL ch
  rw [List.length_cons, List.length_map, Nat.add_comm]
