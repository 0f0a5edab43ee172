/-! name: renamings as lists of the old elements in the order of their new names; the order of tables -/
def gd : List Nat → Nat → Nat
  | [], _ => 0
  | a :: _, 0 => a
  | _ :: l, i + 1 => gd l i
def px : List Nat → Nat → Nat
  | [], _ => 0
  | a :: l, x => if a = x then 0 else px l x + 1
theorem px_mem : ∀ {l : List Nat} {x : Nat}, x ∈ l → px l x < l.length ∧ gd l (px l x) = x
  | [], x, h => by cases h
  | a :: l, x, h => by
    by_cases e : a = x
    · subst e
      simp [px, gd]
    · have h2 : x ∈ l := by
        rcases List.mem_cons.mp h with q | q
        · exact absurd q.symm e
        · exact q
      have := px_mem h2
      simp only [px, if_neg e, gd, List.length_cons]
      exact ⟨by omega, this.2⟩
theorem gd_mem : ∀ {l : List Nat} {i : Nat}, i < l.length → gd l i ∈ l
  | [], i, h => absurd h (Nat.not_lt_zero i)
  | a :: l, 0, _ => List.mem_cons_self ..
  | a :: l, i + 1, h => List.mem_cons_of_mem _ (gd_mem (by simpa using h))
theorem px_get : ∀ {l : List Nat} {i : Nat}, l.Nodup → i < l.length → px l (gd l i) = i
  | [], i, _, h => absurd h (Nat.not_lt_zero i)
  | a :: l, 0, _, _ => if_pos rfl
  | a :: l, i + 1, hn, h => by
    have h2 : i < l.length := by simpa using h
    have n2 := List.nodup_cons.mp hn
    have ne : a ≠ gd l i := fun e => n2.1 (e ▸ gd_mem h2)
    show (if a = gd l i then 0 else px l (gd l i) + 1) = i + 1
    rw [if_neg ne, px_get n2.2 h2]
theorem gd_app : ∀ {l m : List Nat} {i : Nat}, i < l.length → gd (l ++ m) i = gd l i
  | [], _, i, h => absurd h (Nat.not_lt_zero i)
  | a :: l, m, 0, _ => rfl
  | a :: l, m, i + 1, h => gd_app (l := l) (by simpa using h)
theorem gd_new : ∀ {l m : List Nat} {x : Nat}, gd (l ++ x :: m) l.length = x
  | [], _, _ => rfl
  | a :: l, m, x => gd_new (l := l)
theorem px_app : ∀ {l m : List Nat} {x : Nat}, x ∈ l → px (l ++ m) x = px l x
  | [], _, _, h => by cases h
  | a :: l, m, x, h => by
    show (if a = x then 0 else px (l ++ m) x + 1) = if a = x then 0 else px l x + 1
    by_cases e : a = x
    · rw [if_pos e, if_pos e]
    · have h2 : x ∈ l := by
        rcases List.mem_cons.mp h with q | q
        · exact absurd q.symm e
        · exact q
      rw [if_neg e, if_neg e, px_app h2]
theorem px_out : ∀ {l m : List Nat} {x : Nat}, x ∉ l → px (l ++ m) x = l.length + px m x
  | [], m, x, _ => (Nat.zero_add _).symm
  | a :: l, m, x, h => by
    have e : a ≠ x := fun q => h (q ▸ List.mem_cons_self ..)
    show (if a = x then 0 else px (l ++ m) x + 1) = _
    rw [if_neg e, px_out (fun q => h (List.mem_cons_of_mem _ q)), List.length_cons]
    omega
theorem nd_le {α : Type} [DecidableEq α] : ∀ {A B : List α}, A.Nodup → (∀ x, x ∈ A → x ∈ B) → A.length ≤ B.length
  | [], B, _, _ => Nat.zero_le _
  | a :: A, B, hn, h => by
    have n2 := List.nodup_cons.mp hn
    have ha := h a (List.mem_cons_self ..)
    have q := nd_le (A := A) (B := B.erase a) n2.2 (fun x hx => (List.mem_erase_of_ne (show x ≠ a from fun e => n2.1 (e ▸ hx))).mpr (h x (List.mem_cons_of_mem _ hx)))
    rw [List.length_erase_of_mem ha] at q
    have := List.length_pos_of_mem ha
    simp only [List.length_cons]
    omega
theorem nd_all {n : Nat} {l : List Nat} (h : l.Nodup) (h1 : l.length = n) (h2 : ∀ x, x ∈ l → x < n) {x : Nat} (hx : x < n) : x ∈ l := by
  by_cases q : x ∈ l
  · exact q
  · have := nd_le (A := x :: l) (B := List.range n) (List.nodup_cons.mpr ⟨q, h⟩) (fun y hy => by
      rw [List.mem_range]
      rcases List.mem_cons.mp hy with e | e
      · exact e ▸ hx
      · exact h2 y e)
    simp only [List.length_cons, List.length_range] at this
    omega
def PL (n : Nat) (l : List Nat) : Prop := l.length = n ∧ l.Nodup ∧ (∀ x, x ∈ l → x < n) ∧ gd l 0 = 0
def PP (n : Nat) (l : List Nat) : Prop := (1 ≤ l.length ∧ l.length ≤ n) ∧ l.Nodup ∧ (∀ x, x ∈ l → x < n) ∧ gd l 0 = 0
theorem PL.gl {n i : Nat} {l : List Nat} (h : PL n l) (hi : i < n) : gd l i < n := h.2.2.1 _ (gd_mem (by rw [h.1]; exact hi))
theorem PL.mem {n x : Nat} {l : List Nat} (h : PL n l) (hx : x < n) : x ∈ l := nd_all h.2.1 h.1 h.2.2.1 hx
theorem PL.pl {n x : Nat} {l : List Nat} (h : PL n l) (hx : x < n) : px l x < n := by
  have := (px_mem (h.mem hx)).1
  rw [h.1] at this
  exact this
theorem PL.gp {n x : Nat} {l : List Nat} (h : PL n l) (hx : x < n) : gd l (px l x) = x := (px_mem (h.mem hx)).2
theorem PL.pg {n i : Nat} {l : List Nat} (h : PL n l) (hi : i < n) : px l (gd l i) = i := px_get h.2.1 (by rw [h.1]; exact hi)
theorem PP.gl {n i : Nat} {l : List Nat} (h : PP n l) (hi : i < l.length) : gd l i < n := h.2.2.1 _ (gd_mem hi)
theorem PP.full {n : Nat} {l : List Nat} (h : PP n l) (e : l.length = n) : PL n l := ⟨e, h.2⟩
theorem PP.mem0 {n : Nat} {l : List Nat} (h : PP n l) : 0 ∈ l := by
  have := gd_mem (l := l) (i := 0) (by have := h.1; omega)
  rw [h.2.2.2] at this
  exact this
theorem PP.up {n x : Nat} {l : List Nat} (h : PP n l) (hl : l.length < n) (hx : x < n) (q : x ∉ l) : PP n (l ++ [x]) := by
  refine ⟨by rw [List.length_append, List.length_singleton]; omega, ?_, fun y hy => ?_, ?_⟩
  · rw [List.nodup_append]
    refine ⟨h.2.1, List.nodup_cons.mpr ⟨List.not_mem_nil, List.nodup_nil⟩, fun a ha b hb e => ?_⟩
    rw [List.mem_singleton] at hb
    subst e
    subst hb
    exact q ha
  · rcases List.mem_append.mp hy with e | e
    · exact h.2.2.1 y e
    · rw [List.mem_singleton] at e
      exact e ▸ hx
  · rw [gd_app (by have := h.1; omega)]
    exact h.2.2.2
/-- the table renamed -/
def rn (c : tC) (l : List Nat) : tC := fun i j => px l (c (gd l i) (gd l j))
theorem rn_F {n : Nat} {c : tC} {l : List Nat} (hf : tF n c) (h : PL n l) : tF n (rn c l) := fun _ _ hi hj => h.pl (hf _ _ (h.gl hi) (h.gl hj))
theorem rn_O {n : Nat} {c : tC} {l : List Nat} (hO : tO n c) (hf : tF n c) (h : PL n l) : tO n (rn c l) := by
  have h0 : gd l 0 = 0 := h.2.2.2
  refine ⟨hO.1, fun a ha => ⟨?_, ?_⟩, fun a b ha hb => Or.inl (rn_F hf h a b ha hb), fun a b d ha hb hd e _ => ?_, fun a b d ha hb hd e _ => ?_⟩
  · show px l (c (gd l 0) (gd l a)) = a
    rw [h0, (hO.2.1 _ (h.gl ha)).1, h.pg ha]
  · show px l (c (gd l a) (gd l 0)) = a
    rw [h0, (hO.2.1 _ (h.gl ha)).2, h.pg ha]
  · have f1 := hf _ _ (h.gl ha) (h.gl hb)
    have f2 := hf _ _ (h.gl ha) (h.gl hd)
    have e2 : c (gd l a) (gd l b) = c (gd l a) (gd l d) := by
      rw [← h.gp f1, ← h.gp f2]
      exact congrArg (gd l) e
    have e3 := hO.2.2.2.1 _ _ _ (h.gl ha) (h.gl hb) (h.gl hd) e2 (Nat.lt_of_lt_of_le f1 hO.1.2)
    rw [← h.pg hb, ← h.pg hd, e3]
  · have f1 := hf _ _ (h.gl ha) (h.gl hd)
    have f2 := hf _ _ (h.gl hb) (h.gl hd)
    have e2 : c (gd l a) (gd l d) = c (gd l b) (gd l d) := by
      rw [← h.gp f1, ← h.gp f2]
      exact congrArg (gd l) e
    have e3 := hO.2.2.2.2 _ _ _ (h.gl ha) (h.gl hb) (h.gl hd) e2 (Nat.lt_of_lt_of_le f1 hO.1.2)
    rw [← h.pg ha, ← h.pg hb, e3]
def tq (n : Nat) (A B : tC) : Prop := ∀ i j, i < n → j < n → A i j = B i j
def tl (n : Nat) (A B : tC) : Prop := ∃ i j, i < n ∧ j < n ∧ A i j < B i j ∧ ∀ x y, x < n → y < n → (x < i ∨ x = i ∧ y < j) → A x y = B x y
theorem tq.symm {n : Nat} {A B : tC} (h : tq n A B) : tq n B A := fun i j hi hj => (h i j hi hj).symm
theorem tq.trans {n : Nat} {A B C : tC} (h : tq n A B) (h2 : tq n B C) : tq n A C := fun i j hi hj => (h i j hi hj).trans (h2 i j hi hj)
theorem tl_ne {n : Nat} {A B : tC} (h : tl n A B) (q : tq n A B) : False := by
  obtain ⟨i, j, hi, hj, h1, _⟩ := h
  have := q i j hi hj
  omega
theorem tl_as {n : Nat} {A B : tC} (h : tl n A B) (g : tl n B A) : False := by
  obtain ⟨i, j, hi, hj, h1, h2⟩ := h
  obtain ⟨x, y, hx, hy, g1, g2⟩ := g
  by_cases e : i < x ∨ i = x ∧ j < y
  · have := g2 i j hi hj e
    omega
  · by_cases e2 : x < i ∨ x = i ∧ y < j
    · have := h2 x y hx hy e2
      omega
    · have e3 : i = x := by omega
      have e4 : j = y := by omega
      subst e3
      subst e4
      omega
theorem tl_tr {n : Nat} {A B C : tC} (h : tl n A B) (g : tl n B C) : tl n A C := by
  obtain ⟨i, j, hi, hj, h1, h2⟩ := h
  obtain ⟨x, y, hx, hy, g1, g2⟩ := g
  by_cases e : i < x ∨ i = x ∧ j < y
  · refine ⟨i, j, hi, hj, by have := g2 i j hi hj e; omega, fun a b ha hb q => (h2 a b ha hb q).trans (g2 a b ha hb (by omega))⟩
  · by_cases e2 : x < i ∨ x = i ∧ y < j
    · refine ⟨x, y, hx, hy, by have := h2 x y hx hy e2; omega, fun a b ha hb q => (h2 a b ha hb (by omega)).trans (g2 a b ha hb q)⟩
    · have e3 : i = x := by omega
      have e4 : j = y := by omega
      subst e3
      subst e4
      exact ⟨i, j, hi, hj, by omega, fun a b ha hb q => (h2 a b ha hb q).trans (g2 a b ha hb q)⟩
theorem tl_l {n : Nat} {A B C : tC} (q : tq n A B) (h : tl n A C) : tl n B C := by
  obtain ⟨i, j, hi, hj, h1, h2⟩ := h
  exact ⟨i, j, hi, hj, by rw [← q i j hi hj]; exact h1, fun x y hx hy e => (q x y hx hy).symm.trans (h2 x y hx hy e)⟩
theorem tl_r {n : Nat} {A B C : tC} (q : tq n B C) (h : tl n A B) : tl n A C := by
  obtain ⟨i, j, hi, hj, h1, h2⟩ := h
  exact ⟨i, j, hi, hj, by rw [← q i j hi hj]; exact h1, fun x y hx hy e => (h2 x y hx hy e).trans (q x y hx hy)⟩
theorem tl_to {n : Nat} (h8 : n ≤ 8) (A B : tC) : tl n A B ∨ tq n A B ∨ tl n B A := by
  have key : ∀ p, (∀ i j, i < n → j < n → 8 * i + j < p → A i j = B i j) ∨ tl n A B ∨ tl n B A := by
    intro p
    induction p with
    | zero => exact Or.inl (fun i j _ _ h => absurd h (Nat.not_lt_zero _))
    | succ p ih =>
      rcases ih with ih | ih
      · by_cases e : p / 8 < n ∧ p % 8 < n
        · have before : ∀ x y, x < n → y < n → (x < p / 8 ∨ x = p / 8 ∧ y < p % 8) → A x y = B x y := fun x y hx hy q => ih x y hx hy (by omega)
          rcases Nat.lt_trichotomy (A (p / 8) (p % 8)) (B (p / 8) (p % 8)) with q | q | q
          · exact Or.inr (Or.inl ⟨_, _, e.1, e.2, q, before⟩)
          · refine Or.inl (fun i j hi hj h => ?_)
            by_cases z : 8 * i + j < p
            · exact ih i j hi hj z
            · have z1 : i = p / 8 := by omega
              have z2 : j = p % 8 := by omega
              rw [z1, z2]
              exact q
          · exact Or.inr (Or.inr ⟨_, _, e.1, e.2, q, fun x y hx hy z => (before x y hx hy z).symm⟩)
        · exact Or.inl (fun i j hi hj h => ih i j hi hj (by omega))
      · exact Or.inr ih
  rcases key 64 with h | h | h
  · exact Or.inr (Or.inl (fun i j hi hj => h i j hi hj (by omega)))
  · exact Or.inl h
  · exact Or.inr (Or.inr h)
/-- N is the least of the renamed tables -/
def LEA (n : Nat) (c N : tC) : Prop := (∃ l, PL n l ∧ tq n N (rn c l)) ∧ ∀ l, PL n l → ¬ tl n (rn c l) N
theorem LEA_u {n : Nat} {c A B : tC} (h8 : n ≤ 8) (a : LEA n c A) (b : LEA n c B) : tq n A B := by
  obtain ⟨⟨l, l1, l2⟩, a2⟩ := a
  obtain ⟨⟨m, m1, m2⟩, b2⟩ := b
  rcases tl_to h8 A B with h | h | h
  · exact absurd (tl_l l2 h) (b2 l l1)
  · exact h
  · exact absurd (tl_l m2 h) (a2 m m1)
noncomputable def nmN (n : Nat) (c : tC) : tC := Classical.epsilon (LEA n c)
theorem nmN_q {n : Nat} {c N : tC} (h8 : n ≤ 8) (h : LEA n c N) : tq n N (nmN n c) := LEA_u h8 h (Classical.epsilon_spec (p := LEA n c) ⟨N, h⟩)
theorem LEA_O {n : Nat} {c N : tC} (hO : tO n c) (hf : tF n c) (h : LEA n c N) : tO n N ∧ tF n N := by
  obtain ⟨⟨l, l1, l2⟩, _⟩ := h
  have o := rn_O hO hf l1
  have f := rn_F hf l1
  refine ⟨⟨o.1, fun a ha => ⟨?_, ?_⟩, fun a b ha hb => ?_, fun a b d ha hb hd e g => ?_, fun a b d ha hb hd e g => ?_⟩, fun a b ha hb => ?_⟩
  · rw [l2 0 a (by omega) ha]
    exact (o.2.1 a ha).1
  · rw [l2 a 0 ha (by omega)]
    exact (o.2.1 a ha).2
  · rw [l2 a b ha hb]
    exact o.2.2.1 a b ha hb
  · rw [l2 a b ha hb] at e g
    rw [l2 a d ha hd] at e
    exact o.2.2.2.1 a b d ha hb hd e g
  · rw [l2 a d ha hd] at e g
    rw [l2 b d hb hd] at e
    exact o.2.2.2.2 a b d ha hb hd e g
  · rw [l2 a b ha hb]
    exact f a b ha hb
