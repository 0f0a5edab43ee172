/-! ENGINE, first part: what a method does, as a function over the heap at hand (its shape and references never change once both objects are made) -/
abbrev zM : Type := Nat → Nat → Int32
abbrev zL : Type := List (Option Value)
abbrev zE : Type := zL → zM → Option (Value × zM)
abbrev zA : Type := zL → zM → Option (List Value × zM)
abbrev zB : Type := zL → zM → Option (Bool × zM)
abbrev zS : Type := zL → zM → Option (Option (Option Int32) × zL × zM)
abbrev zF : Type := List Value → zM → Option (Option Int32 × zM)
abbrev zh (M : zM) : xm_H := (xp_sh, xp_rf, M)
/-- a store -/
def zup (M : zM) (k j : Nat) (x : Int32) : zM := va_up M k (upd (M k) j x)
def zcat (st : List Value) : Nat := (st.map fun v => v.category).sum
/-! what expressions do -/
def zk (c : Int32) : zE := fun _ M => some (.int c, M)
def zi (i : Nat) : zE := fun ls M => match ls[i]? with
  | some (some (.int x)) => some (.int x, M)
  | _ => none
def za (i : Nat) : zE := fun ls M => match ls[i]? with
  | some (some (.ref x)) => some (.ref x, M)
  | _ => none
def zbin (f : Int32 → Int32 → Int32) (a b : zE) : zE := fun ls M => match a ls M with
  | some (.int x, M1) => match b ls M1 with
    | some (.int y, M2) => some (.int (f x y), M2)
    | _ => none
  | _ => none
def zdiv (a b : zE) : zE := fun ls M => match a ls M with
  | some (.int x, M1) => match b ls M1 with
    | some (.int y, M2) => if y = 0 then none else some (.int (x / y), M2)
    | _ => none
  | _ => none
def zmod (x y : Int32) : Int32 := x - x / y * y
def zrem (a b : zE) : zE := fun ls M => match a ls M with
  | some (.int x, M1) => match b ls M1 with
    | some (.int y, M2) => if y = 0 then none else some (.int (zmod x y), M2)
    | _ => none
  | _ => none
abbrev z_add : Int32 → Int32 → Int32 := fun x y => x + y
abbrev z_sub : Int32 → Int32 → Int32 := fun x y => x - y
abbrev z_mul : Int32 → Int32 → Int32 := fun x y => x * y
abbrev z_and : Int32 → Int32 → Int32 := fun x y => x &&& y
abbrev z_or : Int32 → Int32 → Int32 := fun x y => x ||| y
abbrev z_xor : Int32 → Int32 → Int32 := fun x y => x ^^^ y
abbrev z_shl : Int32 → Int32 → Int32 := fun x y => x <<< (y &&& 31)
abbrev z_shr : Int32 → Int32 → Int32 := fun x y => x >>> (y &&& 31)
abbrev z_ushr : Int32 → Int32 → Int32 := fun x y => (x.toUInt32 >>> (y.toUInt32 &&& Int32.toUInt32 31)).toInt32
def ztag (k t : Nat) : Bool := match xp_sh[k]? with
  | some q => decide (q.1 = t)
  | none => false
def zin (t k : Nat) (i : Int32) : Bool := match xp_sh[k]? with
  | some q => decide (q.1 = t) && (!decide (i < 0) && decide (i.toNatClampNeg < q.2))
  | none => false
def zgi (c j : Nat) (a : zE) : zE := fun ls M => match a ls M with
  | some (.ref k, M1) => if ztag k (c + 3) = true then some (.int (M1 k j), M1) else none
  | _ => none
def zgr (c j : Nat) (a : zE) : zE := fun ls M => match a ls M with
  | some (.ref k, M1) => if ztag k (c + 3) = true then (match xp_rf k j with
    | some r => some (.ref r, M1)
    | none => none) else none
  | _ => none
def zld (t : Nat) (a b : zE) : zE := fun ls M => match a ls M with
  | some (.ref k, M1) => match b ls M1 with
    | some (.int i, M2) => if zin t k i = true then some (.int (M2 k i.toNatClampNeg), M2) else none
    | _ => none
  | _ => none
def zldr (a b : zE) : zE := fun ls M => match a ls M with
  | some (.ref k, M1) => match b ls M1 with
    | some (.int i, M2) => if zin 2 k i = true then (match xp_rf k i.toNatClampNeg with
      | some r => some (.ref r, M2)
      | none => none) else none
    | _ => none
  | _ => none
def zlen (a : zE) : zE := fun ls M => match a ls M with
  | some (.ref k, M1) => match xp_sh[k]? with
    | some q => if q.1 = 0 then some (.int (Int32.ofNat q.2), M1) else none
    | none => none
  | _ => none
def zn : zA := fun _ M => some ([], M)
def zc (as : zA) (e : zE) : zA := fun ls M => match as ls M with
  | some (vs, M1) => match e ls M1 with
    | some (v, M2) => some (vs ++ [v], M2)
    | none => none
  | none => none
/-- a call with an answer: of a static method, of a method of an object of class c -/
def zcall (f : zF) (as : zA) : zE := fun ls M => match as ls M with
  | some (vs, M1) => match f vs M1 with
    | some (some r, M2) => some (.int r, M2)
    | _ => none
  | none => none
def zrcv (c : Nat) (vs : List Value) : Bool := match vs with
  | .ref k :: _ => ztag k (c + 3)
  | _ => false
def zcallv (c : Nat) (f : zF) (as : zA) : zE := fun ls M => match as ls M with
  | some (vs, M1) => if zrcv c vs = true then (match f vs M1 with
    | some (some r, M2) => some (.int r, M2)
    | _ => none) else none
  | none => none
def zmin (a b : zE) : zE := zbin (fun u w => if w < u then w else u) a b
def zmax (a b : zE) : zE := zbin (fun u w => if u < w then w else u) a b
/-! conditions -/
def zcmp (c : ClassFile.Cond) (a b : zE) : zB := fun ls M => match a ls M with
  | some (.int x, M1) => match b ls M1 with
    | some (.int y, M2) => some (xe_cd c x y, M2)
    | _ => none
  | _ => none
def zcz (c : ClassFile.Cond) (a : zE) : zB := fun ls M => match a ls M with
  | some (.int x, M1) => some (xe_cd c x 0, M1)
  | _ => none
def zand (a b : zB) : zB := fun ls M => match a ls M with
  | some (true, M1) => b ls M1
  | r => r
def zor (a b : zB) : zB := fun ls M => match a ls M with
  | some (false, M1) => b ls M1
  | r => r
def znot (a : zB) : zB := fun ls M => match a ls M with
  | some (r, M1) => some (!r, M1)
  | none => none
def zbite (c a b : zB) : zB := fun ls M => match c ls M with
  | some (true, M1) => a ls M1
  | some (false, M1) => b ls M1
  | none => none
def zite (b : zB) (e1 e2 : zE) : zE := fun ls M => match b ls M with
  | some (true, M1) => e1 ls M1
  | some (false, M1) => e2 ls M1
  | none => none
/-! statements: none: goes on, some r: has returned r -/
def zskip : zS := fun ls M => some (none, ls, M)
def zseq (s t : zS) : zS := fun ls M => match s ls M with
  | some (none, ls1, M1) => t ls1 M1
  | r => r
def zst (i : Nat) (e : zE) : zS := fun ls M => match e ls M with
  | some (v, M1) => if i < ls.length then some (none, ls.set i (some v), M1) else none
  | none => none
def zinc (i : Nat) (n : Int32) : zS := fun ls M => match ls[i]? with
  | some (some (.int x)) => some (none, ls.set i (some (.int (x + n))), M)
  | _ => none
def zif (b : zB) (s t : zS) : zS := fun ls M => match b ls M with
  | some (true, M1) => s ls M1
  | some (false, M1) => t ls M1
  | none => none
def zw (c : zB) (s : zS) : Nat → zS
  | 0 => fun _ _ => none
  | n + 1 => fun ls M => match c ls M with
    | some (true, M1) => (match s ls M1 with
      | some (none, ls2, M2) => zw c s n ls2 M2
      | r => r)
    | some (false, M1) => some (none, ls, M1)
    | none => none
noncomputable def zwh (c : zB) (s : zS) : zS := fun ls M => @dite _ (∃ n, (zw c s n ls M).isSome = true) (Classical.propDecidable _) (fun h => zw c s (Classical.choose h) ls M) (fun _ => none)
def zkl (n : Nat) (s : zS) : zS := fun ls M => match s ls M with
  | some (none, ls1, M1) => some (none, ls1.take n ++ List.replicate (ls1.length - n) none, M1)
  | r => r
def zret (e : zE) : zS := fun ls M => match e ls M with
  | some (.int x, M1) => some (some (some x), ls, M1)
  | _ => none
def zretz (e : zE) : zS := fun ls M => match e ls M with
  | some (.int x, M1) => if x = 0 ∨ x = 1 then some (some (some x), ls, M1) else none
  | _ => none
def zretv : zS := fun ls M => some (some none, ls, M)
def zpf (c j : Nat) (a e : zE) : zS := fun ls M => match a ls M with
  | some (.ref k, M1) => match e ls M1 with
    | some (.int x, M2) => if ztag k (c + 3) = true then some (none, ls, zup M2 k j x) else none
    | _ => none
  | _ => none
/-- a field's value and e, by f, into the field -/
def zpfc (c j : Nat) (f : Int32 → Int32 → Int32) (a e : zE) : zS := fun ls M => match a ls M with
  | some (.ref k, M1) => if ztag k (c + 3) = true then (match e ls M1 with
    | some (.int x, M2) => some (none, ls, zup M2 k j (f (M1 k j) x))
    | _ => none) else none
  | _ => none
def zas (t : Nat) (g : Int32 → Int32) (a b e : zE) : zS := fun ls M => match a ls M with
  | some (.ref k, M1) => match b ls M1 with
    | some (.int i, M2) => match e ls M2 with
      | some (.int x, M3) => if zin t k i = true then some (none, ls, zup M3 k i.toNatClampNeg (g x)) else none
      | _ => none
    | _ => none
  | _ => none
/-- a place's value and e, by f, into the place -/
def zasc (f : Int32 → Int32 → Int32) (a b e : zE) : zS := fun ls M => match a ls M with
  | some (.ref k, M1) => match b ls M1 with
    | some (.int i, M2) => if zin 0 k i = true then (match e ls M2 with
      | some (.int x, M3) => some (none, ls, zup M3 k i.toNatClampNeg (f (M2 k i.toNatClampNeg) x))
      | _ => none) else none
    | _ => none
  | _ => none
def zdo (f : zF) (as : zA) : zS := fun ls M => match as ls M with
  | some (vs, M1) => match f vs M1 with
    | some (none, M2) => some (none, ls, M2)
    | _ => none
  | none => none
def zdov (c : Nat) (f : zF) (as : zA) : zS := fun ls M => match as ls M with
  | some (vs, M1) => if zrcv c vs = true then (match f vs M1 with
    | some (none, M2) => some (none, ls, M2)
    | _ => none) else none
  | none => none
/-- an answer that nobody looks at -/
def zpop (e : zE) : zS := fun ls M => match e ls M with
  | some (_, M1) => some (none, ls, M1)
  | none => none
def zcpy (a b : zE) (n : Nat) : zS := fun ls M => match a ls M with
  | some (.ref k0, M1) => match b ls M1 with
    | some (.ref k1, M2) => if zin 0 k0 (nI (n - 1)) = true ∧ zin 0 k1 (nI (n - 1)) = true then some (none, ls, va_up M2 k1 (va_cpy (M2 k0) (M2 k1) 0 0 n)) else none
    | _ => none
  | _ => none
def zpick (lo : Int) (L : List (Nat × zS)) (df : zS) (x : Int32) : zS := if x.toInt < lo ∨ lo + L.length - 1 < x.toInt then df else match L[(x.toInt - lo).toNat]? with
  | some q => q.2
  | none => fun _ _ => none
def zsw (e : zE) (lo : Int) (L : List (Nat × zS)) (df : zS) : zS := fun ls M => match e ls M with
  | some (.int x, M1) => zpick lo L df x ls M1
  | _ => none
/-- a method out of its body: n arguments, m places -/
def zmeth (m : Nat) (s : zS) : zF := fun as M => match s (xm_en as m) M with
  | some (some r, _, M1) => some (r, M1)
  | _ => none
/-! ENGINE, second part: bytecode does what the function says -/
def zrE (G : xm_G) (l : Launch) (y d pc pc' q : Nat) (e : zE) : Prop := ∀ (ls : zL) (M : zM) (v : Value) (M' : zM), e ls M = some (v, M') → v.category = 1 ∧ ∀ (mc ms cs zs : Nat) (st : List Value) (post : Option Value → xm_H → Prop), cs ≤ mc → zs ≤ ms → zcat st ≤ q → xm_X G l y d mc ms cs zs pc' ls (v :: st) (zh M') post → xm_X G l y d mc ms cs zs pc ls st (zh M) post
def zrA (G : xm_G) (l : Launch) (y d pc pc' q n : Nat) (e : zA) : Prop := ∀ (ls : zL) (M : zM) (vs : List Value) (M' : zM), e ls M = some (vs, M') → (vs.length = n ∧ ∀ v ∈ vs, v.category = 1) ∧ ∀ (mc ms cs zs : Nat) (st : List Value) (post : Option Value → xm_H → Prop), cs ≤ mc → zs ≤ ms → zcat st ≤ q → xm_X G l y d mc ms cs zs pc' ls (vs.reverse ++ st) (zh M') post → xm_X G l y d mc ms cs zs pc ls st (zh M) post
def zrB (G : xm_G) (l : Launch) (y d pc pT pF q : Nat) (b : zB) : Prop := ∀ (ls : zL) (M : zM) (r : Bool) (M' : zM), b ls M = some (r, M') → ∀ (mc ms cs zs : Nat) (st : List Value) (post : Option Value → xm_H → Prop), cs ≤ mc → zs ≤ ms → zcat st ≤ q → xm_X G l y d mc ms cs zs (bif r then pT else pF) ls st (zh M') post → xm_X G l y d mc ms cs zs pc ls st (zh M) post
def zrS (G : xm_G) (l : Launch) (y d pc pc' : Nat) (s : zS) : Prop := ∀ (ls : zL) (M : zM) (r : Option (Option Int32)) (ls' : zL) (M' : zM), s ls M = some (r, ls', M') → ∀ (mc ms cs zs : Nat) (post : Option Value → xm_H → Prop), cs ≤ mc → zs ≤ ms → (r = none → xm_X G l y d mc ms cs zs pc' ls' [] (zh M') post) → (∀ v, r = some v → post (v.map Value.int) (zh M')) → xm_X G l y d mc ms cs zs pc ls [] (zh M) post
def zrF (G : xm_G) (l : Launch) (y d n : Nat) (f : zF) : Prop := ∀ (as : List Value) (M : zM) (r : Option Int32) (M' : zM), as.length = n → (∀ v ∈ as, v.category = 1) → f as M = some (r, M') → xm_C G l y d 0 0 as (zh M) (fun r' h' => r' = r.map Value.int ∧ h' = zh M')
theorem ztag_spec {k t : Nat} (h : ztag k t = true) : ∃ N, xp_sh[k]? = some (t, N) := by
  unfold ztag at h
  split at h
  · rename_i q hq
    obtain ⟨a, b⟩ := q
    simp only [decide_eq_true_eq] at h
    subst h
    exact ⟨b, hq⟩
  · cases h
theorem zin_spec {k t : Nat} {i : Int32} (h : zin t k i = true) : ∃ N, xp_sh[k]? = some (t, N) ∧ vp_in i N := by
  unfold zin at h
  split at h
  · rename_i q hq
    obtain ⟨a, b⟩ := q
    simp only [Bool.and_eq_true, Bool.not_eq_true', decide_eq_true_eq, decide_eq_false_iff_not] at h
    obtain ⟨h1, h2, h3⟩ := h
    subst h1
    refine ⟨b, hq, ?_⟩
    intro z
    rcases z with z | z
    · exact h2 z
    · exact absurd h3 (Nat.not_lt.mpr z)
  · cases h
theorem zcat_cons {v : Value} {st : List Value} : zcat (v :: st) = v.category + zcat st := by simp [zcat]
theorem zcat_app {as st : List Value} (h : ∀ v ∈ as, v.category = 1) : zcat (as.reverse ++ st) = as.length + zcat st := by
  have e : ∀ as : List Value, (∀ v ∈ as, v.category = 1) → zcat as = as.length := by
    intro as
    induction as with
    | nil => intro _; rfl
    | cons a as ih =>
      intro h
      rw [zcat_cons, h a List.mem_cons_self, ih (fun v hv => h v (List.mem_cons_of_mem _ hv)), List.length_cons]
      omega
  have e2 : zcat (as.reverse ++ st) = zcat as.reverse + zcat st := by simp [zcat]
  rw [e2, e as.reverse (fun v hv => h v (List.mem_reverse.mp hv)), List.length_reverse]
/-! expressions -/
theorem zr_push {G : xm_G} {l : Launch} {y d pc q : Nat} (pc' : Nat) {c : Int32} {o : xm_Op} (ho : xm_op y pc = some o) (hs : ∀ ls st, xm_stp o ls st = some (pc', ls, .int c :: st)) : zrE G l y d pc pc' q (zk c) := by
  intro ls M v M' h
  cases h
  exact ⟨rfl, fun mc ms cs zs st post _ _ _ k => xm_step ho (hs ls st) k⟩
theorem zr_ldi {G : xm_G} {l : Launch} {y d pc q : Nat} (pc' : Nat) {i : Nat} {o : xm_Op} (ho : xm_op y pc = some o) (hs : ∀ ls st, xm_stp o ls st = (xm_ldi ls i st).map (fun r => (pc', ls, r))) : zrE G l y d pc pc' q (zi i) := by
  intro ls M v M' h
  unfold zi at h
  split at h
  · cases h
    rename_i x hx
    refine ⟨rfl, fun mc ms cs zs st post _ _ _ k => xm_step ho ((hs ls st).trans (by unfold xm_ldi; rw [hx]; rfl)) k⟩
  · cases h
theorem zr_lda {G : xm_G} {l : Launch} {y d pc q : Nat} (pc' : Nat) {i : Nat} {o : xm_Op} (ho : xm_op y pc = some o) (hs : ∀ ls st, xm_stp o ls st = (xm_lda ls i st).map (fun r => (pc', ls, r))) : zrE G l y d pc pc' q (za i) := by
  intro ls M v M' h
  unfold za at h
  split at h
  · cases h
    rename_i x hx
    refine ⟨rfl, fun mc ms cs zs st post _ _ _ k => xm_step ho ((hs ls st).trans (by unfold xm_lda; rw [hx]; rfl)) k⟩
  · cases h
theorem zr_bin {G : xm_G} {l : Launch} {y d pc q : Nat} (p1 p2 pc' : Nat) {f : Int32 → Int32 → Int32} {a b : zE} {o : xm_Op} (ha : zrE G l y d pc p1 q a) (hb : zrE G l y d p1 p2 (q + 1) b) (ho : xm_op y p2 = some o) (hs : ∀ ls st x w, xm_stp o ls (.int w :: .int x :: st) = some (pc', ls, .int (f x w) :: st)) : zrE G l y d pc pc' q (zbin f a b) := by
  intro ls M v M' h
  unfold zbin at h
  split at h
  · rename_i x M1 hA
    split at h
    · rename_i w M2 hB
      cases h
      refine ⟨rfl, fun mc ms cs zs st post h1 h2 h3 k => ?_⟩
      refine (ha ls M _ _ hA).2 mc ms cs zs st post h1 h2 h3 ?_
      refine (hb ls M1 _ _ hB).2 mc ms cs zs _ post h1 h2 (by rw [zcat_cons]; show 1 + zcat st ≤ q + 1; omega) ?_
      exact xm_step ho (hs ls st x w) k
    · cases h
  · cases h
theorem zr_div {G : xm_G} {l : Launch} {y d pc q : Nat} (p1 p2 : Nat) {a b : zE} {len u w9 : Nat} (ha : zrE G l y d pc p1 q a) (hb : zrE G l y d p1 p2 (q + 1) b) (ho : xm_op y p2 = some (p2, .idiv, len, u, w9)) : zrE G l y d pc (p2 + 1) q (zdiv a b) := by
  intro ls M v M' h
  unfold zdiv at h
  split at h
  · rename_i x M1 hA
    split at h
    · rename_i w M2 hB
      split at h
      · cases h
      · rename_i hz
        cases h
        refine ⟨rfl, fun mc ms cs zs st post h1 h2 h3 k => ?_⟩
        refine (ha ls M _ _ hA).2 mc ms cs zs st post h1 h2 h3 ?_
        refine (hb ls M1 _ _ hB).2 mc ms cs zs _ post h1 h2 (by rw [zcat_cons]; show 1 + zcat st ≤ q + 1; omega) ?_
        exact xm_idiv ho hz k
    · cases h
  · cases h
theorem zr_rem {G : xm_G} {l : Launch} {y d pc q : Nat} (p1 p2 : Nat) {a b : zE} {len u w9 : Nat} (ha : zrE G l y d pc p1 q a) (hb : zrE G l y d p1 p2 (q + 1) b) (ho : xm_op y p2 = some (p2, .irem, len, u, w9)) : zrE G l y d pc (p2 + 1) q (zrem a b) := by
  intro ls M v M' h
  unfold zrem at h
  split at h
  · rename_i x M1 hA
    split at h
    · rename_i w M2 hB
      split at h
      · cases h
      · rename_i hz
        cases h
        refine ⟨rfl, fun mc ms cs zs st post h1 h2 h3 k => ?_⟩
        refine (ha ls M _ _ hA).2 mc ms cs zs st post h1 h2 h3 ?_
        refine (hb ls M1 _ _ hB).2 mc ms cs zs _ post h1 h2 (by rw [zcat_cons]; show 1 + zcat st ≤ q + 1; omega) ?_
        exact xm_irem ho hz k
    · cases h
  · cases h
theorem zr_gi {G : xm_G} {l : Launch} {y d pc q : Nat} (p1 : Nat) {c j : Nat} {a : zE} {i len : Nat} (ha : zrE G l y d pc p1 q a) (ho : xm_op y p1 = some (p1, .getfield i, len, c, j)) (hI : xm_isI c j = true) : zrE G l y d pc (p1 + 3) q (zgi c j a) := by
  intro ls M v M' h
  unfold zgi at h
  split at h
  · rename_i k M1 hA
    split at h
    · rename_i ht
      cases h
      obtain ⟨N, hN⟩ := ztag_spec ht
      refine ⟨rfl, fun mc ms cs zs st post h1 h2 h3 kk => ?_⟩
      refine (ha ls M _ _ hA).2 mc ms cs zs st post h1 h2 h3 ?_
      exact xm_getI ho hN hI kk
    · cases h
  · cases h
theorem zr_gr {G : xm_G} {l : Launch} {y d pc q : Nat} (p1 : Nat) {c j : Nat} {a : zE} {i len : Nat} (ha : zrE G l y d pc p1 q a) (ho : xm_op y p1 = some (p1, .getfield i, len, c, j)) (hI : xm_isI c j = false) : zrE G l y d pc (p1 + 3) q (zgr c j a) := by
  intro ls M v M' h
  unfold zgr at h
  split at h
  · rename_i k M1 hA
    split at h
    · rename_i ht
      split at h
      · rename_i r hr
        cases h
        obtain ⟨N, hN⟩ := ztag_spec ht
        refine ⟨rfl, fun mc ms cs zs st post h1 h2 h3 kk => ?_⟩
        refine (ha ls M _ _ hA).2 mc ms cs zs st post h1 h2 h3 ?_
        exact xm_getR ho hN hI hr kk
      · cases h
    · cases h
  · cases h
theorem zr_ld {G : xm_G} {l : Launch} {y d pc q : Nat} (p1 p2 : Nat) {a b : zE} {len u w9 : Nat} (ha : zrE G l y d pc p1 q a) (hb : zrE G l y d p1 p2 (q + 1) b) (ho : xm_op y p2 = some (p2, .iaload, len, u, w9)) : zrE G l y d pc (p2 + 1) q (zld 0 a b) := by
  intro ls M v M' h
  unfold zld at h
  split at h
  · rename_i k M1 hA
    split at h
    · rename_i i M2 hB
      split at h
      · rename_i ht
        cases h
        obtain ⟨N, hN, hi⟩ := zin_spec ht
        refine ⟨rfl, fun mc ms cs zs st post h1 h2 h3 kk => ?_⟩
        refine (ha ls M _ _ hA).2 mc ms cs zs st post h1 h2 h3 ?_
        refine (hb ls M1 _ _ hB).2 mc ms cs zs _ post h1 h2 (by rw [zcat_cons]; show 1 + zcat st ≤ q + 1; omega) ?_
        exact xm_iald ho hN hi kk
      · cases h
    · cases h
  · cases h
theorem zr_ldz {G : xm_G} {l : Launch} {y d pc q : Nat} (p1 p2 : Nat) {a b : zE} {len u w9 : Nat} (ha : zrE G l y d pc p1 q a) (hb : zrE G l y d p1 p2 (q + 1) b) (ho : xm_op y p2 = some (p2, .baload, len, u, w9)) : zrE G l y d pc (p2 + 1) q (zld 1 a b) := by
  intro ls M v M' h
  unfold zld at h
  split at h
  · rename_i k M1 hA
    split at h
    · rename_i i M2 hB
      split at h
      · rename_i ht
        cases h
        obtain ⟨N, hN, hi⟩ := zin_spec ht
        refine ⟨rfl, fun mc ms cs zs st post h1 h2 h3 kk => ?_⟩
        refine (ha ls M _ _ hA).2 mc ms cs zs st post h1 h2 h3 ?_
        refine (hb ls M1 _ _ hB).2 mc ms cs zs _ post h1 h2 (by rw [zcat_cons]; show 1 + zcat st ≤ q + 1; omega) ?_
        exact xm_zald ho hN hi kk
      · cases h
    · cases h
  · cases h
theorem zr_ldr {G : xm_G} {l : Launch} {y d pc q : Nat} (p1 p2 : Nat) {a b : zE} {len u w9 : Nat} (ha : zrE G l y d pc p1 q a) (hb : zrE G l y d p1 p2 (q + 1) b) (ho : xm_op y p2 = some (p2, .aaload, len, u, w9)) : zrE G l y d pc (p2 + 1) q (zldr a b) := by
  intro ls M v M' h
  unfold zldr at h
  split at h
  · rename_i k M1 hA
    split at h
    · rename_i i M2 hB
      split at h
      · rename_i ht
        split at h
        · rename_i r hr
          cases h
          obtain ⟨N, hN, hi⟩ := zin_spec ht
          refine ⟨rfl, fun mc ms cs zs st post h1 h2 h3 kk => ?_⟩
          refine (ha ls M _ _ hA).2 mc ms cs zs st post h1 h2 h3 ?_
          refine (hb ls M1 _ _ hB).2 mc ms cs zs _ post h1 h2 (by rw [zcat_cons]; show 1 + zcat st ≤ q + 1; omega) ?_
          exact xm_aald ho hN hi hr kk
        · cases h
      · cases h
    · cases h
  · cases h
theorem zr_len {G : xm_G} {l : Launch} {y d pc q : Nat} (p1 : Nat) {a : zE} {len u w9 : Nat} (ha : zrE G l y d pc p1 q a) (ho : xm_op y p1 = some (p1, .arraylength, len, u, w9)) : zrE G l y d pc (p1 + 1) q (zlen a) := by
  intro ls M v M' h
  unfold zlen at h
  split at h
  · rename_i k M1 hA
    split at h
    · rename_i qq hq
      split at h
      · rename_i ht
        cases h
        obtain ⟨t, N⟩ := qq
        dsimp only at ht
        subst ht
        refine ⟨rfl, fun mc ms cs zs st post h1 h2 h3 kk => ?_⟩
        refine (ha ls M _ _ hA).2 mc ms cs zs st post h1 h2 h3 ?_
        exact xm_alen ho hq kk
      · cases h
    · cases h
  · cases h
theorem zr_n {G : xm_G} {l : Launch} {y d pc q : Nat} : zrA G l y d pc pc q 0 zn := by
  intro ls M vs M' h
  cases h
  exact ⟨⟨rfl, fun v hv => absurd hv List.not_mem_nil⟩, fun mc ms cs zs st post _ _ _ k => k⟩
theorem zr_c {G : xm_G} {l : Launch} {y d pc q n : Nat} (p1 pc' : Nat) {as : zA} {e : zE} (ha : zrA G l y d pc p1 q n as) (he : zrE G l y d p1 pc' (q + n) e) : zrA G l y d pc pc' q (n + 1) (zc as e) := by
  intro ls M vs M' h
  unfold zc at h
  split at h
  · rename_i ws M1 hA
    split at h
    · rename_i v M2 hE
      cases h
      obtain ⟨⟨a1, a2⟩, a3⟩ := ha ls M _ _ hA
      obtain ⟨b1, b2⟩ := he ls M1 _ _ hE
      refine ⟨⟨by rw [List.length_append, a1]; rfl, fun w hw => ?_⟩, fun mc ms cs zs st post h1 h2 h3 k => ?_⟩
      · rcases List.mem_append.mp hw with g | g
        · exact a2 w g
        · rw [List.mem_singleton.mp g]; exact b1
      · refine a3 mc ms cs zs st post h1 h2 h3 ?_
        refine b2 mc ms cs zs _ post h1 h2 (by rw [zcat_app a2, a1]; omega) ?_
        rw [List.reverse_append] at k
        exact k
    · cases h
  · cases h
theorem zr_call {G : xm_G} {l : Launch} {y d pc q n : Nat} (p1 : Nat) {as : zA} {f : zF} {i len a d' : Nat} (ha : zrA G l y d pc p1 q n as) (hq : q ≤ 8) (ho : xm_op y p1 = some (p1, .invokestatic i, len, a, 0)) (hf : zrF G l a d' n f) (hn : n = xm_np a) (hd : d' + 1 ≤ d) : zrE G l y d pc (p1 + 3) q (zcall f as) := by
  intro ls M v M' h
  unfold zcall at h
  split at h
  · rename_i vs M1 hA
    split at h
    · rename_i r M2 hr
      cases h
      obtain ⟨⟨a1, a2⟩, a3⟩ := ha ls M _ _ hA
      refine ⟨rfl, fun mc ms cs zs st post h1 h2 h3 k => ?_⟩
      refine a3 mc ms cs zs st post h1 h2 h3 ?_
      refine xm_callS (As := vs) (rest := st) (d' := d') (mc' := 0) (ms' := 0) ho (hf vs M1 _ _ a1 a2 hr) (a1.trans hn) hd h1 h2 (Nat.le_trans h3 hq) (fun r' h' hp => ?_)
      obtain ⟨rfl, rfl⟩ := hp
      exact k
    · cases h
  · cases h
theorem zr_calln {G : xm_G} {l : Launch} {y d pc q : Nat} (p1 : Nat) {as : zA} {f : zF} {i len a d' : Nat} (ha : zrA G l y d pc p1 q 2 as) (hq : q ≤ 8) (ho : xm_op y p1 = some (p1, .invokestatic i, len, a, 1)) (hf : zrF G l xi_L_isBelow d' 2 f) (hd : d' + 1 ≤ d) : zrE G l y d pc (p1 + 3) q (zcall f as) := by
  intro ls M v M' h
  unfold zcall at h
  split at h
  · rename_i vs M1 hA
    split at h
    · rename_i r M2 hr
      cases h
      obtain ⟨⟨a1, a2⟩, a3⟩ := ha ls M _ _ hA
      refine ⟨rfl, fun mc ms cs zs st post h1 h2 h3 k => ?_⟩
      refine a3 mc ms cs zs st post h1 h2 h3 ?_
      refine xm_callN (As := vs) (rest := st) (d' := d') ho (hf vs M1 _ _ a1 a2 hr) a1 hd h1 h2 (Nat.le_trans h3 hq) (fun r' h' hp => ?_)
      obtain ⟨rfl, rfl⟩ := hp
      exact k
    · cases h
  · cases h
theorem zrcv_spec {c : Nat} {vs : List Value} (h : zrcv c vs = true) : ∃ k ws N, vs = .ref k :: ws ∧ xp_sh[k]? = some (c + 3, N) := by
  unfold zrcv at h
  split at h
  · obtain ⟨N, hN⟩ := ztag_spec h
    exact ⟨_, _, N, rfl, hN⟩
  · cases h
theorem zr_callv {G : xm_G} {l : Launch} {y d pc q n : Nat} (p1 : Nat) {as : zA} {f : zF} {c i len a b d' : Nat} (ha : zrA G l y d pc p1 q (n + 1) as) (hq : q ≤ 8) (ho : xm_op y p1 = some (p1, .invokevirtual i, len, a, b)) (hcl : (xm_cl[c]?).map (fun q => q.1) = some (xm_nm a).cls) (hf : zrF G l a d' (n + 1) f) (hn : n = xm_np a) (hd : d' + 1 ≤ d) : zrE G l y d pc (p1 + 3) q (zcallv c f as) := by
  intro ls M v M' h
  unfold zcallv at h
  split at h
  · rename_i vs M1 hA
    split at h
    · rename_i hrc
      split at h
      · rename_i r M2 hr
        cases h
        obtain ⟨⟨a1, a2⟩, a3⟩ := ha ls M _ _ hA
        obtain ⟨k, ws, N, rfl, hN⟩ := zrcv_spec hrc
        refine ⟨rfl, fun mc ms cs zs st post h1 h2 h3 kk => ?_⟩
        refine a3 mc ms cs zs st post h1 h2 h3 ?_
        rw [List.reverse_cons, List.append_assoc]
        refine xm_callV (As := ws) (rest := st) (k := k) (ci := c) (N := N) (d' := d') (mc' := 0) (ms' := 0) ho hN hcl (hf _ M1 _ _ a1 a2 hr) (by simpa using (Nat.succ.inj a1).trans hn) hd h1 h2 (Nat.le_trans h3 hq) (fun r' h' hp => ?_)
        obtain ⟨rfl, rfl⟩ := hp
        exact kk
      · cases h
    · cases h
  · cases h
theorem zr_min {G : xm_G} {l : Launch} {y d pc q : Nat} (p1 p2 : Nat) {a b : zE} {i len : Nat} (ha : zrE G l y d pc p1 q a) (hb : zrE G l y d p1 p2 (q + 1) b) (hq : q ≤ 8) (hd : 1 ≤ d) (ho : xm_op y p2 = some (p2, .invokestatic i, len, 151, 0)) : zrE G l y d pc (p2 + 3) q (zmin a b) := by
  intro ls M v M' h
  unfold zmin zbin at h
  split at h
  · rename_i x M1 hA
    split at h
    · rename_i w M2 hB
      cases h
      refine ⟨rfl, fun mc ms cs zs st post h1 h2 h3 k => ?_⟩
      refine (ha ls M _ _ hA).2 mc ms cs zs st post h1 h2 h3 ?_
      refine (hb ls M1 _ _ hB).2 mc ms cs zs _ post h1 h2 (by rw [zcat_cons]; show 1 + zcat st ≤ q + 1; omega) ?_
      exact xm_mmin ho hd h1 h2 (Nat.le_trans h3 hq) k
    · cases h
  · cases h
theorem zr_max {G : xm_G} {l : Launch} {y d pc q : Nat} (p1 p2 : Nat) {a b : zE} {i len : Nat} (ha : zrE G l y d pc p1 q a) (hb : zrE G l y d p1 p2 (q + 1) b) (hq : q ≤ 8) (hd : 1 ≤ d) (ho : xm_op y p2 = some (p2, .invokestatic i, len, 152, 0)) : zrE G l y d pc (p2 + 3) q (zmax a b) := by
  intro ls M v M' h
  unfold zmax zbin at h
  split at h
  · rename_i x M1 hA
    split at h
    · rename_i w M2 hB
      cases h
      refine ⟨rfl, fun mc ms cs zs st post h1 h2 h3 k => ?_⟩
      refine (ha ls M _ _ hA).2 mc ms cs zs st post h1 h2 h3 ?_
      refine (hb ls M1 _ _ hB).2 mc ms cs zs _ post h1 h2 (by rw [zcat_cons]; show 1 + zcat st ≤ q + 1; omega) ?_
      exact xm_mmax ho hd h1 h2 (Nat.le_trans h3 hq) k
    · cases h
  · cases h
theorem zr_goE {G : xm_G} {l : Launch} {y d pc q : Nat} (p1 pc' : Nat) {e : zE} {o : xm_Op} (he : zrE G l y d pc p1 q e) (ho : xm_op y p1 = some o) (hs : ∀ ls st, xm_stp o ls st = some (pc', ls, st)) : zrE G l y d pc pc' q e := by
  intro ls M v M' h
  refine ⟨(he ls M v M' h).1, fun mc ms cs zs st post h1 h2 h3 k => ?_⟩
  exact (he ls M v M' h).2 mc ms cs zs st post h1 h2 h3 (xm_step ho (hs ls _) k)
/-! conditions -/
def zneg : ClassFile.Cond → ClassFile.Cond
  | .eq => .ne
  | .ne => .eq
  | .lt => .ge
  | .ge => .lt
  | .gt => .le
  | .le => .gt
theorem zneg_spec (c : ClassFile.Cond) (x y : Int32) : xe_cd (zneg c) x y = !xe_cd c x y := by
  have a : ∀ x y : Int32, decide (y ≤ x) = !decide (x < y) := fun x y => by
    rw [← decide_not]
    exact decide_eq_decide.mpr Int32.not_lt.symm
  have b : ∀ x y : Int32, decide (x < y) = !decide (y ≤ x) := fun x y => by
    rw [← decide_not]
    exact decide_eq_decide.mpr Int32.not_le.symm
  cases c with
  | eq => rfl
  | ne => simp [zneg, xe_cd]
  | lt => exact a x y
  | ge => exact b x y
  | gt => exact a y x
  | le => exact b y x
theorem zr_cmp {G : xm_G} {l : Launch} {y d pc q : Nat} (p1 p2 pT : Nat) {c : ClassFile.Cond} {a b : zE} {o : xm_Op} (ha : zrE G l y d pc p1 q a) (hb : zrE G l y d p1 p2 (q + 1) b) (ho : xm_op y p2 = some o) (hs : ∀ st x w, xm_br o (.int w :: .int x :: st) = some (c, x, w, pT, st)) : zrB G l y d pc pT (p2 + 3) q (zcmp c a b) := by
  intro ls M r M' h
  unfold zcmp at h
  split at h
  · rename_i x M1 hA
    split at h
    · rename_i w M2 hB
      cases h
      intro mc ms cs zs st post h1 h2 h3 k
      refine (ha ls M _ _ hA).2 mc ms cs zs st post h1 h2 h3 ?_
      refine (hb ls M1 _ _ hB).2 mc ms cs zs _ post h1 h2 (by rw [zcat_cons]; show 1 + zcat st ≤ q + 1; omega) ?_
      refine xm_if ho (hs st x w) (fun hc => ?_) (fun hc => ?_)
      · rw [(xe_cd_iff c x w).mpr hc] at k
        exact k
      · have e : xe_cd c x w = false := by
          cases hq : xe_cd c x w with
          | false => rfl
          | true => exact absurd ((xe_cd_iff c x w).mp hq) hc
        rw [e] at k
        exact k
    · cases h
  · cases h
theorem zr_cmpn {G : xm_G} {l : Launch} {y d pc q : Nat} (p1 p2 pF : Nat) (c : ClassFile.Cond) {c' : ClassFile.Cond} {a b : zE} {o : xm_Op} (ha : zrE G l y d pc p1 q a) (hb : zrE G l y d p1 p2 (q + 1) b) (ho : xm_op y p2 = some o) (hs : ∀ st x w, xm_br o (.int w :: .int x :: st) = some (c, x, w, pF, st)) (hc : zneg c = c') : zrB G l y d pc (p2 + 3) pF q (zcmp c' a b) := by
  intro ls M r M' h
  unfold zcmp at h
  split at h
  · rename_i x M1 hA
    split at h
    · rename_i w M2 hB
      cases h
      intro mc ms cs zs st post h1 h2 h3 k
      refine (ha ls M _ _ hA).2 mc ms cs zs st post h1 h2 h3 ?_
      refine (hb ls M1 _ _ hB).2 mc ms cs zs _ post h1 h2 (by rw [zcat_cons]; show 1 + zcat st ≤ q + 1; omega) ?_
      rw [← hc, zneg_spec] at k
      refine xm_if ho (hs st x w) (fun hc => ?_) (fun hc => ?_)
      · rw [(xe_cd_iff c x w).mpr hc] at k
        exact k
      · have e : xe_cd c x w = false := by
          cases hq : xe_cd c x w with
          | false => rfl
          | true => exact absurd ((xe_cd_iff c x w).mp hq) hc
        rw [e] at k
        exact k
    · cases h
  · cases h
theorem zr_cz {G : xm_G} {l : Launch} {y d pc q : Nat} (p1 pT : Nat) {c : ClassFile.Cond} {a : zE} {o : xm_Op} (ha : zrE G l y d pc p1 q a) (ho : xm_op y p1 = some o) (hs : ∀ st x, xm_br o (.int x :: st) = some (c, x, 0, pT, st)) : zrB G l y d pc pT (p1 + 3) q (zcz c a) := by
  intro ls M r M' h
  unfold zcz at h
  split at h
  · rename_i x M1 hA
    cases h
    intro mc ms cs zs st post h1 h2 h3 k
    refine (ha ls M _ _ hA).2 mc ms cs zs st post h1 h2 h3 ?_
    refine xm_if ho (hs st x) (fun hc => ?_) (fun hc => ?_)
    · rw [(xe_cd_iff c x 0).mpr hc] at k
      exact k
    · have e : xe_cd c x 0 = false := by
        cases hq : xe_cd c x 0 with
        | false => rfl
        | true => exact absurd ((xe_cd_iff c x 0).mp hq) hc
      rw [e] at k
      exact k
  · cases h
theorem zr_czn {G : xm_G} {l : Launch} {y d pc q : Nat} (p1 pF : Nat) (c : ClassFile.Cond) {c' : ClassFile.Cond} {a : zE} {o : xm_Op} (ha : zrE G l y d pc p1 q a) (ho : xm_op y p1 = some o) (hs : ∀ st x, xm_br o (.int x :: st) = some (c, x, 0, pF, st)) (hc : zneg c = c') : zrB G l y d pc (p1 + 3) pF q (zcz c' a) := by
  intro ls M r M' h
  unfold zcz at h
  split at h
  · rename_i x M1 hA
    cases h
    intro mc ms cs zs st post h1 h2 h3 k
    refine (ha ls M _ _ hA).2 mc ms cs zs st post h1 h2 h3 ?_
    rw [← hc, zneg_spec] at k
    refine xm_if ho (hs st x) (fun hc => ?_) (fun hc => ?_)
    · rw [(xe_cd_iff c x 0).mpr hc] at k
      exact k
    · have e : xe_cd c x 0 = false := by
        cases hq : xe_cd c x 0 with
        | false => rfl
        | true => exact absurd ((xe_cd_iff c x 0).mp hq) hc
      rw [e] at k
      exact k
  · cases h
theorem zr_and {G : xm_G} {l : Launch} {y d pc q : Nat} (p1 : Nat) {pT pF : Nat} {a b : zB} (ha : zrB G l y d pc p1 pF q a) (hb : zrB G l y d p1 pT pF q b) : zrB G l y d pc pT pF q (zand a b) := by
  intro ls M r M' h mc ms cs zs st post h1 h2 h3 k
  unfold zand at h
  split at h
  · rename_i M1 hA
    exact ha ls M _ _ hA mc ms cs zs st post h1 h2 h3 (hb ls M1 _ _ h mc ms cs zs st post h1 h2 h3 k)
  · rename_i r9 hn
    cases r with
    | true => exact absurd h (hn M')
    | false => exact ha ls M _ _ h mc ms cs zs st post h1 h2 h3 k
theorem zr_or {G : xm_G} {l : Launch} {y d pc q : Nat} (p1 : Nat) {pT pF : Nat} {a b : zB} (ha : zrB G l y d pc pT p1 q a) (hb : zrB G l y d p1 pT pF q b) : zrB G l y d pc pT pF q (zor a b) := by
  intro ls M r M' h mc ms cs zs st post h1 h2 h3 k
  unfold zor at h
  split at h
  · rename_i M1 hA
    exact ha ls M _ _ hA mc ms cs zs st post h1 h2 h3 (hb ls M1 _ _ h mc ms cs zs st post h1 h2 h3 k)
  · rename_i r9 hn
    cases r with
    | false => exact absurd h (hn M')
    | true => exact ha ls M _ _ h mc ms cs zs st post h1 h2 h3 k
theorem zr_not {G : xm_G} {l : Launch} {y d pc q : Nat} {pT pF : Nat} {a : zB} (ha : zrB G l y d pc pF pT q a) : zrB G l y d pc pT pF q (znot a) := by
  intro ls M r M' h mc ms cs zs st post h1 h2 h3 k
  unfold znot at h
  split at h
  · rename_i r1 M1 hA
    cases h
    refine ha ls M _ _ hA mc ms cs zs st post h1 h2 h3 ?_
    cases r1 <;> exact k
  · cases h
theorem zr_ite {G : xm_G} {l : Launch} {y d pc q : Nat} (p1 p2 : Nat) {pc' : Nat} {b : zB} {e1 e2 : zE} (hb : zrB G l y d pc p1 p2 q b) (h1 : zrE G l y d p1 pc' q e1) (h2 : zrE G l y d p2 pc' q e2) : zrE G l y d pc pc' q (zite b e1 e2) := by
  intro ls M v M' h
  unfold zite at h
  split at h
  · rename_i M1 hB
    exact ⟨(h1 ls M1 v M' h).1, fun mc ms cs zs st post g1 g2 g3 k => hb ls M _ _ hB mc ms cs zs st post g1 g2 g3 ((h1 ls M1 v M' h).2 mc ms cs zs st post g1 g2 g3 k)⟩
  · rename_i M1 hB
    exact ⟨(h2 ls M1 v M' h).1, fun mc ms cs zs st post g1 g2 g3 k => hb ls M _ _ hB mc ms cs zs st post g1 g2 g3 ((h2 ls M1 v M' h).2 mc ms cs zs st post g1 g2 g3 k)⟩
  · cases h
theorem zr_goB {G : xm_G} {l : Launch} {y d pc pT pF q : Nat} (p1 : Nat) {b : zB} {o : xm_Op} (hb : zrB G l y d pc p1 pF q b) (ho : xm_op y p1 = some o) (hs : ∀ ls st, xm_stp o ls st = some (pT, ls, st)) : zrB G l y d pc pT pF q b := by
  intro ls M r M' h mc ms cs zs st post h1 h2 h3 k
  refine hb ls M _ _ h mc ms cs zs st post h1 h2 h3 ?_
  cases r with
  | false => exact k
  | true => exact xm_step ho (hs ls st) k
theorem zr_bite {G : xm_G} {l : Launch} {y d pc pT pF q : Nat} (p1 p2 : Nat) {c a b : zB} (hc : zrB G l y d pc p1 p2 q c) (ha : zrB G l y d p1 pT pF q a) (hb : zrB G l y d p2 pT pF q b) : zrB G l y d pc pT pF q (zbite c a b) := by
  intro ls M r M' h mc ms cs zs st post h1 h2 h3 k
  unfold zbite at h
  split at h
  · rename_i M1 hC
    exact hc ls M _ _ hC mc ms cs zs st post h1 h2 h3 (ha ls M1 _ _ h mc ms cs zs st post h1 h2 h3 k)
  · rename_i M1 hC
    exact hc ls M _ _ hC mc ms cs zs st post h1 h2 h3 (hb ls M1 _ _ h mc ms cs zs st post h1 h2 h3 k)
  · cases h
/-! ENGINE, third part: statements and methods -/
theorem zw_mono {c : zB} {s : zS} : ∀ (n : Nat) (ls : zL) (M : zM) (r : Option (Option Int32) × zL × zM), zw c s n ls M = some r → zw c s (n + 1) ls M = some r := by
  intro n
  induction n with
  | zero => intro ls M r h; cases h
  | succ n ih =>
    intro ls M r h
    unfold zw at h
    unfold zw
    cases hc : c ls M with
    | none => rw [hc] at h; cases h
    | some q =>
      obtain ⟨b, M1⟩ := q
      rw [hc] at h
      cases b with
      | false => exact h
      | true =>
        dsimp only at h ⊢
        cases hs : s ls M1 with
        | none => rw [hs] at h; cases h
        | some w =>
          obtain ⟨r1, ls2, M2⟩ := w
          rw [hs] at h
          cases r1 with
          | some v => exact h
          | none => exact ih ls2 M2 r h
theorem zw_le {c : zB} {s : zS} {n m : Nat} (hnm : n ≤ m) {ls : zL} {M : zM} {r : Option (Option Int32) × zL × zM} (h : zw c s n ls M = some r) : zw c s m ls M = some r := by
  induction hnm with
  | refl => exact h
  | step _ ih => exact zw_mono _ _ _ _ ih
theorem zwh_ex {c : zB} {s : zS} {ls : zL} {M : zM} {r : Option (Option Int32) × zL × zM} (h : zwh c s ls M = some r) : ∃ n, zw c s n ls M = some r := by
  unfold zwh at h
  by_cases hx : ∃ n, (zw c s n ls M).isSome = true
  · rw [dif_pos hx] at h
    exact ⟨_, h⟩
  · rw [dif_neg hx] at h
    cases h
theorem zwh_of {c : zB} {s : zS} {n : Nat} {ls : zL} {M : zM} {r : Option (Option Int32) × zL × zM} (h : zw c s n ls M = some r) : zwh c s ls M = some r := by
  have hx : ∃ n, (zw c s n ls M).isSome = true := ⟨n, by rw [h]; rfl⟩
  unfold zwh
  rw [dif_pos hx]
  have h1 := Classical.choose_spec hx
  obtain ⟨r0, h2⟩ := Option.isSome_iff_exists.mp h1
  rw [h2]
  have a := zw_le (Nat.le_max_left n (Classical.choose hx)) h
  have b := zw_le (Nat.le_max_right n (Classical.choose hx)) h2
  rw [a] at b
  exact b.symm
/-- a loop goes on -/
theorem zwh_t {c : zB} {s : zS} {ls ls2 : zL} {M M1 M2 : zM} {r : Option (Option Int32) × zL × zM} (hc : c ls M = some (true, M1)) (hs : s ls M1 = some (none, ls2, M2)) (h : zwh c s ls2 M2 = some r) : zwh c s ls M = some r := by
  obtain ⟨n, hn⟩ := zwh_ex h
  refine zwh_of (n := n + 1) ?_
  unfold zw
  rw [hc]
  dsimp only
  rw [hs]
  exact hn
/-- a loop is left by a return -/
theorem zwh_r {c : zB} {s : zS} {ls ls2 : zL} {M M1 M2 : zM} {v : Option Int32} (hc : c ls M = some (true, M1)) (hs : s ls M1 = some (some v, ls2, M2)) : zwh c s ls M = some (some v, ls2, M2) := by
  refine zwh_of (n := 1) ?_
  unfold zw
  rw [hc]
  dsimp only
  rw [hs]
/-- a loop ends -/
theorem zwh_f {c : zB} {s : zS} {ls : zL} {M M1 : zM} (hc : c ls M = some (false, M1)) : zwh c s ls M = some (none, ls, M1) := by
  refine zwh_of (n := 1) ?_
  unfold zw
  rw [hc]
/-! refinement -/
theorem zr_skip {G : xm_G} {l : Launch} {y d pc : Nat} : zrS G l y d pc pc zskip := by
  intro ls M r ls' M' h mc ms cs zs post h1 h2 k kr
  cases h
  exact k rfl
theorem zr_seq {G : xm_G} {l : Launch} {y d pc : Nat} (p1 : Nat) {pc' : Nat} {s t : zS} (hs : zrS G l y d pc p1 s) (ht : zrS G l y d p1 pc' t) : zrS G l y d pc pc' (zseq s t) := by
  intro ls M r ls' M' h mc ms cs zs post h1 h2 k kr
  unfold zseq at h
  cases hq : s ls M with
  | none => rw [hq] at h; cases h
  | some w =>
    obtain ⟨r1, ls1, M1⟩ := w
    rw [hq] at h
    cases r1 with
    | none => exact hs ls M _ _ _ hq mc ms cs zs post h1 h2 (fun _ => ht ls1 M1 _ _ _ h mc ms cs zs post h1 h2 k kr) (fun v hv => by cases hv)
    | some v =>
      cases h
      exact hs ls M _ _ _ hq mc ms cs zs post h1 h2 (fun hv => by cases hv) kr
theorem zr_sti {G : xm_G} {l : Launch} {y d pc : Nat} (p1 pc' : Nat) {i : Nat} {e : zE} {o : xm_Op} (he : zrE G l y d pc p1 0 e) (hk : ∀ ls M v M', e ls M = some (v, M') → ∃ x, v = Value.int x) (ho : xm_op y p1 = some o) (hs : ∀ ls st, xm_stp o ls st = (xm_sti ls i st).map (fun r => (pc', r))) : zrS G l y d pc pc' (zst i e) := by
  intro ls M r ls' M' h mc ms cs zs post h1 h2 k kr
  unfold zst at h
  split at h
  · rename_i v M1 hE
    split at h
    · rename_i hi
      cases h
      obtain ⟨x, rfl⟩ := hk _ _ _ _ hE
      refine (he ls M _ _ hE).2 mc ms cs zs [] post h1 h2 (Nat.le_refl _) ?_
      refine xm_step ho ((hs ls _).trans (by unfold xm_sti; dsimp only; rw [if_pos hi]; rfl)) (k rfl)
    · cases h
  · cases h
theorem zr_sta {G : xm_G} {l : Launch} {y d pc : Nat} (p1 pc' : Nat) {i : Nat} {e : zE} {o : xm_Op} (he : zrE G l y d pc p1 0 e) (hk : ∀ ls M v M', e ls M = some (v, M') → ∃ x, v = Value.ref x) (ho : xm_op y p1 = some o) (hs : ∀ ls st, xm_stp o ls st = (xm_sta ls i st).map (fun r => (pc', r))) : zrS G l y d pc pc' (zst i e) := by
  intro ls M r ls' M' h mc ms cs zs post h1 h2 k kr
  unfold zst at h
  split at h
  · rename_i v M1 hE
    split at h
    · rename_i hi
      cases h
      obtain ⟨x, rfl⟩ := hk _ _ _ _ hE
      refine (he ls M _ _ hE).2 mc ms cs zs [] post h1 h2 (Nat.le_refl _) ?_
      refine xm_step ho ((hs ls _).trans (by unfold xm_sta; dsimp only; rw [if_pos hi]; rfl)) (k rfl)
    · cases h
  · cases h
theorem zr_inc {G : xm_G} {l : Launch} {y d pc : Nat} (pc' : Nat) {i : Nat} {n : Int32} {o : xm_Op} (m : Int) (ho : xm_op y pc = some o) (hs : ∀ ls st, xm_stp o ls st = (xm_inc ls i m).map (fun r => (pc', r, st))) (hm : Int32.ofInt m = n) : zrS G l y d pc pc' (zinc i n) := by
  intro ls M r ls' M' h mc ms cs zs post h1 h2 k kr
  unfold zinc at h
  split at h
  · rename_i x hx
    cases h
    refine xm_step ho ((hs ls _).trans (by unfold xm_inc; rw [hx, hm]; rfl)) (k rfl)
  · cases h
theorem zr_if {G : xm_G} {l : Launch} {y d pc : Nat} (p1 p2 : Nat) {pc' : Nat} {b : zB} {s t : zS} (hb : zrB G l y d pc p1 p2 0 b) (hs : zrS G l y d p1 pc' s) (ht : zrS G l y d p2 pc' t) : zrS G l y d pc pc' (zif b s t) := by
  intro ls M r ls' M' h mc ms cs zs post h1 h2 k kr
  unfold zif at h
  split at h
  · rename_i M1 hB
    exact hb ls M _ _ hB mc ms cs zs [] post h1 h2 (Nat.le_refl _) (hs ls M1 _ _ _ h mc ms cs zs post h1 h2 k kr)
  · rename_i M1 hB
    exact hb ls M _ _ hB mc ms cs zs [] post h1 h2 (Nat.le_refl _) (ht ls M1 _ _ _ h mc ms cs zs post h1 h2 k kr)
  · cases h
theorem zr_wh {G : xm_G} {l : Launch} {y d pc : Nat} (p1 : Nat) {pc' : Nat} {b : zB} {s : zS} (hb : zrB G l y d pc p1 pc' 0 b) (hs : zrS G l y d p1 pc s) : zrS G l y d pc pc' (zwh b s) := by
  intro ls M r ls' M' h
  obtain ⟨n, hn⟩ := zwh_ex h
  clear h
  induction n generalizing ls M with
  | zero => cases hn
  | succ n ih =>
    intro mc ms cs zs post h1 h2 k kr
    unfold zw at hn
    cases hc : b ls M with
    | none => rw [hc] at hn; cases hn
    | some q =>
      obtain ⟨t, M1⟩ := q
      rw [hc] at hn
      cases t with
      | false =>
        cases hn
        exact hb _ _ _ _ hc mc ms cs zs [] post h1 h2 (Nat.le_refl _) (k rfl)
      | true =>
        dsimp only at hn
        refine hb ls M _ _ hc mc ms cs zs [] post h1 h2 (Nat.le_refl _) ?_
        cases hq : s ls M1 with
        | none => rw [hq] at hn; cases hn
        | some w =>
          obtain ⟨r1, ls2, M2⟩ := w
          rw [hq] at hn
          cases r1 with
          | some v =>
            cases hn
            exact hs ls M1 _ _ _ hq mc ms cs zs post h1 h2 (fun hv => by cases hv) kr
          | none => exact hs ls M1 _ _ _ hq mc ms cs zs post h1 h2 (fun _ => ih ls2 M2 hn mc ms cs zs post h1 h2 k kr) (fun v hv => by cases hv)
theorem xm_le_kl : ∀ (n : Nat) (ls : zL), xm_le (ls.take n ++ List.replicate (ls.length - n) none) ls
  | _, [] => by simp [xm_le]
  | 0, a :: ls => by
    have h := xm_le_kl 0 ls
    simp only [List.take_zero, List.nil_append, Nat.sub_zero, List.length_cons, List.replicate_succ] at h ⊢
    exact h
  | n + 1, a :: ls => by
    have h := xm_le_kl n ls
    simp only [List.take_succ_cons, List.length_cons, Nat.add_sub_add_right, List.cons_append]
    cases a with
    | none => exact h
    | some v => exact ⟨rfl, h⟩
theorem zr_kl {G : xm_G} {l : Launch} {y d pc pc' : Nat} {n : Nat} {s : zS} (hs : zrS G l y d pc pc' s) : zrS G l y d pc pc' (zkl n s) := by
  intro ls M r ls' M' h mc ms cs zs post h1 h2 k kr
  unfold zkl at h
  cases hq : s ls M with
  | none => rw [hq] at h; cases h
  | some w =>
    obtain ⟨r1, ls1, M1⟩ := w
    rw [hq] at h
    cases r1 with
    | none =>
      cases h
      exact hs ls M _ _ _ hq mc ms cs zs post h1 h2 (fun _ => xm_sub (xm_le_kl n ls1) (k rfl)) (fun v hv => by cases hv)
    | some v =>
      cases h
      exact hs ls M _ _ _ hq mc ms cs zs post h1 h2 (fun hv => by cases hv) kr
theorem zr_goS {G : xm_G} {l : Launch} {y d pc : Nat} (p1 pc' : Nat) {s : zS} {o : xm_Op} (hs : zrS G l y d pc p1 s) (ho : xm_op y p1 = some o) (hg : ∀ ls st, xm_stp o ls st = some (pc', ls, st)) : zrS G l y d pc pc' s := by
  intro ls M r ls' M' h mc ms cs zs post h1 h2 k kr
  exact hs ls M r ls' M' h mc ms cs zs post h1 h2 (fun hr => xm_step ho (hg ls' []) (k hr)) kr
theorem zr_ret {G : xm_G} {l : Launch} {y d pc : Nat} (p1 : Nat) {pc' : Nat} {e : zE} {len a b : Nat} (he : zrE G l y d pc p1 0 e) (ho : xm_op y p1 = some (p1, .ireturn, len, a, b)) (hty : xm_rt y = some .int) : zrS G l y d pc pc' (zret e) := by
  intro ls M r ls' M' h mc ms cs zs post h1 h2 k kr
  unfold zret at h
  split at h
  · rename_i x M1 hE
    cases h
    refine (he ls M _ _ hE).2 mc ms cs zs [] post h1 h2 (Nat.le_refl _) ?_
    exact xm_retI ho hty rfl h1 h2 (kr _ rfl)
  · cases h
theorem zr_retz {G : xm_G} {l : Launch} {y d pc : Nat} (p1 : Nat) {pc' : Nat} {e : zE} {len a b : Nat} (he : zrE G l y d pc p1 0 e) (ho : xm_op y p1 = some (p1, .ireturn, len, a, b)) (hty : xm_rt y = some .boolean) : zrS G l y d pc pc' (zretz e) := by
  intro ls M r ls' M' h mc ms cs zs post h1 h2 k kr
  unfold zretz at h
  split at h
  · rename_i x M1 hE
    split at h
    · rename_i hx
      cases h
      refine (he ls M _ _ hE).2 mc ms cs zs [] post h1 h2 (Nat.le_refl _) ?_
      refine xm_retI ho hty ?_ h1 h2 (kr _ rfl)
      rcases hx with hx | hx
      · subst hx; decide
      · subst hx; decide
    · cases h
  · cases h
theorem zr_retv {G : xm_G} {l : Launch} {y d pc : Nat} {pc' : Nat} {len a b : Nat} (ho : xm_op y pc = some (pc, .return_, len, a, b)) (hty : xm_rt y = none) : zrS G l y d pc pc' zretv := by
  intro ls M r ls' M' h mc ms cs zs post h1 h2 k kr
  cases h
  exact xm_retV ho hty h1 h2 (kr _ rfl)
theorem zr_pf {G : xm_G} {l : Launch} {y d pc : Nat} (p1 p2 : Nat) {c j : Nat} {a e : zE} {i len : Nat} (ha : zrE G l y d pc p1 0 a) (he : zrE G l y d p1 p2 1 e) (ho : xm_op y p2 = some (p2, .putfield i, len, c, j)) (hI : xm_isI c j = true) : zrS G l y d pc (p2 + 3) (zpf c j a e) := by
  intro ls M r ls' M' h mc ms cs zs post h1 h2 k kr
  unfold zpf at h
  split at h
  · rename_i kk M1 hA
    split at h
    · rename_i x M2 hE
      split at h
      · rename_i ht
        cases h
        obtain ⟨N, hN⟩ := ztag_spec ht
        refine (ha ls M _ _ hA).2 mc ms cs zs [] post h1 h2 (Nat.le_refl _) ?_
        refine (he ls M1 _ _ hE).2 mc ms cs zs _ post h1 h2 (Nat.le_refl _) ?_
        exact xm_putI ho hN hI (k rfl)
      · cases h
    · cases h
  · cases h
theorem zr_pfc {G : xm_G} {l : Launch} {y d pc : Nat} (p1 p2 p3 p4 : Nat) {c j : Nat} {f : Int32 → Int32 → Int32} {a e : zE} {i i2 len len2 : Nat} {o o2 : xm_Op} (ha : zrE G l y d pc p1 0 a) (hd1 : xm_op y p1 = some o) (hd2 : ∀ ls st v, v.category = 1 → xm_stp o ls (v :: st) = some (p2, ls, v :: v :: st)) (hg : xm_op y p2 = some (p2, .getfield i2, len2, c, j)) (he : zrE G l y d (p2 + 3) p3 2 e) (hf : xm_op y p3 = some o2) (hf2 : ∀ ls st x w, xm_stp o2 ls (.int w :: .int x :: st) = some (p4, ls, .int (f x w) :: st)) (ho : xm_op y p4 = some (p4, .putfield i, len, c, j)) (hI : xm_isI c j = true) : zrS G l y d pc (p4 + 3) (zpfc c j f a e) := by
  intro ls M r ls' M' h mc ms cs zs post h1 h2 k kr
  unfold zpfc at h
  split at h
  · rename_i kk M1 hA
    split at h
    · rename_i ht
      split at h
      · rename_i x M2 hE
        cases h
        obtain ⟨N, hN⟩ := ztag_spec ht
        refine (ha ls M _ _ hA).2 mc ms cs zs [] post h1 h2 (Nat.le_refl _) ?_
        refine xm_step hd1 (hd2 ls [] (.ref kk) rfl) ?_
        refine xm_getI hg hN hI ?_
        refine (he ls M1 _ _ hE).2 mc ms cs zs _ post h1 h2 (Nat.le_refl _) ?_
        refine xm_step hf (hf2 ls _ _ x) ?_
        exact xm_putI ho hN hI (k rfl)
      · cases h
    · cases h
  · cases h
theorem zr_as {G : xm_G} {l : Launch} {y d pc : Nat} (p1 p2 p3 : Nat) {a b e : zE} {len u w9 : Nat} (ha : zrE G l y d pc p1 0 a) (hb : zrE G l y d p1 p2 1 b) (he : zrE G l y d p2 p3 2 e) (ho : xm_op y p3 = some (p3, .iastore, len, u, w9)) : zrS G l y d pc (p3 + 1) (zas 0 (fun x => x) a b e) := by
  intro ls M r ls' M' h mc ms cs zs post h1 h2 k kr
  unfold zas at h
  split at h
  · rename_i kk M1 hA
    split at h
    · rename_i i M2 hB
      split at h
      · rename_i x M3 hE
        split at h
        · rename_i ht
          cases h
          obtain ⟨N, hN, hi⟩ := zin_spec ht
          refine (ha ls M _ _ hA).2 mc ms cs zs [] post h1 h2 (Nat.le_refl _) ?_
          refine (hb ls M1 _ _ hB).2 mc ms cs zs _ post h1 h2 (Nat.le_refl _) ?_
          refine (he ls M2 _ _ hE).2 mc ms cs zs _ post h1 h2 (Nat.le_refl _) ?_
          exact xm_iast ho hN hi (k rfl)
        · cases h
      · cases h
    · cases h
  · cases h
theorem zr_asz {G : xm_G} {l : Launch} {y d pc : Nat} (p1 p2 p3 : Nat) {a b e : zE} {len u w9 : Nat} (ha : zrE G l y d pc p1 0 a) (hb : zrE G l y d p1 p2 1 b) (he : zrE G l y d p2 p3 2 e) (ho : xm_op y p3 = some (p3, .bastore, len, u, w9)) : zrS G l y d pc (p3 + 1) (zas 1 (vp_nar .boolean) a b e) := by
  intro ls M r ls' M' h mc ms cs zs post h1 h2 k kr
  unfold zas at h
  split at h
  · rename_i kk M1 hA
    split at h
    · rename_i i M2 hB
      split at h
      · rename_i x M3 hE
        split at h
        · rename_i ht
          cases h
          obtain ⟨N, hN, hi⟩ := zin_spec ht
          refine (ha ls M _ _ hA).2 mc ms cs zs [] post h1 h2 (Nat.le_refl _) ?_
          refine (hb ls M1 _ _ hB).2 mc ms cs zs _ post h1 h2 (Nat.le_refl _) ?_
          refine (he ls M2 _ _ hE).2 mc ms cs zs _ post h1 h2 (Nat.le_refl _) ?_
          exact xm_zast ho hN hi (k rfl)
        · cases h
      · cases h
    · cases h
  · cases h
theorem zr_asc {G : xm_G} {l : Launch} {y d pc : Nat} (p1 p2 p3 p4 p5 : Nat) {f : Int32 → Int32 → Int32} {a b e : zE} {len len2 u w9 u2 w2 : Nat} {o o2 : xm_Op} (ha : zrE G l y d pc p1 0 a) (hb : zrE G l y d p1 p2 1 b) (hd1 : xm_op y p2 = some o) (hd2 : ∀ ls st v w, v.category = 1 → w.category = 1 → xm_stp o ls (v :: w :: st) = some (p3, ls, v :: w :: v :: w :: st)) (hl : xm_op y p3 = some (p3, .iaload, len2, u2, w2)) (he : zrE G l y d (p3 + 1) p4 3 e) (hf : xm_op y p4 = some o2) (hf2 : ∀ ls st x w, xm_stp o2 ls (.int w :: .int x :: st) = some (p5, ls, .int (f x w) :: st)) (ho : xm_op y p5 = some (p5, .iastore, len, u, w9)) : zrS G l y d pc (p5 + 1) (zasc f a b e) := by
  intro ls M r ls' M' h mc ms cs zs post h1 h2 k kr
  unfold zasc at h
  split at h
  · rename_i kk M1 hA
    split at h
    · rename_i i M2 hB
      split at h
      · rename_i ht
        split at h
        · rename_i x M3 hE
          cases h
          obtain ⟨N, hN, hi⟩ := zin_spec ht
          refine (ha ls M _ _ hA).2 mc ms cs zs [] post h1 h2 (Nat.le_refl _) ?_
          refine (hb ls M1 _ _ hB).2 mc ms cs zs _ post h1 h2 (Nat.le_refl _) ?_
          refine xm_step hd1 (hd2 ls [] (.int i) (.ref kk) rfl rfl) ?_
          refine xm_iald hl hN hi ?_
          refine (he ls M2 _ _ hE).2 mc ms cs zs _ post h1 h2 (Nat.le_refl _) ?_
          refine xm_step hf (hf2 ls _ _ x) ?_
          exact xm_iast ho hN hi (k rfl)
        · cases h
      · cases h
    · cases h
  · cases h
theorem zr_do {G : xm_G} {l : Launch} {y d pc n : Nat} (p1 : Nat) {as : zA} {f : zF} {i len a d' : Nat} (ha : zrA G l y d pc p1 0 n as) (ho : xm_op y p1 = some (p1, .invokestatic i, len, a, 0)) (hf : zrF G l a d' n f) (hn : n = xm_np a) (hd : d' + 1 ≤ d) : zrS G l y d pc (p1 + 3) (zdo f as) := by
  intro ls M r ls' M' h mc ms cs zs post h1 h2 k kr
  unfold zdo at h
  split at h
  · rename_i vs M1 hA
    split at h
    · rename_i M2 hr
      cases h
      obtain ⟨⟨a1, a2⟩, a3⟩ := ha ls M _ _ hA
      refine a3 mc ms cs zs [] post h1 h2 (Nat.le_refl _) ?_
      refine xm_callS (As := vs) (rest := []) (d' := d') (mc' := 0) (ms' := 0) ho (hf vs M1 _ _ a1 a2 hr) (a1.trans hn) hd h1 h2 (Nat.zero_le _) (fun r' h' hp => ?_)
      obtain ⟨rfl, rfl⟩ := hp
      exact k rfl
    · cases h
  · cases h
theorem zr_dov {G : xm_G} {l : Launch} {y d pc n : Nat} (p1 : Nat) {as : zA} {f : zF} {c i len a b d' : Nat} (ha : zrA G l y d pc p1 0 (n + 1) as) (ho : xm_op y p1 = some (p1, .invokevirtual i, len, a, b)) (hcl : (xm_cl[c]?).map (fun q => q.1) = some (xm_nm a).cls) (hf : zrF G l a d' (n + 1) f) (hn : n = xm_np a) (hd : d' + 1 ≤ d) : zrS G l y d pc (p1 + 3) (zdov c f as) := by
  intro ls M r ls' M' h mc ms cs zs post h1 h2 k kr
  unfold zdov at h
  split at h
  · rename_i vs M1 hA
    split at h
    · rename_i hrc
      split at h
      · rename_i M2 hr
        cases h
        obtain ⟨⟨a1, a2⟩, a3⟩ := ha ls M _ _ hA
        obtain ⟨kk, ws, N, rfl, hN⟩ := zrcv_spec hrc
        refine a3 mc ms cs zs [] post h1 h2 (Nat.le_refl _) ?_
        rw [List.reverse_cons, List.append_assoc]
        refine xm_callV (As := ws) (rest := []) (k := kk) (ci := c) (N := N) (d' := d') (mc' := 0) (ms' := 0) ho hN hcl (hf _ M1 _ _ a1 a2 hr) (by simpa using (Nat.succ.inj a1).trans hn) hd h1 h2 (Nat.zero_le _) (fun r' h' hp => ?_)
        obtain ⟨rfl, rfl⟩ := hp
        exact k rfl
      · cases h
    · cases h
  · cases h
theorem zr_cpy {G : xm_G} {l : Launch} {y d pc : Nat} (p1 p2 p3 p4 p5 : Nat) {a b : zE} {n : Nat} {i len u w : Nat} {o2 o4 o5 : xm_Op} (ha : zrE G l y d pc p1 0 a) (h2' : xm_op y p1 = some o2) (s2 : ∀ ls st, xm_stp o2 ls st = some (p2, ls, .int 0 :: st)) (hb : zrE G l y d p2 p3 2 b) (h4 : xm_op y p3 = some o4) (s4 : ∀ ls st, xm_stp o4 ls st = some (p4, ls, .int 0 :: st)) (h5 : xm_op y p4 = some o5) (s5 : ∀ ls st, xm_stp o5 ls st = some (p5, ls, .int (nI n) :: st)) (ho : xm_op y p5 = some (p5, .invokestatic i, len, u, w + 2)) (hn : 0 < n ∧ n < 1000) (hd : 1 ≤ d) : zrS G l y d pc (p5 + 3) (zcpy a b n) := by
  intro ls M r ls' M' h mc ms cs zs post h1 h2 k kr
  unfold zcpy at h
  split at h
  · rename_i k0 M1 hA
    split at h
    · rename_i k1 M2 hB
      split at h
      · rename_i ht
        cases h
        obtain ⟨N0, hN0, hi0⟩ := zin_spec ht.1
        obtain ⟨N1, hN1, hi1⟩ := zin_spec ht.2
        refine (ha ls M _ _ hA).2 mc ms cs zs [] post h1 h2 (Nat.le_refl _) ?_
        refine xm_step h2' (s2 ls _) ?_
        refine (hb ls M1 _ _ hB).2 mc ms cs zs _ post h1 h2 (Nat.le_refl _) ?_
        refine xm_step h4 (s4 ls _) ?_
        refine xm_step h5 (s5 ls _) ?_
        have e0 : (0 : Int32).toNatClampNeg = 0 := by decide
        have en : (nI n).toNatClampNeg = n := nI_clamp (by omega)
        have g0 : n - 1 < N0 := by
          have := Nat.not_le.mp (fun q => hi0 (Or.inr q))
          rw [nI_clamp (by omega)] at this
          exact this
        have g1 : n - 1 < N1 := by
          have := Nat.not_le.mp (fun q => hi1 (Or.inr q))
          rw [nI_clamp (by omega)] at this
          exact this
        refine xm_copy ho hN0 hN1 (by decide) (by decide) (nI_pos (by omega)) (by rw [e0, en]; omega) (by rw [e0, en]; omega) hd (Nat.zero_le _) ?_
        rw [e0, en]
        exact k rfl
      · cases h
    · cases h
  · cases h
theorem zr_sw {G : xm_G} {l : Launch} {y d pc : Nat} (p1 tdf : Nat) {pc' : Nat} {e : zE} {L : List (Nat × zS)} {sd : zS} {len a b : Nat} {df lo hi : Int} {offs : Array Int} (he : zrE G l y d pc p1 0 e) (ho : xm_op y p1 = some (p1, .tableswitch df lo hi offs, len, a, b)) (hhi : lo + L.length - 1 = hi) (hp : offs.toList.map (fun f => (p1 : Int) + f) = L.map (fun q => (q.1 : Int))) (hdf : (p1 : Int) + df = (tdf : Int)) (hL : ∀ q ∈ L, zrS G l y d q.1 pc' q.2) (hD : zrS G l y d tdf pc' sd) : zrS G l y d pc pc' (zsw e lo L sd) := by
  intro ls M r ls' M' h mc ms cs zs post h1 h2 k kr
  unfold zsw at h
  split at h
  · rename_i x M1 hE
    refine (he ls M _ _ hE).2 mc ms cs zs [] post h1 h2 (Nat.le_refl _) ?_
    unfold zpick at h
    rw [hhi] at h
    by_cases hc : x.toInt < lo ∨ hi < x.toInt
    · rw [if_pos hc] at h
      refine xm_swi (t := tdf) ho ?_ (hD ls M1 _ _ _ h mc ms cs zs post h1 h2 k kr)
      unfold xm_sw
      rw [if_pos hc]
      dsimp only
      rw [hdf]
    · rw [if_neg hc] at h
      cases hq : L[(x.toInt - lo).toNat]? with
      | some q =>
        rw [hq] at h
        refine xm_swi (t := q.1) ho ?_ (hL q (List.mem_of_getElem? hq) ls M1 _ _ _ h mc ms cs zs post h1 h2 k kr)
        unfold xm_sw
        rw [if_neg hc]
        have h9 : (offs.toList.map (fun f => (p1 : Int) + f))[(x.toInt - lo).toNat]? = some (q.1 : Int) := by
          rw [hp, List.getElem?_map, hq]
          rfl
        rw [List.getElem?_map] at h9
        obtain ⟨f, hf, hf2⟩ := Option.map_eq_some_iff.mp h9
        rw [Array.getElem?_toList] at hf
        rw [hf]
        dsimp only
        rw [hf2]
      | none =>
        rw [hq] at h
        cases h
  · cases h
theorem zr_meth {G : xm_G} {l : Launch} {y d n m : Nat} (pc' : Nat) {s : zS} (hy : y < xm_N - 1 ∧ (y ≠ 151 ∧ y ≠ 152)) (hm : xm_mL y = m) (hn : n ≤ m) (hs : zrS G l y d 0 pc' s) : zrF G l y d n (zmeth m s) := by
  intro as M r M' hl hc h
  unfold zmeth at h
  split at h
  · rename_i r1 ls1 M1 hq
    cases h
    refine xm_enter' hy (List.all_eq_true.mpr (fun v hv => by rw [hc v hv]; rfl)) (by rw [hl, hm]; exact hn) rfl ?_
    rw [hm]
    exact hs _ M _ _ _ hq 0 0 0 0 _ (Nat.le_refl _) (Nat.le_refl _) (fun hv => by cases hv) (fun v hv => by cases hv; exact ⟨rfl, rfl⟩)
  · cases h
/-! which values are ints -/
def zI (e : zE) : Prop := ∀ ls M v M', e ls M = some (v, M') → ∃ x, v = Value.int x
def zR (e : zE) : Prop := ∀ ls M v M', e ls M = some (v, M') → ∃ x, v = Value.ref x
theorem zI_k {c : Int32} : zI (zk c) := fun ls M v M' h => by cases h; exact ⟨_, rfl⟩
theorem zI_i {i : Nat} : zI (zi i) := fun ls M v M' h => by
  unfold zi at h
  split at h
  · cases h; exact ⟨_, rfl⟩
  · cases h
theorem zI_bin {f : Int32 → Int32 → Int32} {a b : zE} : zI (zbin f a b) := fun ls M v M' h => by
  unfold zbin at h
  split at h
  · split at h
    · cases h; exact ⟨_, rfl⟩
    · cases h
  · cases h
theorem zI_div {a b : zE} : zI (zdiv a b) := fun ls M v M' h => by
  unfold zdiv at h
  split at h
  · split at h
    · split at h
      · cases h
      · cases h; exact ⟨_, rfl⟩
    · cases h
  · cases h
theorem zI_rem {a b : zE} : zI (zrem a b) := fun ls M v M' h => by
  unfold zrem at h
  split at h
  · split at h
    · split at h
      · cases h
      · cases h; exact ⟨_, rfl⟩
    · cases h
  · cases h
theorem zI_gi {c j : Nat} {a : zE} : zI (zgi c j a) := fun ls M v M' h => by
  unfold zgi at h
  split at h
  · split at h
    · cases h; exact ⟨_, rfl⟩
    · cases h
  · cases h
theorem zI_ld {t : Nat} {a b : zE} : zI (zld t a b) := fun ls M v M' h => by
  unfold zld at h
  split at h
  · split at h
    · split at h
      · cases h; exact ⟨_, rfl⟩
      · cases h
    · cases h
  · cases h
theorem zI_len {a : zE} : zI (zlen a) := fun ls M v M' h => by
  unfold zlen at h
  split at h
  · split at h
    · split at h
      · cases h; exact ⟨_, rfl⟩
      · cases h
    · cases h
  · cases h
theorem zI_call {f : zF} {as : zA} : zI (zcall f as) := fun ls M v M' h => by
  unfold zcall at h
  split at h
  · split at h
    · cases h; exact ⟨_, rfl⟩
    · cases h
  · cases h
theorem zI_callv {c : Nat} {f : zF} {as : zA} : zI (zcallv c f as) := fun ls M v M' h => by
  unfold zcallv at h
  split at h
  · split at h
    · split at h
      · cases h; exact ⟨_, rfl⟩
      · cases h
    · cases h
  · cases h
theorem zI_ite {b : zB} {e1 e2 : zE} (h1 : zI e1) (h2 : zI e2) : zI (zite b e1 e2) := fun ls M v M' h => by
  unfold zite at h
  split at h
  · exact h1 _ _ _ _ h
  · exact h2 _ _ _ _ h
  · cases h
theorem zR_ldr {a b : zE} : zR (zldr a b) := fun ls M v M' h => by
  unfold zldr at h
  split at h
  · split at h
    · split at h
      · split at h
        · cases h; exact ⟨_, rfl⟩
        · cases h
      · cases h
    · cases h
  · cases h
theorem zrL_n {P : Nat × zS → Prop} : ∀ q ∈ ([] : List (Nat × zS)), P q := fun q h => absurd h List.not_mem_nil
theorem zrL_c {P : Nat × zS → Prop} {a : Nat × zS} {L : List (Nat × zS)} (h : P a) (hL : ∀ q ∈ L, P q) : ∀ q ∈ a :: L, P q := fun q hq => by
  rcases List.mem_cons.mp hq with h2 | h2
  · rw [h2]; exact h
  · exact hL q h2
