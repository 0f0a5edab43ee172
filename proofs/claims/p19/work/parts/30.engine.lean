/-! ENGINE, first part: what a method does, as a function over the heap at hand (its shape and references never change once both objects are made) -/
abbrev zM : Type := Nat → Nat → Int32
abbrev zL : Type := List (Option Value)
abbrev zE : Type := zL → zM → Option (Value × zM)
abbrev zA : Type := zL → zM → Option (List Value × zM)
abbrev zB : Type := zL → zM → Option (Bool × zM)
abbrev zS : Type := zL → zM → Option (Option (Option Int32) × zL × zM)
abbrev zF : Type := List Value → zM → Option (Option Int32 × zM)
abbrev zh (M : zM) : xm_H := (xp_sh, xp_rf, M)
/-- a store -/
def zup (M : zM) (k j : Nat) (x : Int32) : zM := va_up M k (upd (M k) j x)
def zcat (st : List Value) : Nat := (st.map fun v => v.category).sum
/-! what expressions do -/
def zk (c : Int32) : zE := fun _ M => some (.int c, M)
def zi (i : Nat) : zE := fun ls M => match ls[i]? with
  | some (some (.int x)) => some (.int x, M)
  | _ => none
def za (i : Nat) : zE := fun ls M => match ls[i]? with
  | some (some (.ref x)) => some (.ref x, M)
  | _ => none
def zbin (f : Int32 → Int32 → Int32) (a b : zE) : zE := fun ls M => match a ls M with
  | some (.int x, M1) => match b ls M1 with
    | some (.int y, M2) => some (.int (f x y), M2)
    | _ => none
  | _ => none
def zdiv (a b : zE) : zE := fun ls M => match a ls M with
  | some (.int x, M1) => match b ls M1 with
    | some (.int y, M2) => if y = 0 then none else some (.int (x / y), M2)
    | _ => none
  | _ => none
def zmod (x y : Int32) : Int32 := x - x / y * y
def zrem (a b : zE) : zE := fun ls M => match a ls M with
  | some (.int x, M1) => match b ls M1 with
    | some (.int y, M2) => if y = 0 then none else some (.int (zmod x y), M2)
    | _ => none
  | _ => none
abbrev z_add : Int32 → Int32 → Int32 := fun x y => x + y
abbrev z_sub : Int32 → Int32 → Int32 := fun x y => x - y
abbrev z_mul : Int32 → Int32 → Int32 := fun x y => x * y
abbrev z_and : Int32 → Int32 → Int32 := fun x y => x &&& y
abbrev z_or : Int32 → Int32 → Int32 := fun x y => x ||| y
abbrev z_xor : Int32 → Int32 → Int32 := fun x y => x ^^^ y
abbrev z_shl : Int32 → Int32 → Int32 := fun x y => x <<< (y &&& 31)
abbrev z_shr : Int32 → Int32 → Int32 := fun x y => x >>> (y &&& 31)
abbrev z_ushr : Int32 → Int32 → Int32 := fun x y => (x.toUInt32 >>> (y.toUInt32 &&& Int32.toUInt32 31)).toInt32
def ztag (k t : Nat) : Bool := match xp_sh[k]? with
  | some q => decide (q.1 = t)
  | none => false
def zin (t k : Nat) (i : Int32) : Bool := match xp_sh[k]? with
  | some q => decide (q.1 = t) && (!decide (i < 0) && decide (i.toNatClampNeg < q.2))
  | none => false
def zgi (c j : Nat) (a : zE) : zE := fun ls M => match a ls M with
  | some (.ref k, M1) => if ztag k (c + 3) = true then some (.int (M1 k j), M1) else none
  | _ => none
def zgr (c j : Nat) (a : zE) : zE := fun ls M => match a ls M with
  | some (.ref k, M1) => if ztag k (c + 3) = true then (match xp_rf k j with
    | some r => some (.ref r, M1)
    | none => none) else none
  | _ => none
def zld (t : Nat) (a b : zE) : zE := fun ls M => match a ls M with
  | some (.ref k, M1) => match b ls M1 with
    | some (.int i, M2) => if zin t k i = true then some (.int (M2 k i.toNatClampNeg), M2) else none
    | _ => none
  | _ => none
def zldr (a b : zE) : zE := fun ls M => match a ls M with
  | some (.ref k, M1) => match b ls M1 with
    | some (.int i, M2) => if zin 2 k i = true then (match xp_rf k i.toNatClampNeg with
      | some r => some (.ref r, M2)
      | none => none) else none
    | _ => none
  | _ => none
def zlen (a : zE) : zE := fun ls M => match a ls M with
  | some (.ref k, M1) => match xp_sh[k]? with
    | some q => if q.1 = 0 then some (.int (Int32.ofNat q.2), M1) else none
    | none => none
  | _ => none
def zn : zA := fun _ M => some ([], M)
def zc (as : zA) (e : zE) : zA := fun ls M => match as ls M with
  | some (vs, M1) => match e ls M1 with
    | some (v, M2) => some (vs ++ [v], M2)
    | none => none
  | none => none
/-- a call with an answer: of a static method, of a method of an object of class c -/
def zcall (f : zF) (as : zA) : zE := fun ls M => match as ls M with
  | some (vs, M1) => match f vs M1 with
    | some (some r, M2) => some (.int r, M2)
    | _ => none
  | none => none
def zrcv (c : Nat) (vs : List Value) : Bool := match vs with
  | .ref k :: _ => ztag k (c + 3)
  | _ => false
def zcallv (c : Nat) (f : zF) (as : zA) : zE := fun ls M => match as ls M with
  | some (vs, M1) => if zrcv c vs = true then (match f vs M1 with
    | some (some r, M2) => some (.int r, M2)
    | _ => none) else none
  | none => none
def zmin (a b : zE) : zE := zbin (fun u w => if w < u then w else u) a b
def zmax (a b : zE) : zE := zbin (fun u w => if u < w then w else u) a b
/-! conditions -/
def zcmp (c : ClassFile.Cond) (a b : zE) : zB := fun ls M => match a ls M with
  | some (.int x, M1) => match b ls M1 with
    | some (.int y, M2) => some (xe_cd c x y, M2)
    | _ => none
  | _ => none
def zcz (c : ClassFile.Cond) (a : zE) : zB := fun ls M => match a ls M with
  | some (.int x, M1) => some (xe_cd c x 0, M1)
  | _ => none
def zand (a b : zB) : zB := fun ls M => match a ls M with
  | some (true, M1) => b ls M1
  | r => r
def zor (a b : zB) : zB := fun ls M => match a ls M with
  | some (false, M1) => b ls M1
  | r => r
def znot (a : zB) : zB := fun ls M => match a ls M with
  | some (r, M1) => some (!r, M1)
  | none => none
def zbite (c a b : zB) : zB := fun ls M => match c ls M with
  | some (true, M1) => a ls M1
  | some (false, M1) => b ls M1
  | none => none
def zite (b : zB) (e1 e2 : zE) : zE := fun ls M => match b ls M with
  | some (true, M1) => e1 ls M1
  | some (false, M1) => e2 ls M1
  | none => none
/-! statements: none: goes on, some r: has returned r -/
def zskip : zS := fun ls M => some (none, ls, M)
def zseq (s t : zS) : zS := fun ls M => match s ls M with
  | some (none, ls1, M1) => t ls1 M1
  | r => r
def zst (i : Nat) (e : zE) : zS := fun ls M => match e ls M with
  | some (v, M1) => if i < ls.length then some (none, ls.set i (some v), M1) else none
  | none => none
def zinc (i : Nat) (n : Int32) : zS := fun ls M => match ls[i]? with
  | some (some (.int x)) => some (none, ls.set i (some (.int (x + n))), M)
  | _ => none
def zif (b : zB) (s t : zS) : zS := fun ls M => match b ls M with
  | some (true, M1) => s ls M1
  | some (false, M1) => t ls M1
  | none => none
def zw (c : zB) (s : zS) : Nat → zS
  | 0 => fun _ _ => none
  | n + 1 => fun ls M => match c ls M with
    | some (true, M1) => (match s ls M1 with
      | some (none, ls2, M2) => zw c s n ls2 M2
      | r => r)
    | some (false, M1) => some (none, ls, M1)
    | none => none
noncomputable def zwh (c : zB) (s : zS) : zS := fun ls M => @dite _ (∃ n, (zw c s n ls M).isSome = true) (Classical.propDecidable _) (fun h => zw c s (Classical.choose h) ls M) (fun _ => none)
def zkl (n : Nat) (s : zS) : zS := fun ls M => match s ls M with
  | some (none, ls1, M1) => some (none, ls1.take n ++ List.replicate (ls1.length - n) none, M1)
  | r => r
def zret (e : zE) : zS := fun ls M => match e ls M with
  | some (.int x, M1) => some (some (some x), ls, M1)
  | _ => none
def zretz (e : zE) : zS := fun ls M => match e ls M with
  | some (.int x, M1) => if x = 0 ∨ x = 1 then some (some (some x), ls, M1) else none
  | _ => none
def zretv : zS := fun ls M => some (some none, ls, M)
def zpf (c j : Nat) (a e : zE) : zS := fun ls M => match a ls M with
  | some (.ref k, M1) => match e ls M1 with
    | some (.int x, M2) => if ztag k (c + 3) = true then some (none, ls, zup M2 k j x) else none
    | _ => none
  | _ => none
/-- a field's value and e, by f, into the field -/
def zpfc (c j : Nat) (f : Int32 → Int32 → Int32) (a e : zE) : zS := fun ls M => match a ls M with
  | some (.ref k, M1) => if ztag k (c + 3) = true then (match e ls M1 with
    | some (.int x, M2) => some (none, ls, zup M2 k j (f (M1 k j) x))
    | _ => none) else none
  | _ => none
def zas (t : Nat) (g : Int32 → Int32) (a b e : zE) : zS := fun ls M => match a ls M with
  | some (.ref k, M1) => match b ls M1 with
    | some (.int i, M2) => match e ls M2 with
      | some (.int x, M3) => if zin t k i = true then some (none, ls, zup M3 k i.toNatClampNeg (g x)) else none
      | _ => none
    | _ => none
  | _ => none
/-- a place's value and e, by f, into the place -/
def zasc (f : Int32 → Int32 → Int32) (a b e : zE) : zS := fun ls M => match a ls M with
  | some (.ref k, M1) => match b ls M1 with
    | some (.int i, M2) => if zin 0 k i = true then (match e ls M2 with
      | some (.int x, M3) => some (none, ls, zup M3 k i.toNatClampNeg (f (M2 k i.toNatClampNeg) x))
      | _ => none) else none
    | _ => none
  | _ => none
def zdo (f : zF) (as : zA) : zS := fun ls M => match as ls M with
  | some (vs, M1) => match f vs M1 with
    | some (none, M2) => some (none, ls, M2)
    | _ => none
  | none => none
def zdov (c : Nat) (f : zF) (as : zA) : zS := fun ls M => match as ls M with
  | some (vs, M1) => if zrcv c vs = true then (match f vs M1 with
    | some (none, M2) => some (none, ls, M2)
    | _ => none) else none
  | none => none
/-- an answer that nobody looks at -/
def zpop (e : zE) : zS := fun ls M => match e ls M with
  | some (_, M1) => some (none, ls, M1)
  | none => none
def zcpy (a b : zE) (n : Nat) : zS := fun ls M => match a ls M with
  | some (.ref k0, M1) => match b ls M1 with
    | some (.ref k1, M2) => if zin 0 k0 (nI (n - 1)) = true ∧ zin 0 k1 (nI (n - 1)) = true then some (none, ls, va_up M2 k1 (va_cpy (M2 k0) (M2 k1) 0 0 n)) else none
    | _ => none
  | _ => none
def zpick (lo : Int) (L : List (Nat × zS)) (df : zS) (x : Int32) : zS := if x.toInt < lo ∨ lo + L.length - 1 < x.toInt then df else match L[(x.toInt - lo).toNat]? with
  | some q => q.2
  | none => fun _ _ => none
def zsw (e : zE) (lo : Int) (L : List (Nat × zS)) (df : zS) : zS := fun ls M => match e ls M with
  | some (.int x, M1) => zpick lo L df x ls M1
  | _ => none
/-- a method out of its body: n arguments, m places -/
def zmeth (m : Nat) (s : zS) : zF := fun as M => match s (xm_en as m) M with
  | some (some r, _, M1) => some (r, M1)
  | _ => none
