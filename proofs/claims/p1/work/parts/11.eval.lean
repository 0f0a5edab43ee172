/-! an evaluator of the picture: concrete runs, and runs along a given path of branches -/
abbrev xe_K : Type := ClassFile.Cond × Int32 × Int32 × Bool
abbrev xe_R : Type := Option Value × xm_H × List Bool × List xe_K
def xe_cd (c : ClassFile.Cond) (x y : Int32) : Bool := match c with
  | .eq => decide (x = y)
  | .ne => !decide (x = y)
  | .lt => decide (x < y)
  | .ge => decide (y ≤ x)
  | .gt => decide (y < x)
  | .le => decide (x ≤ y)
theorem xe_cd_iff (c : ClassFile.Cond) (x y : Int32) : xe_cd c x y = true ↔ xm_cd c x y := by cases c <;> simp [xe_cd, xm_cd]
def xe_holds (k : xe_K) : Prop := if k.2.2.2 = true then xm_cd k.1 k.2.1 k.2.2.1 else ¬ xm_cd k.1 k.2.1 k.2.2.1
def xe_fix (n : Nat) (st : List Value) : Option (List Value × List Value) := if n ≤ st.length then some ((st.take n).reverse, st.drop n) else none
theorem xe_fix_spec {n : Nat} {st as rest : List Value} (h : xe_fix n st = some (as, rest)) : st = as.reverse ++ rest ∧ as.length = n := by
  unfold xe_fix at h
  split at h
  · cases h
    rename_i hn
    exact ⟨by rw [List.reverse_reverse, List.take_append_drop], by simp; omega⟩
  · cases h
def xe_arg (a : Nat) (as : List Value) : Bool := (decide (a < xm_N - 1) && (decide (a ≠ 151) && decide (a ≠ 152))) && as.all (fun v => v.category == 1) && decide (as.length ≤ xm_mL a)
def xe_rst (rest : List Value) : Bool := decide ((rest.map fun v => v.category).sum ≤ 8)
def xe_heap (sc : List (Nat × Int32)) (o : xm_Op) (st : List Value) (h : xm_H) : Option (List Value × xm_H) := match o.2.1 with
  | .getfield _ => match st with
    | .ref k :: r => match h.1[k]? with
      | some (t, _) => if t = o.2.2.2.1 + 3 then (if xm_isI o.2.2.2.1 o.2.2.2.2 = true then some (.int (h.2.2 k o.2.2.2.2) :: r, h) else match h.2.1 k o.2.2.2.2 with
        | some q => some (.ref q :: r, h)
        | none => none) else none
      | none => none
    | _ => none
  | .putfield _ => match st with
    | .int x :: .ref k :: r => match h.1[k]? with
      | some (t, _) => if t = o.2.2.2.1 + 3 then (if xm_isI o.2.2.2.1 o.2.2.2.2 = true then some (r, xm_sm h k o.2.2.2.2 x) else none) else none
      | none => none
    | _ => none
  | .iaload => match st with
    | .int i :: .ref k :: r => match h.1[k]? with
      | some (t, N) => if t = 0 then (if i < 0 then none else if N ≤ i.toNatClampNeg then none else some (.int (h.2.2 k i.toNatClampNeg) :: r, h)) else none
      | none => none
    | _ => none
  | .baload => match st with
    | .int i :: .ref k :: r => match h.1[k]? with
      | some (t, N) => if t = 1 then (if i < 0 then none else if N ≤ i.toNatClampNeg then none else some (.int (h.2.2 k i.toNatClampNeg) :: r, h)) else none
      | none => none
    | _ => none
  | .aaload => match st with
    | .int i :: .ref k :: r => match h.1[k]? with
      | some (t, N) => if t = 2 then (if i < 0 then none else if N ≤ i.toNatClampNeg then none else match h.2.1 k i.toNatClampNeg with
        | some q => some (.ref q :: r, h)
        | none => none) else none
      | none => none
    | _ => none
  | .iastore => match st with
    | .int x :: .int i :: .ref k :: r => match h.1[k]? with
      | some (t, N) => if t = 0 then (if i < 0 then none else if N ≤ i.toNatClampNeg then none else some (r, xm_sm h k i.toNatClampNeg x)) else none
      | none => none
    | _ => none
  | .bastore => match st with
    | .int x :: .int i :: .ref k :: r => match h.1[k]? with
      | some (t, N) => if t = 1 then (if i < 0 then none else if N ≤ i.toNatClampNeg then none else some (r, xm_sm h k i.toNatClampNeg (vp_nar .boolean x))) else none
      | none => none
    | _ => none
  | .arraylength => match st with
    | .ref k :: r => match h.1[k]? with
      | some (t, N) => if t = 0 then some (.int (Int32.ofNat N) :: r, h) else none
      | none => none
    | _ => none
  | .idiv => match st with
    | .int w :: .int u :: r => if w = 0 then none else some (.int (u / w) :: r, h)
    | _ => none
  | .irem => match st with
    | .int w :: .int u :: r => if w = 0 then none else some (.int (u - u / w * w) :: r, h)
    | _ => none
  | _ => none
def xe_lp (sc : List (Nat × Int32)) (call : Nat → List Value → xm_H → List Bool → Option xe_R) : Nat → Nat → Nat → List (Option Value) → List Value → xm_H → List Bool → Option xe_R
  | 0, _, _, _, _, _, _ => none
  | n + 1, y, pc, ls, st, h, ds => match xm_op y pc with
    | none => none
    | some o => match o.2.1 with
      | .ireturn => match st with
        | [.int v] => match xm_rt y with
          | some ty => if narrow ty (.int v) = .int v then some (some (.int v), h, ds, []) else none
          | none => none
        | _ => none
      | .return_ => match st with
        | [] => match xm_rt y with
          | none => some (none, h, ds, [])
          | _ => none
        | _ => none
      | .invokestatic _ => match o.2.2.2.2 with
        | 0 => if o.2.2.2.1 = 151 then (match st with
          | .int w :: .int u :: r => if xe_rst r = true then xe_lp sc call n y (pc + 3) ls (.int (if w < u then w else u) :: r) h ds else none
          | _ => none) else if o.2.2.2.1 = 152 then (match st with
          | .int w :: .int u :: r => if xe_rst r = true then xe_lp sc call n y (pc + 3) ls (.int (if u < w then w else u) :: r) h ds else none
          | _ => none) else match xe_fix (xm_np o.2.2.2.1) st with
          | some (as, rest) => if xe_arg o.2.2.2.1 as && xe_rst rest then (match call o.2.2.2.1 as h ds with
            | some (r, h1, d1, c1) => match xe_lp sc call n y (pc + 3) ls (r.toList ++ rest) h1 d1 with
              | some (r2, h2, d2, c2) => some (r2, h2, d2, c1 ++ c2)
              | none => none
            | none => none) else none
          | none => none
        | 1 => match xe_fix 2 st with
          | some (as, rest) => if xe_arg xi_L_isBelow as && xe_rst rest then (match call xi_L_isBelow as h ds with
            | some (r, h1, d1, c1) => match xe_lp sc call n y (pc + 3) ls (r.toList ++ rest) h1 d1 with
              | some (r2, h2, d2, c2) => some (r2, h2, d2, c1 ++ c2)
              | none => none
            | none => none) else none
          | none => none
        | _ => match st with
          | .int c :: .int dp :: .ref k1 :: .int sp :: .ref k0 :: r => match h.1[k0]? with
            | some (t0, N0) => match h.1[k1]? with
              | some (t1, N1) => if t0 = 0 ∧ t1 = 0 ∧ ¬ sp < 0 ∧ ¬ dp < 0 ∧ ¬ c < 0 ∧ sp.toNatClampNeg + c.toNatClampNeg ≤ N0 ∧ dp.toNatClampNeg + c.toNatClampNeg ≤ N1 ∧ xe_rst r = true then xe_lp sc call n y (pc + 3) ls r (h.1, h.2.1, va_up h.2.2 k1 (va_cpy (h.2.2 k0) (h.2.2 k1) sp.toNatClampNeg dp.toNatClampNeg c.toNatClampNeg)) ds else none
              | none => none
            | none => none
          | _ => none
      | .invokevirtual _ => match xe_fix (xm_np o.2.2.2.1) st with
        | some (as, .ref k :: rest) => match h.1[k]? with
          | some (ci + 3, _) => if xe_arg o.2.2.2.1 (.ref k :: as) && xe_rst rest && decide ((xm_cl[ci]?).map (fun q => q.1) = some (xm_nm o.2.2.2.1).cls) then (match call o.2.2.2.1 (.ref k :: as) h ds with
            | some (r, h1, d1, c1) => match xe_lp sc call n y (pc + 3) ls (r.toList ++ rest) h1 d1 with
              | some (r2, h2, d2, c2) => some (r2, h2, d2, c1 ++ c2)
              | none => none
            | none => none) else none
          | _ => none
        | _ => none
      | .tableswitch df lo hi offs => match st with
        | .int x :: r => match xm_sw pc df lo hi offs x with
          | some t => xe_lp sc call n y t ls r h ds
          | none => none
        | _ => none
      | _ => match xm_stp o ls st with
        | some (pc', ls', st') => xe_lp sc call n y pc' ls' st' h ds
        | none => match xm_br o st with
          | some b => (match ds with
            | [] => if xe_cd b.1 b.2.1 b.2.2.1 = true then xe_lp sc call n y b.2.2.2.1 ls b.2.2.2.2 h [] else xe_lp sc call n y (pc + 3) ls b.2.2.2.2 h []
            | e :: ds' => match xe_lp sc call n y (if e = true then b.2.2.2.1 else pc + 3) ls b.2.2.2.2 h ds' with
              | some (r2, h2, d2, c2) => some (r2, h2, d2, (b.1, b.2.1, b.2.2.1, e) :: c2)
              | none => none)
          | none => match xe_heap sc o st h with
            | some (st', h') => xe_lp sc call n y (pc + xm_len o.2.1) ls st' h' ds
            | none => if y = xi_law then (match o.2.1, st with
              | .iaload, .int i :: .float u :: r => if u = 0 then (if i < 0 then none else if i.toNatClampNeg = 1000000 then none else match sc.lookup i.toNatClampNeg with
                | some v => xe_lp sc call n y (pc + 1) ls (.int v :: r) h ds
                | none => if i.toNatClampNeg = 3 then (match sc.lookup 1000000 with
                  | some v => if v = 5 then xe_lp sc call n y (pc + 1) ls (.float 1 :: r) h ds else none
                  | none => none) else none) else none
              | .arraylength, .float u :: r => if u ≠ 0 then none else match sc.lookup 1000000 with
                | some v => xe_lp sc call n y (pc + 1) ls (.int v :: r) h ds
                | none => none
              | _, _ => none) else none
def xe_call (sc : List (Nat × Int32)) (N : Nat) : Nat → Nat → List Value → xm_H → List Bool → Option xe_R
  | 0 => fun _ _ _ _ => none
  | d + 1 => fun y as h ds => xe_lp sc (xe_call sc N d) N y 0 (xm_en as (xm_mL y)) [] h ds
