/-! CORE, first part: the methods' table read, the checks of its rows -/
abbrev xm_H : Type := List (Nat × Nat) × (Nat → Nat → Option Nat) × (Nat → Nat → Int32)
/-- class numbers, the three array classes, the script -/
abbrev xm_G : Type := va_G × ClassId × ClassId × ClassId × (Nat × (Nat → Int32))
abbrev xm_nm (y : Nat) : MethodName := (xm_at y).1
abbrev xm_by (y : Nat) : ByteArray := (xm_at y).2.1
abbrev xm_mL (y : Nat) : Nat := (xm_at y).2.2.1
abbrev xm_rt (y : Nat) : Option FieldType := (xm_at y).2.2.2.1
abbrev xm_kd (y : Nat) : Nat := (xm_at y).2.2.2.2.1
abbrev xm_np (y : Nat) : Nat := (xm_at y).2.2.2.2.2.1
abbrev xm_rw (y : Nat) : List xm_Op := (xm_at y).2.2.2.2.2.2
def xm_op (y pc : Nat) : Option xm_Op := (xm_rw y).find? (fun o => o.1 == pc)
/-- a cheap key of a word: words of other keys need not be compared -/
def xm_ck : Cond → Nat
  | .code _ _ m _ => 16 * m + 1
  | .static _ => 2
  | .classLink _ i _ => 16 * i + 3
  | .methodLink _ i _ => 16 * i + 4
  | .fieldLink _ i _ _ _ => 16 * i + 5
  | .constant _ i _ => 16 * i + 6
  | .initialized _ => 7
  | .instantiable _ n => 16 * n + 8
  | .instanceMethod _ => 9
  | .native _ => 10
  | .arrayClass _ => 11
  | .selects _ _ _ => 12
  | .privateMethod _ => 13
  | _ => 0
def xm_mem (k : Nat) (w : Cond) : List Cond → Bool
  | [] => false
  | v :: l => bif Nat.beq (xm_ck v) k then (bif decide (v = w) then true else xm_mem k w l) else xm_mem k w l
theorem xm_mem_t {k : Nat} {w : Cond} : ∀ {l : List Cond}, xm_mem k w l = true → w ∈ l
  | [], h => by cases h
  | v :: l, h => by
    unfold xm_mem at h
    cases h1 : Nat.beq (xm_ck v) k with
    | false =>
      rw [h1] at h
      exact List.mem_cons_of_mem _ (xm_mem_t h)
    | true =>
      rw [h1] at h
      cases h2 : decide (v = w) with
      | false =>
        rw [h2] at h
        exact List.mem_cons_of_mem _ (xm_mem_t h)
      | true =>
        rw [of_decide_eq_true h2]
        exact List.mem_cons_self ..
def xm_in (w : Cond) : Bool := xm_mem (xm_ck w) w lw_tbl && goodWord w
theorem xm_in_t {w : Cond} (h : xm_in w = true) : w ∈ lw_tbl ∧ goodWord w = true := by
  unfold xm_in at h
  rw [Bool.and_eq_true] at h
  exact ⟨xm_mem_t h.1, h.2⟩
def xm_len : Instr → Nat
  | .bipush _ => 2
  | .ldc _ => 2
  | .iload _ => 2
  | .aload _ => 2
  | .istore _ => 2
  | .astore _ => 2
  | .newarray _ => 2
  | .sipush _ => 3
  | .ldc_w _ => 3
  | .iinc _ _ => 3
  | .ifCond _ _ => 3
  | .if_icmp _ _ => 3
  | .goto _ => 3
  | .getfield _ => 3
  | .putfield _ => 3
  | .invokestatic _ => 3
  | .invokevirtual _ => 3
  | .invokespecial _ => 3
  | .new _ => 3
  | .anewarray _ => 3
  | .tableswitch _ _ _ _ => 0
  | _ => 1
def xm_fld (y i a b : Nat) : Bool := match xm_cl[a]? with
  | some c => decide (b < c.2.2) && xm_in (.fieldLink (xm_nm y).cls i (c.2.1 b).1 (c.2.1 b).2.1 (c.2.1 b).2.2.1)
  | none => false
def xm_fin (y a b : Nat) : Bool := match xm_cl[a]? with
  | some c => !(c.2.1 b).2.2.2 || (decide ((xm_nm y).name = "<init>") && decide ((c.2.1 b).1 = (xm_nm y).cls))
  | none => false
def xm_lnk (y : Nat) (o : xm_Op) : Bool := match o.2.1 with
  | .getfield i => xm_fld y i o.2.2.2.1 o.2.2.2.2
  | .putfield i => xm_fld y i o.2.2.2.1 o.2.2.2.2 && xm_fin y o.2.2.2.1 o.2.2.2.2
  | .new i => match xm_cl[o.2.2.2.1]? with
    | some c => xm_in (.classLink (xm_nm y).cls i c.1) && xm_in (.instantiable c.1 c.2.2) && xm_in (.initialized c.1)
    | none => false
  | .anewarray i => xm_in (.classLink (xm_nm y).cls i "LatinLaws$Table")
  | .newarray t => (decide (t = .int) && xm_in (.arrayClass .int)) || (decide (t = .boolean) && xm_in (.arrayClass .boolean))
  | .ldc i => xm_in (.constant (xm_nm y).cls i (Int32.ofNat o.2.2.2.1))
  | .ldc_w i => xm_in (.constant (xm_nm y).cls i (Int32.ofNat o.2.2.2.1))
  | .invokestatic i => match o.2.2.2.2 with
    | 0 => decide (o.2.2.2.1 < xm_N - 1) && decide (xm_kd o.2.2.2.1 = 0) && xm_in (.methodLink (xm_nm y).cls i (xm_nm o.2.2.2.1))
    | 1 => decide (o.2.2.2.1 = xi_L_isBelow) && (decide ((xm_nm y).cls = "LatinLaws$Turns" ∧ i = 74) || decide ((xm_nm y).cls = "LatinLaws$Renamings" ∧ i = 62))
    | _ => xm_in (.methodLink (xm_nm y).cls i arraycopyName) && xm_in (.native arraycopyName) && xm_in (.static arraycopyName) && xm_in (.initialized "java/lang/System")
  | .invokevirtual i => decide (o.2.2.2.1 < xm_N - 1) && decide (xm_kd o.2.2.2.1 = 1) && xm_in (.methodLink (xm_nm y).cls i (xm_nm o.2.2.2.1))
  | .invokespecial i => match o.2.2.2.2 with
    | 0 => decide (o.2.2.2.1 < xm_N - 1) && decide (xm_kd o.2.2.2.1 = 2) && xm_in (.methodLink (xm_nm y).cls i (xm_nm o.2.2.2.1))
    | _ => xm_in (.methodLink (xm_nm y).cls i objectInit) && xm_in (.instanceMethod objectInit) && xm_in (.code objectInit ⟨#[0xb1]⟩ 1 none)
  | _ => true
def xm_ochk (y : Nat) (o : xm_Op) : Bool := decide (decode (xm_by y) o.1 = .ok (o.2.1, o.2.2.1)) && (decide (xm_len o.2.1 = 0) || decide (xm_len o.2.1 = o.2.2.1)) && xm_lnk y o
def xm_mchk (y : Nat) : Bool := xm_in (.code (xm_nm y) (xm_by y) (xm_mL y) (xm_rt y)) && xm_in (.initialized (xm_nm y).cls) && decide (xm_np y ≤ 30) && decide ((xm_nm y).cls ≠ "java/lang/invoke/MethodHandle") && decide ((xm_nm y).cls ≠ "java/lang/invoke/VarHandle") && decide ((parseMethodDescriptor (xm_nm y).desc).map (fun d => d.parameters.length) = some (xm_np y)) && decide (xm_mL y ≤ 30) && match xm_kd y with
  | 0 => xm_in (.static (xm_nm y))
  | 1 => xm_in (.instanceMethod (xm_nm y)) && xm_in (.selects (xm_nm y).cls (xm_nm y) (xm_nm y))
  | _ => xm_in (.instanceMethod (xm_nm y)) && decide ((xm_nm y).name = "<init>") && decide (xm_rt y = none)
