/-! THE CLAIM OUT OF ONE WALK OF THE LAW'S BODY. Your part is whole_start (and what it stands on); all else here is the same for every law, but numbers. -/
def R_law : String := "LatinLawsLaw"
def lw_P (b : Addr) (xs : List Int32) (args : Array Value) (s : State) : Prop := args = #[.ref b] ∧ s.IntsAt b xs ∧ xs.length ≤ 2560 ∧ (Jvm.Cond.and given_1 narrow_1).before args s = true
def lw_Q (_ : Array Value) (s : State) (o : Outcome) (t : State) : Prop := o = .returned (some (.int 1)) ∧ Framed s o t [] 600000 7302250
def lw_Z (below : List Frame) (a : Array Value) (s : State) : State → Prop := fun t => ∃ o, t.status = .running ∧ Ended t below o ∧ lw_Q a s o t
/-- the law's own end, with 1 on the stack, nothing written that was there before, its room as the claim has it -/
theorem lw_ret {p : Program} {l : Launch} {e : Env} {s : State} {m : MethodId} {below : List Frame} {meth : Method} {c : Code} {b : Nat} (hx : p.tables.exec = Jvm.exec) (hb : c.code = code) (hr : meth.sig.returnType = ret) (hlocks : meth.locks = false) {pc : Nat} {H : Heap} {ls : Array Slot} (hdg : decode code pc = .ok (.ireturn, 1)) : W p l e room_1 s m #[Value.ref b] below meth c H [] 600000 7302250 (lw_Z below #[Value.ref b] s) (F0 m pc ls [.int 1]) := by
  intro T hT X
  obtain ⟨fs, hret, hrun, hended, hW, hframe⟩ := X.leave (v := some (.int 1)) (hlocks := hlocks) (fun h => by rw [hr] at h; cases h)
  have hmeth' : T.vm.method? m = some meth := X.method'
  refine ⟨T.setFrames fs, ?_, .returned (some (.int 1)), hrun, hended, rfl, ⟨_, rfl⟩, hW, hframe⟩
  jvm_step X.here [X.here.top, hx, hb, hdg, hmeth', hr, ret, narrow_b1]
  (try refine ⟨rfl, ?_⟩); (try refine ⟨rfl, ?_⟩)
  first | (intro acts; rw [hret _ acts rfl rfl rfl]) | rw [hret _ _ rfl rfl rfl]
  exact Steps.refl _
/-- what holds at the law's entry: the machine, the code, the tables' words (any of lw_tbl by 'hts w (by decide +kernel)'), the script of L ints xs at the cell b, what the Statement gives of the start (any of its parts by flat_of_before) -/
def lw_At (p : Program) (s : State) (m : MethodId) (meth : Method) (c : Code) (b L : Nat) (xs : Nat → Int32) : Prop :=
  p.tables.exec = Jvm.exec ∧ c.code = code ∧ meth.sig.returnType = ret ∧ c.maxLocals = 4 ∧ s.vm.findClass R_law = some m.cls ∧ (∀ w ∈ lw_tbl, w.before #[Value.ref b] s = true) ∧ va_X b L xs s s.heap ∧ b < s.heap.size ∧ meth.locks = false ∧ (Jvm.Cond.and given_1 narrow_1).before #[Value.ref b] s = true

theorem xm_arrK {s : State} {ty : FieldType} {args : Array Value} (h : (Cond.arrayClass ty).before args s = true) : ∃ cA, ArrOfT s cA ty ∧ s.vm.findClass ("[" ++ ty.toString) = some cA := by
  obtain ⟨cA, kA, comp, hfind, hk, hkind⟩ := Cond.arrayClass_spec h
  exact ⟨cA, fun n z => ⟨fun k h => (by cases h), kA, hk, comp, hkind⟩, hfind⟩
theorem xm_knownG {s : State} {args : Array Value} (hts : ∀ w ∈ lw_tbl, w.before args s = true) (sc : Nat × (Nat → Int32)) : ∃ G : xm_G, xm_K G s ∧ G.2.2.2.2 = sc := by
  have htb : ∀ w ∈ xm_tb, w.before args s = true := fun w hw => hts w (List.mem_filter.mp hw).1
  obtain ⟨c0, i0, k0⟩ := u_known (n := 2) htb (xm_cls (ci := 0) rfl) (xm_wd htb (by decide +kernel))
  obtain ⟨c1, i1, k1⟩ := u_known (n := 8) htb (xm_cls (ci := 1) rfl) (xm_wd htb (by decide +kernel))
  obtain ⟨c2, i2, k2⟩ := u_known (n := 7) htb (xm_cls (ci := 2) rfl) (xm_wd htb (by decide +kernel))
  obtain ⟨c3, i3, k3⟩ := u_known (n := 5) htb (xm_cls (ci := 3) rfl) (xm_wd htb (by decide +kernel))
  obtain ⟨c4, i4, k4⟩ := u_known (n := 5) htb (xm_cls (ci := 4) rfl) (xm_wd htb (by decide +kernel))
  obtain ⟨c5, i5, k5⟩ := u_known (n := 7) htb (xm_cls (ci := 5) rfl) (xm_wd htb (by decide +kernel))
  obtain ⟨cI, aI, fI⟩ := xm_arrK (hts (.arrayClass .int) (by decide +kernel))
  obtain ⟨cZ, aZ, fZ⟩ := xm_arrK (hts (.arrayClass .boolean) (by decide +kernel))
  have hov : (Cond.arrayOver (.object "LatinLaws$Table")).before args s = true := hts _ (by decide +kernel)
  obtain ⟨comp, cT, kT, g1, g2, g3, g4, g5⟩ := Cond.arrayOver_spec hov
  refine ⟨((fun c => match c with
    | 0 => c0
    | 1 => c1
    | 2 => c2
    | 3 => c3
    | 4 => c4
    | _ => c5, fun c => match c with
    | 0 => i0
    | 1 => i1
    | 2 => i2
    | 3 => i3
    | 4 => i4
    | _ => i5), cI, cZ, cT, sc), ⟨⟨?_, ?_⟩, va_Nw.of rfl (hts _ (by decide +kernel)), va_Nw.of rfl (hts _ (by decide +kernel)), va_AO.of hov⟩, rfl⟩
  · intro c q hq
    match c, hq with
    | 0, hq => cases hq; exact k0
    | 1, hq => cases hq; exact k1
    | 2, hq => cases hq; exact k2
    | 3, hq => cases hq; exact k3
    | 4, hq => cases hq; exact k4
    | 5, hq => cases hq; exact k5
    | n + 6, hq => simp [xm_cl] at hq
  · intro k q hq
    match k, hq with
    | 0, hq => cases hq; exact ⟨aI, fI⟩
    | 1, hq => cases hq; exact ⟨aZ, fZ⟩
    | 2, hq => cases hq; exact ⟨fun n z => ⟨fun k h => (by cases h), kT, g3, comp, g4⟩, kT, comp, g3, g4, g1, g5⟩
    | n + 3, hq => simp at hq
abbrev xm_H0 : xm_H := ([], fun _ _ => none, fun _ _ => 0)
/-- the claim's walk out of the walk of the law's body over the pure picture -/
theorem xm_lawstart {p : Program} {e : Env} {s : State} {m : MethodId} {below : List Frame} {meth : Method} {c : Code} (l : Launch) {b L : Nat} {xs : Nat → Int32} (C0 : lw_At p s m meth c b L xs) (hX : ∀ G : xm_G, G.2.2.2.2 = (L, xs) → xm_X G l xi_law 1000 600000 7302250 0 0 0 [some (.float 0), none, none, none] [] xm_H0 (fun r _ => r = some (.int 1))) : W p l e room_1 s m #[Value.ref b] below meth c s.heap [] 0 0 (lw_Z below #[Value.ref b] s) (entryFrame m ([Value.ref b] : List Value).toArray 4) := by
  obtain ⟨hx, hb, hr, hml, hown, hts, hXs, hbl, hlk, hgv⟩ := C0
  obtain ⟨G, hK, hG⟩ := xm_knownG hts (L, xs)
  rw [lg_entry_eq]
  have hL : xm_L (s.heap.size, b, xs 3) [some (.float 0), none, none, none] ((lg_sl [Value.ref b] ++ List.replicate (4 - (lg_sl [Value.ref b]).length) Slot.unset).toArray) (xm_mL xi_law) := xm_enL (base := (s.heap.size, b, xs 3)) (as := [.float 0]) (n := 4) (fun v hv => by rw [List.mem_singleton.mp hv]; rfl) (by decide)
  refine hX G hG p e room_1 s m #[Value.ref b] below meth c s.heap [] (s.heap.size, b, xs 3) _ _ ⟨⟨hx, hb, hr, hml, hown⟩, ⟨fun w hw => hts w (List.mem_filter.mp hw).1, hK, hlk, fun h => absurd h (by decide)⟩, ⟨by decide, by decide, by decide⟩, ⟨Nat.le_refl _, fun _ => ⟨by rw [hG]; exact hXs, hbl, by rw [hG]⟩⟩⟩ (Nat.le_refl _) (Nat.le_refl _) hL ⟨rfl, fun k q hk => by simp at hk⟩ ⟨fun _ _ => rfl, fun _ h => by cases h⟩ ?_
  intro pc' lsA' H' locs' cs' zs' r h' hend hcs hzs hp hw hf
  subst hp
  obtain ⟨hdg, -⟩ := hend
  refine va_forget (fun q hq => hf.2 q hq) ?_
  refine W.widen (k := 600000) (n := 7302250) hcs hzs ?_
  exact lw_ret hx hb hr hlk hdg
