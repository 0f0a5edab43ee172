/-! CORE, second part: the pure picture of heap and frame, and the judgement xm_X over it -/
def xm_v (base : Nat × Nat × Int32) : Value → Value
  | .ref k => .ref (base.1 + k)
  | .float u => if u = 0 then .ref base.2.1 else .int base.2.2
  | v => v
theorem xm_v_cat (base : Nat × Nat × Int32) (v : Value) : (xm_v base v).category = v.category := by
  cases v with
  | float u =>
    unfold xm_v
    by_cases h : u = 0
    · simp only [if_pos h]; rfl
    · simp only [if_neg h]; rfl
  | _ => rfl
def xm_isI (c j : Nat) : Bool := decide (xm_ty c j = .int)
def xm_fv (base : Nat × Nat × Int32) (h : xm_H) (k ci j : Nat) : Value := if xm_isI ci j = true then .int (h.2.2 k j) else va_rf ((h.2.1 k j).map (fun r => base.1 + r))
def xm_ce (G : xm_G) (base : Nat × Nat × Int32) (k : Nat) (q : Nat × Nat) (h : xm_H) (H : Heap) : Prop := match q.1 with
  | 0 => H[base.1 + k]? = some (arrV G.2.1 q.2 (fun j => .int (h.2.2 k j)))
  | 1 => H[base.1 + k]? = some (arrV G.2.2.1 q.2 (fun j => .int (h.2.2 k j)))
  | 2 => H[base.1 + k]? = some (arrV G.2.2.2.1 q.2 (fun j => va_rf ((h.2.1 k j).map (fun r => base.1 + r))))
  | ci + 3 => (∃ r : vw_C, xm_cl[ci]? = some r ∧ r.2.2 = q.2) ∧ t_OB (base.1 + k) (G.1.1 ci) q.2 (G.1.2 ci) H (xm_fv base h k ci)
def xm_W (G : xm_G) (base : Nat × Nat × Int32) (h : xm_H) (H : Heap) : Prop := H.size = base.1 + h.1.length ∧ ∀ (k : Nat) (q : Nat × Nat), h.1[k]? = some q → xm_ce G base k q h H
def xm_F (base : Nat × Nat × Int32) (s : State) (H : Heap) (locs : List Loc) : Prop := (∀ q : Nat, q < base.1 → H[q]? = s.heap[q]?) ∧ ∀ l ∈ locs, base.1 ≤ l.base
def xm_L (base : Nat × Nat × Int32) (ls : List (Option Value)) (lsA : Array Slot) (n : Nat) : Prop := lsA.size = n ∧ lv_wf lsA ∧ ls.length = n ∧ ∀ (i : Nat) (v : Value), ls[i]? = some (some v) → v.category = 1 ∧ lsA[i]? = some (.val (xm_v base v))
def xm_K (G : xm_G) (U : State) : Prop := va_K G.1 xm_cl [(G.2.1, .int), (G.2.2.1, .boolean), (G.2.2.2.1, .object "LatinLaws$Table")] U ∧ va_Nw (.methodLinkNest "LatinLaws$Turns" 74 (xm_nm xi_L_isBelow) "LatinLaws") U ∧ va_Nw (.methodLinkNest "LatinLaws$Renamings" 62 (xm_nm xi_L_isBelow) "LatinLaws") U ∧ va_AO "LatinLaws$Table" U
theorem xm_K.warm {G : xm_G} {s U : State} (hW : s.WarmedH U.vm) (h : xm_K G s) : xm_K G U := ⟨va_K.moved hW.alike h.1, va_Nw.warmM hW h.2.1, va_Nw.warmM hW h.2.2.1, va_AO.moved hW.alike h.2.2.2⟩
theorem xm_K.calling {G : xm_G} {U : State} {g : JFrame} {mk : MethodId} {a : Array Value} (h : xm_K G U) : xm_K G (U.calling g mk a) :=
  ⟨va_K.moved (u := U) (U := U.calling g mk a) (Vm.Alike.refl U.vm) h.1, va_Nw.same (u := U) (U := U.calling g mk a) rfl rfl h.2.1, va_Nw.same (u := U) (U := U.calling g mk a) rfl rfl h.2.2.1, va_AO.moved (u := U) (U := U.calling g mk a) (Vm.Alike.refl U.vm) h.2.2.2⟩
abbrev xm_tb : List Cond := lw_tbl.filter goodWord
def xm_S (G : xm_G) (y : Nat) (p : Program) (s : State) (m : MethodId) (args : Array Value) (meth : Method) (c : Code) (R : Room) (d : Nat) (base : Nat × Nat × Int32) : Prop :=
  (p.tables.exec = Jvm.exec ∧ c.code = xm_by y ∧ meth.sig.returnType = xm_rt y ∧ c.maxLocals = xm_mL y ∧ s.vm.findClass (xm_nm y).cls = some m.cls) ∧ ((∀ w ∈ xm_tb, w.before args s = true) ∧ xm_K G s ∧ meth.locks = false ∧ ((xm_nm y).name = "<init>" → meth.name = "<init>")) ∧ (d ≤ R.frames ∧ d * 60 ≤ R.locals ∧ y < xm_N) ∧ (base.1 ≤ s.heap.size ∧ (y = xi_law → va_X base.2.1 G.2.2.2.2.1 G.2.2.2.2.2 s s.heap ∧ base.2.1 < base.1 ∧ base.2.2 = G.2.2.2.2.2 3))
def xm_end (y pc : Nat) (r : Option Value) : Prop := match r with
  | none => xm_rt y = none ∧ decode (xm_by y) pc = .ok (.return_, 1)
  | some (.int v) => decode (xm_by y) pc = .ok (.ireturn, 1) ∧ ∃ ty, xm_rt y = some ty ∧ narrow ty (.int v) = .int v
  | _ => False
def xm_X (G : xm_G) (l : Launch) (y d mc ms cs zs pc : Nat) (ls : List (Option Value)) (st : List Value) (h : xm_H) (post : Option Value → xm_H → Prop) : Prop :=
  ∀ (p : Program) (e : Env) (R : Room) (s : State) (m : MethodId) (args : Array Value) (below : List Frame) (meth : Method) (c : Code) (H : Heap) (locs : List Loc) (base : Nat × Nat × Int32) (lsA : Array Slot) (Q : State → Prop),
    xm_S G y p s m args meth c R d base → mc ≤ R.cells → ms ≤ R.slots → xm_L base ls lsA (xm_mL y) → xm_W G base h H → xm_F base s H locs →
    (∀ (pc' : Nat) (lsA' : Array Slot) (H' : Heap) (locs' : List Loc) (cs' zs' : Nat) (r : Option Value) (h' : xm_H), xm_end y pc' r → cs' ≤ mc → zs' ≤ ms → post r h' → xm_W G base h' H' → xm_F base s H' locs' → W p l e R s m args below meth c H' locs' cs' zs' Q (F0 m pc' lsA' (r.toList.map (xm_v base)))) →
    W p l e R s m args below meth c H locs cs zs Q (F0 m pc lsA (st.map (xm_v base)))
theorem xm_dec {y pc : Nat} {o : xm_Op} (hy : y < xm_N) (h : xm_op y pc = some o) : o.1 = pc ∧ decode (xm_by y) pc = .ok (o.2.1, if xm_len o.2.1 = 0 then o.2.2.1 else xm_len o.2.1) ∧ xm_lnk y o = true := by
  have h1 := List.find?_some h
  have h2 := List.mem_of_find?_eq_some h
  have h3 := List.all_eq_true.mp (xm_kall y hy) o h2
  simp only [xm_ochk, Bool.and_eq_true, Bool.or_eq_true, decide_eq_true_eq] at h3
  have h4 : o.1 = pc := by simpa using h1
  refine ⟨h4, ?_, h3.2⟩
  rw [← h4, h3.1.1]
  by_cases hz : xm_len o.2.1 = 0
  · rw [if_pos hz]
  · rw [if_neg hz]
    rcases h3.1.2 with h5 | h5
    · exact absurd h5 hz
    · rw [h5]
theorem xm_wd {args : Array Value} {s : State} (hts : ∀ w ∈ xm_tb, w.before args s = true) {w : Cond} (h : xm_in w = true) : w.before args s = true := by
  have h := xm_in_t h
  exact hts w (List.mem_filter.mpr h)
/-! locals -/
def xm_pr (base : Nat × Nat × Int32) (ls : List (Option Value)) : List (Nat × Value) := (List.range ls.length).filterMap (fun i => match ls[i]? with
  | some (some v) => some (i, xm_v base v)
  | _ => none)
theorem xm_pr_in {base : Nat × Nat × Int32} {ls : List (Option Value)} {i : Nat} {w : Value} : (i, w) ∈ xm_pr base ls ↔ ∃ v, ls[i]? = some (some v) ∧ w = xm_v base v := by
  constructor
  · intro h
    obtain ⟨j, -, hj⟩ := List.mem_filterMap.mp h
    cases hl : ls[j]? with
    | none => rw [hl] at hj; cases hj
    | some o =>
      cases o with
      | none => rw [hl] at hj; cases hj
      | some v =>
        rw [hl] at hj
        cases hj
        exact ⟨v, hl, rfl⟩
  · rintro ⟨v, h, rfl⟩
    refine List.mem_filterMap.mpr ⟨i, List.mem_range.mpr ?_, by rw [h]⟩
    exact (List.getElem?_eq_some_iff.mp h).1
theorem xm_L.has {base : Nat × Nat × Int32} {ls : List (Option Value)} {lsA : Array Slot} {n : Nat} (h : xm_L base ls lsA n) : lv_has lsA n (xm_pr base ls) := by
  refine ⟨h.1, h.2.1, fun q hq => ?_⟩
  obtain ⟨i, w⟩ := q
  obtain ⟨v, h1, rfl⟩ := xm_pr_in.mp hq
  exact (h.2.2.2 i v h1).2
theorem xm_L.set {base : Nat × Nat × Int32} {ls : List (Option Value)} {lsA lsB : Array Slot} {n i : Nat} {x : Value} (h : xm_L base ls lsA n) (hc : x.category = 1) (h2 : lv_has lsB n ((i, xm_v base x) :: (xm_pr base ls).filter (fun q => !(q.1 == i) && !(q.1 + 1 == i && q.2.category == 2)))) : xm_L base (ls.set i (some x)) lsB n := by
  refine ⟨h2.1, h2.2.1, by rw [List.length_set]; exact h.2.2.1, fun j v hj => ?_⟩
  rw [List.getElem?_set] at hj
  by_cases hij : i = j
  · subst hij
    rw [if_pos rfl] at hj
    split at hj
    · cases hj
      exact ⟨hc, h2.2.2 _ List.mem_cons_self⟩
    · cases hj
  · rw [if_neg hij] at hj
    have hq := h.2.2.2 j v hj
    refine ⟨hq.1, h2.2.2 (j, xm_v base v) (List.mem_cons_of_mem _ (List.mem_filter.mpr ⟨xm_pr_in.mpr ⟨v, hj, rfl⟩, ?_⟩))⟩
    have h3 : ¬ j = i := fun q => hij q.symm
    have h4 : (xm_v base v).category = 1 := (xm_v_cat base v).trans hq.1
    simp [h3, h4]
def xm_le : List (Option Value) → List (Option Value) → Prop
  | [], [] => True
  | none :: a, _ :: b => xm_le a b
  | some v :: a, w :: b => w = some v ∧ xm_le a b
  | _, _ => False
theorem xm_le_spec : ∀ (a b : List (Option Value)), xm_le a b → a.length = b.length ∧ ∀ (i : Nat) (v : Value), a[i]? = some (some v) → b[i]? = some (some v)
  | [], [], _ => ⟨rfl, fun i v h => by simp at h⟩
  | none :: a, w :: b, h => by
    obtain ⟨h1, h2⟩ := xm_le_spec a b h
    refine ⟨by simp [h1], fun i v hi => ?_⟩
    cases i with
    | zero => simp at hi
    | succ i => simpa using h2 i v (by simpa using hi)
  | some u :: a, w :: b, h => by
    obtain ⟨h0, h1⟩ := h
    obtain ⟨h1, h2⟩ := xm_le_spec a b h1
    refine ⟨by simp [h1], fun i v hi => ?_⟩
    cases i with
    | zero => simp at hi; subst hi; simp [h0]
    | succ i => simpa using h2 i v (by simpa using hi)
  | [], _ :: _, h => h.elim
  | none :: _, [], h => h.elim
  | some _ :: _, [], h => h.elim
theorem xm_sub {G : xm_G} {l : Launch} {y d mc ms cs zs pc : Nat} {ls ls' : List (Option Value)} {st : List Value} {h : xm_H} {post : Option Value → xm_H → Prop} (hle : xm_le ls ls') (k : xm_X G l y d mc ms cs zs pc ls st h post) : xm_X G l y d mc ms cs zs pc ls' st h post := by
  obtain ⟨h1, h2⟩ := xm_le_spec _ _ hle
  intro p e R s m args below meth c H locs base lsA Q hS hmc hms hL hW hF hk
  exact k p e R s m args below meth c H locs base lsA Q hS hmc hms ⟨hL.1, hL.2.1, h1.trans hL.2.2.1, fun i v hi => hL.2.2.2 i v (h2 i v hi)⟩ hW hF hk
theorem xm_mono {G : xm_G} {l : Launch} {y d mc ms cs zs pc : Nat} {ls : List (Option Value)} {st : List Value} {h : xm_H} {post post' : Option Value → xm_H → Prop} (hp : ∀ r h', post r h' → post' r h') (k : xm_X G l y d mc ms cs zs pc ls st h post) : xm_X G l y d mc ms cs zs pc ls st h post' := by
  intro p e R s m args below meth c H locs base lsA Q hS hmc hms hL hW hF hk
  exact k p e R s m args below meth c H locs base lsA Q hS hmc hms hL hW hF (fun pc' lsA' H' locs' cs' zs' r h' a1 a2 a3 a4 => hk pc' lsA' H' locs' cs' zs' r h' a1 a2 a3 (hp r h' a4))
/-! the heap's picture under a change of one cell -/
theorem xm_ce.kept {G : xm_G} {base : Nat × Nat × Int32} {k : Nat} {q : Nat × Nat} {h h1 : xm_H} {H H1 : Heap} (hr : h1.2.1 k = h.2.1 k) (hm : h1.2.2 k = h.2.2 k) (hH : H1[base.1 + k]? = H[base.1 + k]?) (hc : xm_ce G base k q h H) : xm_ce G base k q h1 H1 := by
  obtain ⟨t, n⟩ := q
  match t, hc with
  | 0, hc => show H1[base.1 + k]? = _; rw [hH, hm]; exact hc
  | 1, hc => show H1[base.1 + k]? = _; rw [hH, hm]; exact hc
  | 2, hc => show H1[base.1 + k]? = _; rw [hH, hr]; exact hc
  | ci + 3, hc =>
    refine ⟨hc.1, ?_⟩
    have e : xm_fv base h1 k ci = xm_fv base h k ci := by
      funext j
      unfold xm_fv
      rw [hm, hr]
    rw [e]
    exact hc.2.kept hH
theorem xm_ce.lt {G : xm_G} {base : Nat × Nat × Int32} {k : Nat} {q : Nat × Nat} {h : xm_H} {H : Heap} (hc : xm_ce G base k q h H) : base.1 + k < H.size := by
  obtain ⟨t, n⟩ := q
  match t, hc with
  | 0, hc => exact (Array.getElem?_eq_some_iff.mp hc).1
  | 1, hc => exact (Array.getElem?_eq_some_iff.mp hc).1
  | 2, hc => exact (Array.getElem?_eq_some_iff.mp hc).1
  | ci + 3, hc =>
    obtain ⟨-, cell, h1, -⟩ := hc
    exact (Array.getElem?_eq_some_iff.mp h1).1
theorem xm_W.one {G : xm_G} {base : Nat × Nat × Int32} {k : Nat} {q : Nat × Nat} {h h1 : xm_H} {H H1 : Heap} (hW : xm_W G base h H) (hk : h.1[k]? = some q) (hs : h1.1 = h.1) (hr : ∀ j, j ≠ k → h1.2.1 j = h.2.1 j) (hm : ∀ j, j ≠ k → h1.2.2 j = h.2.2 j) (hz : H1.size = H.size) (oq : ∀ j : Nat, j ≠ base.1 + k → H1[j]? = H[j]?) (he : xm_ce G base k q h1 H1) : xm_W G base h1 H1 := by
  refine ⟨by rw [hz, hs]; exact hW.1, fun j r hj => ?_⟩
  rw [hs] at hj
  by_cases e : j = k
  · subst e
    rw [hk] at hj
    cases hj
    exact he
  · exact xm_ce.kept (hr j e) (hm j e) (oq _ (by omega)) (hW.2 j r hj)
theorem xm_F.one {base : Nat × Nat × Int32} {a : Nat} {s : State} {H H1 : Heap} {locs : List Loc} {i : Nat} (hF : xm_F base s H locs) (ha : base.1 ≤ a) (oq : ∀ j : Nat, j ≠ a → H1[j]? = H[j]?) : xm_F base s H1 (locs ++ [⟨a, i⟩]) := by
  refine ⟨fun q hq => (oq q (by omega)).trans (hF.1 q hq), fun l hl => ?_⟩
  rcases List.mem_append.mp hl with h | h
  · exact hF.2 l h
  · rw [List.mem_singleton.mp h]
    exact ha
/-! the pure instructions -/
def xm_bin (st : List Value) (f : Int32 → Int32 → Int32) : Option (List Value) := match st with
  | .int y :: .int x :: r => some (.int (f x y) :: r)
  | _ => none
theorem xm_bin_spec {st st' : List Value} {f : Int32 → Int32 → Int32} (h : xm_bin st f = some st') : ∃ x y r, st = .int y :: .int x :: r ∧ st' = .int (f x y) :: r := by
  unfold xm_bin at h
  split at h
  · cases h
    exact ⟨_, _, _, rfl, rfl⟩
  · cases h
def xm_ldi (ls : List (Option Value)) (i : Nat) (st : List Value) : Option (List Value) := match ls[i]? with
  | some (some (.int x)) => some (.int x :: st)
  | some (some (.float u)) => if u = 0 then none else some (.float u :: st)
  | _ => none
theorem xm_ldi_spec {ls : List (Option Value)} {i : Nat} {st st' : List Value} (h : xm_ldi ls i st = some st') : ∃ v, ls[i]? = some (some v) ∧ st' = v :: st ∧ ∀ base : Nat × Nat × Int32, ∃ x : Int32, xm_v base v = .int x := by
  unfold xm_ldi at h
  split at h
  · cases h
    rename_i x hx
    exact ⟨_, hx, rfl, fun (base : Nat × Nat × Int32) => ⟨_, rfl⟩⟩
  · rename_i x hx
    split at h
    · cases h
    · cases h
      rename_i h0
      exact ⟨_, hx, rfl, fun (base : Nat × Nat × Int32) => ⟨base.2.2, by unfold xm_v; simp only [if_neg h0]⟩⟩
  · cases h
def xm_lda (ls : List (Option Value)) (i : Nat) (st : List Value) : Option (List Value) := match ls[i]? with
  | some (some (.ref x)) => some (.ref x :: st)
  | some (some (.float u)) => if u = 0 then some (.float u :: st) else none
  | _ => none
theorem xm_lda_spec {ls : List (Option Value)} {i : Nat} {st st' : List Value} (h : xm_lda ls i st = some st') : ∃ v, ls[i]? = some (some v) ∧ st' = v :: st ∧ ∀ base : Nat × Nat × Int32, ∃ q : Nat, xm_v base v = .ref q := by
  unfold xm_lda at h
  split at h
  · cases h
    rename_i x hx
    exact ⟨_, hx, rfl, fun base => ⟨_, rfl⟩⟩
  · rename_i x hx
    split at h
    · cases h
      rename_i h0
      exact ⟨_, hx, rfl, fun base => ⟨base.2.1, by unfold xm_v; simp only [if_pos h0]⟩⟩
    · cases h
  · cases h
def xm_sti (ls : List (Option Value)) (i : Nat) (st : List Value) : Option (List (Option Value) × List Value) := match st with
  | .int x :: r => if i < ls.length then some (ls.set i (some (.int x)), r) else none
  | _ => none
theorem xm_sti_spec {ls ls' : List (Option Value)} {i : Nat} {st st' : List Value} (h : xm_sti ls i st = some (ls', st')) : ∃ x, st = .int x :: st' ∧ i < ls.length ∧ ls' = ls.set i (some (.int x)) := by
  unfold xm_sti at h
  split at h
  · split at h
    · cases h
      rename_i hi
      exact ⟨_, rfl, hi, rfl⟩
    · cases h
  · cases h
def xm_sta (ls : List (Option Value)) (i : Nat) (st : List Value) : Option (List (Option Value) × List Value) := match st with
  | .ref x :: r => if i < ls.length then some (ls.set i (some (.ref x)), r) else none
  | _ => none
theorem xm_sta_spec {ls ls' : List (Option Value)} {i : Nat} {st st' : List Value} (h : xm_sta ls i st = some (ls', st')) : ∃ x, st = .ref x :: st' ∧ i < ls.length ∧ ls' = ls.set i (some (.ref x)) := by
  unfold xm_sta at h
  split at h
  · split at h
    · cases h
      rename_i hi
      exact ⟨_, rfl, hi, rfl⟩
    · cases h
  · cases h
def xm_inc (ls : List (Option Value)) (i : Nat) (n : Int) : Option (List (Option Value)) := match ls[i]? with
  | some (some (.int x)) => some (ls.set i (some (.int (x + Int32.ofInt n))))
  | _ => none
theorem xm_inc_spec {ls ls' : List (Option Value)} {i : Nat} {n : Int} (h : xm_inc ls i n = some ls') : ∃ x, ls[i]? = some (some (.int x)) ∧ ls' = ls.set i (some (.int (x + Int32.ofInt n))) := by
  unfold xm_inc at h
  split at h
  · cases h
    rename_i x hx
    exact ⟨x, hx, rfl⟩
  · cases h
def xm_dup (st : List Value) : Option (List Value) := match st with
  | a :: r => if a.category = 1 then some (a :: a :: r) else none
  | _ => none
def xm_dup2 (st : List Value) : Option (List Value) := match st with
  | a :: b :: r => if a.category = 1 then (if b.category = 1 then some (a :: b :: a :: b :: r) else none) else none
  | _ => none
def xm_stp (o : xm_Op) (ls : List (Option Value)) (st : List Value) : Option (Nat × List (Option Value) × List Value) := match o.2.1 with
  | .iconst n => some (o.1 + 1, ls, .int (Int32.ofInt n) :: st)
  | .bipush n => some (o.1 + 2, ls, .int (Int8.ofInt n).toInt32 :: st)
  | .sipush n => some (o.1 + 3, ls, .int (Int16.ofInt n).toInt32 :: st)
  | .ldc _ => some (o.1 + 2, ls, .int (Int32.ofNat o.2.2.2.1) :: st)
  | .ldc_w _ => some (o.1 + 3, ls, .int (Int32.ofNat o.2.2.2.1) :: st)
  | .iload i => (xm_ldi ls i st).map (fun r => (o.1 + 2, ls, r))
  | .iload_n i => (xm_ldi ls i.val st).map (fun r => (o.1 + 1, ls, r))
  | .aload i => (xm_lda ls i st).map (fun r => (o.1 + 2, ls, r))
  | .aload_n i => (xm_lda ls i.val st).map (fun r => (o.1 + 1, ls, r))
  | .istore i => (xm_sti ls i st).map (fun r => (o.1 + 2, r))
  | .istore_n i => (xm_sti ls i.val st).map (fun r => (o.1 + 1, r))
  | .astore i => (xm_sta ls i st).map (fun r => (o.1 + 2, r))
  | .astore_n i => (xm_sta ls i.val st).map (fun r => (o.1 + 1, r))
  | .iinc i n => (xm_inc ls i n).map (fun r => (o.1 + 3, r, st))
  | .iadd => (xm_bin st (fun x y => x + y)).map (fun r => (o.1 + 1, ls, r))
  | .isub => (xm_bin st (fun x y => x - y)).map (fun r => (o.1 + 1, ls, r))
  | .imul => (xm_bin st (fun x y => x * y)).map (fun r => (o.1 + 1, ls, r))
  | .iand => (xm_bin st (fun x y => x &&& y)).map (fun r => (o.1 + 1, ls, r))
  | .ior => (xm_bin st (fun x y => x ||| y)).map (fun r => (o.1 + 1, ls, r))
  | .ixor => (xm_bin st (fun x y => x ^^^ y)).map (fun r => (o.1 + 1, ls, r))
  | .ishl => (xm_bin st (fun x y => x <<< (y &&& 31))).map (fun r => (o.1 + 1, ls, r))
  | .ishr => (xm_bin st (fun x y => x >>> (y &&& 31))).map (fun r => (o.1 + 1, ls, r))
  | .iushr => (xm_bin st (fun x y => (x.toUInt32 >>> (y.toUInt32 &&& Int32.toUInt32 31)).toInt32)).map (fun r => (o.1 + 1, ls, r))
  | .dup => (xm_dup st).map (fun r => (o.1 + 1, ls, r))
  | .dup2 => (xm_dup2 st).map (fun r => (o.1 + 1, ls, r))
  | .goto f => match (o.1 : Int) + f with
    | .ofNat t => some (t, ls, st)
    | _ => none
  | _ => none
theorem xm_osome {α β : Type} {o : Option α} {f : α → β} {b : β} (h : o.map f = some b) : ∃ a, o = some a ∧ f a = b := Option.map_eq_some_iff.mp h
set_option maxHeartbeats 4000000 in
theorem xm_step {G : xm_G} {l : Launch} {y d mc ms cs zs pc : Nat} {ls : List (Option Value)} {st : List Value} {h : xm_H} {post : Option Value → xm_H → Prop} {o : xm_Op} {r : Nat × List (Option Value) × List Value} (ho : xm_op y pc = some o) (hst : xm_stp o ls st = some r) (k : xm_X G l y d mc ms cs zs r.1 r.2.1 r.2.2 h post) : xm_X G l y d mc ms cs zs pc ls st h post := by
  intro p e R s m args below meth c H locs base lsA Q hS hmc hms hL hW hF hk
  obtain ⟨⟨hx, hb, hr, hml, hown⟩, ⟨hts, hK, hlk, hnm⟩, ⟨hfr, hlo, hy⟩, hbs⟩ := hS
  obtain ⟨e1, hd, hln⟩ := xm_dec hy ho
  have K : ∀ lsB, xm_L base r.2.1 lsB (xm_mL y) → W p l e R s m args below meth c H locs cs zs Q (F0 m r.1 lsB (r.2.2.map (xm_v base))) := fun lsB hLB => k p e R s m args below meth c H locs base lsB Q ⟨⟨hx, hb, hr, hml, hown⟩, ⟨hts, hK, hlk, hnm⟩, ⟨hfr, hlo, hy⟩, hbs⟩ hmc hms hLB hW hF hk
  clear k hk ho
  obtain ⟨q, ins, len, a, b⟩ := o
  dsimp only at e1 hd hln
  subst e1
  have hlt : ∀ {i : Nat}, i < ls.length → i < xm_mL y := fun {i} h => by rw [← hL.2.2.1]; exact h
  cases ins with
  | iconst n => cases hst; exact lv_iconst hx hb hd rfl (K lsA hL)
  | bipush n => cases hst; exact lv_bipush hx hb hd rfl (K lsA hL)
  | sipush n => cases hst; exact lv_sipush hx hb hd rfl (K lsA hL)
  | ldc i => cases hst; exact lv_ldc hx hb hown (xm_wd hts hln) hd (K lsA hL)
  | ldc_w i => cases hst; exact lv_ldcw hx hb hown (xm_wd hts hln) hd (K lsA hL)
  | iload i =>
    obtain ⟨z, h1, rfl⟩ := xm_osome hst
    obtain ⟨x, h2, rfl, h3⟩ := xm_ldi_spec h1
    obtain ⟨q3, h3⟩ := h3 base
    have h4 := (hL.2.2.2 _ _ h2).2
    have K9 := K lsA hL
    simp only [List.map_cons] at K9
    rw [h3] at h4 K9
    exact lv_iload hx hb hd h4 K9
  | iload_n i =>
    obtain ⟨z, h1, rfl⟩ := xm_osome hst
    obtain ⟨x, h2, rfl, h3⟩ := xm_ldi_spec h1
    obtain ⟨q3, h3⟩ := h3 base
    have h4 := (hL.2.2.2 _ _ h2).2
    have K9 := K lsA hL
    simp only [List.map_cons] at K9
    rw [h3] at h4 K9
    exact lv_iload_n hx hb hd rfl h4 K9
  | aload i =>
    obtain ⟨z, h1, rfl⟩ := xm_osome hst
    obtain ⟨x, h2, rfl, h3⟩ := xm_lda_spec h1
    obtain ⟨q3, h3⟩ := h3 base
    have h4 := (hL.2.2.2 _ _ h2).2
    have K9 := K lsA hL
    simp only [List.map_cons] at K9
    rw [h3] at h4 K9
    exact lv_aload hx hb hd h4 K9
  | aload_n i =>
    obtain ⟨z, h1, rfl⟩ := xm_osome hst
    obtain ⟨x, h2, rfl, h3⟩ := xm_lda_spec h1
    obtain ⟨q3, h3⟩ := h3 base
    have h4 := (hL.2.2.2 _ _ h2).2
    have K9 := K lsA hL
    simp only [List.map_cons] at K9
    rw [h3] at h4 K9
    exact lv_aload_n hx hb hd rfl h4 K9
  | istore i =>
    obtain ⟨⟨la, sa⟩, h1, rfl⟩ := xm_osome hst
    obtain ⟨x, rfl, h2, rfl⟩ := xm_sti_spec h1
    exact lv_istore hx hb hd hL.has (hlt h2) rfl (fun lsB hB => K lsB (hL.set rfl hB))
  | istore_n i =>
    obtain ⟨⟨la, sa⟩, h1, rfl⟩ := xm_osome hst
    obtain ⟨x, rfl, h2, rfl⟩ := xm_sti_spec h1
    exact lv_istore_n hx hb hd rfl hL.has (hlt h2) rfl (fun lsB hB => K lsB (hL.set rfl hB))
  | astore i =>
    obtain ⟨⟨la, sa⟩, h1, rfl⟩ := xm_osome hst
    obtain ⟨x, rfl, h2, rfl⟩ := xm_sta_spec h1
    exact lv_astore hx hb hd hL.has (hlt h2) rfl (fun lsB hB => K lsB (hL.set (x := .ref x) rfl hB))
  | astore_n i =>
    obtain ⟨⟨la, sa⟩, h1, rfl⟩ := xm_osome hst
    obtain ⟨x, rfl, h2, rfl⟩ := xm_sta_spec h1
    exact lv_astore_n hx hb hd rfl hL.has (hlt h2) rfl (fun lsB hB => K lsB (hL.set (x := .ref x) rfl hB))
  | iinc i n =>
    obtain ⟨la, h1, rfl⟩ := xm_osome hst
    obtain ⟨x, h2, rfl⟩ := xm_inc_spec h1
    obtain ⟨k9, hk9⟩ := List.getElem?_of_mem (xm_pr_in.mpr ⟨_, h2, rfl⟩ : (i, xm_v base (.int x)) ∈ xm_pr base ls)
    exact lv_iinc hx hb hd hL.has hk9 rfl (hlt (List.getElem?_eq_some_iff.mp h2).1) rfl (fun lsB hB => K lsB (hL.set (x := .int (x + Int32.ofInt n)) rfl hB))
  | iadd => obtain ⟨z, h1, rfl⟩ := xm_osome hst; obtain ⟨x, y2, r2, rfl, rfl⟩ := xm_bin_spec h1; exact lv_iadd hx hb hd (K lsA hL)
  | isub => obtain ⟨z, h1, rfl⟩ := xm_osome hst; obtain ⟨x, y2, r2, rfl, rfl⟩ := xm_bin_spec h1; exact lv_isub hx hb hd (K lsA hL)
  | imul => obtain ⟨z, h1, rfl⟩ := xm_osome hst; obtain ⟨x, y2, r2, rfl, rfl⟩ := xm_bin_spec h1; exact lv_imul hx hb hd (K lsA hL)
  | iand => obtain ⟨z, h1, rfl⟩ := xm_osome hst; obtain ⟨x, y2, r2, rfl, rfl⟩ := xm_bin_spec h1; exact lv_iand hx hb hd (K lsA hL)
  | ior => obtain ⟨z, h1, rfl⟩ := xm_osome hst; obtain ⟨x, y2, r2, rfl, rfl⟩ := xm_bin_spec h1; exact lv_ior hx hb hd (K lsA hL)
  | ixor => obtain ⟨z, h1, rfl⟩ := xm_osome hst; obtain ⟨x, y2, r2, rfl, rfl⟩ := xm_bin_spec h1; exact lv_ixor hx hb hd (K lsA hL)
  | ishl => obtain ⟨z, h1, rfl⟩ := xm_osome hst; obtain ⟨x, y2, r2, rfl, rfl⟩ := xm_bin_spec h1; exact lv_ishl hx hb hd (K lsA hL)
  | ishr => obtain ⟨z, h1, rfl⟩ := xm_osome hst; obtain ⟨x, y2, r2, rfl, rfl⟩ := xm_bin_spec h1; exact lv_ishr hx hb hd (K lsA hL)
  | iushr => obtain ⟨z, h1, rfl⟩ := xm_osome hst; obtain ⟨x, y2, r2, rfl, rfl⟩ := xm_bin_spec h1; exact lv_iushr hx hb hd rfl (K lsA hL)
  | dup =>
    obtain ⟨z, h1, rfl⟩ := xm_osome hst
    unfold xm_dup at h1
    split at h1
    · split at h1
      · cases h1
        rename_i hc
        exact lv_dup hx hb hd ((xm_v_cat _ _).trans hc) (K lsA hL)
      · cases h1
    · cases h1
  | dup2 =>
    obtain ⟨z, h1, rfl⟩ := xm_osome hst
    unfold xm_dup2 at h1
    split at h1
    · split at h1
      · split at h1
        · cases h1
          rename_i hc1 hc2
          exact lv_dup2_11 hx hb hd ((xm_v_cat _ _).trans hc1) ((xm_v_cat _ _).trans hc2) (K lsA hL)
        · cases h1
      · cases h1
    · cases h1
  | goto f =>
    simp only [xm_stp] at hst
    split at hst
    · cases hst
      rename_i t ht
      exact lv_goto hx hb hd ht (K lsA hL)
    · cases hst
  | _ => cases hst
/-! CORE, third part: branches, the heap's instructions -/
def xm_cd (c : ClassFile.Cond) (x y : Int32) : Prop := match c with
  | .eq => x = y
  | .ne => ¬ x = y
  | .lt => x < y
  | .ge => y ≤ x
  | .gt => y < x
  | .le => x ≤ y
def xm_br (o : xm_Op) (st : List Value) : Option (ClassFile.Cond × Int32 × Int32 × Nat × List Value) := match o.2.1 with
  | .ifCond c f => match st with
    | .int x :: r => match (o.1 : Int) + f with
      | .ofNat t => some (c, x, 0, t, r)
      | _ => none
    | _ => none
  | .if_icmp c f => match st with
    | .int y :: .int x :: r => match (o.1 : Int) + f with
      | .ofNat t => some (c, x, y, t, r)
      | _ => none
    | _ => none
  | _ => none
set_option maxHeartbeats 4000000 in
theorem xm_if {G : xm_G} {l : Launch} {y d mc ms cs zs pc : Nat} {ls : List (Option Value)} {st : List Value} {h : xm_H} {post : Option Value → xm_H → Prop} {o : xm_Op} {b : ClassFile.Cond × Int32 × Int32 × Nat × List Value} (ho : xm_op y pc = some o) (hst : xm_br o st = some b) (kt : xm_cd b.1 b.2.1 b.2.2.1 → xm_X G l y d mc ms cs zs b.2.2.2.1 ls b.2.2.2.2 h post) (kf : ¬ xm_cd b.1 b.2.1 b.2.2.1 → xm_X G l y d mc ms cs zs (pc + 3) ls b.2.2.2.2 h post) : xm_X G l y d mc ms cs zs pc ls st h post := by
  intro p e R s m args below meth c H locs base lsA Q hS hmc hms hL hW hF hk
  have KT : xm_cd b.1 b.2.1 b.2.2.1 → W p l e R s m args below meth c H locs cs zs Q (F0 m b.2.2.2.1 lsA (b.2.2.2.2.map (xm_v base))) := fun q => kt q p e R s m args below meth c H locs base lsA Q hS hmc hms hL hW hF hk
  have KF : ¬ xm_cd b.1 b.2.1 b.2.2.1 → W p l e R s m args below meth c H locs cs zs Q (F0 m (pc + 3) lsA (b.2.2.2.2.map (xm_v base))) := fun q => kf q p e R s m args below meth c H locs base lsA Q hS hmc hms hL hW hF hk
  obtain ⟨⟨hx, hb, hr, hml, hown⟩, ⟨hts, hK, hlk, hnm⟩, ⟨hfr, hlo, hy⟩, hbs⟩ := hS
  obtain ⟨e1, hd, hln⟩ := xm_dec hy ho
  clear kt kf hk ho
  obtain ⟨q, ins, len, a, b9⟩ := o
  dsimp only at e1 hd hln
  subst e1
  cases ins with
  | ifCond cnd f =>
    simp only [xm_br] at hst
    split at hst
    · split at hst
      · cases hst
        rename_i t ht
        cases cnd with
        | eq => exact lv_if_eq hx hb hd ht KT KF
        | ne => exact lv_if_ne hx hb hd ht KT (fun q => KF (fun n => n q))
        | lt => exact lv_if_lt hx hb hd ht KT KF
        | ge => exact lv_if_ge hx hb hd ht KT KF
        | gt => exact lv_if_gt hx hb hd ht KT KF
        | le => exact lv_if_le hx hb hd ht KT KF
      · cases hst
    · cases hst
  | if_icmp cnd f =>
    simp only [xm_br] at hst
    split at hst
    · split at hst
      · cases hst
        rename_i t ht
        cases cnd with
        | eq => exact lv_icmp_eq hx hb hd ht KT KF
        | ne => exact lv_icmp_ne hx hb hd ht KT (fun q => KF (fun n => n q))
        | lt => exact lv_icmp_lt hx hb hd ht KT KF
        | ge => exact lv_icmp_ge hx hb hd ht KT KF
        | gt => exact lv_icmp_gt hx hb hd ht KT KF
        | le => exact lv_icmp_le hx hb hd ht KT KF
      · cases hst
    · cases hst
  | _ => cases hst
theorem xm_idiv {G : xm_G} {l : Launch} {y d mc ms cs zs pc : Nat} {ls : List (Option Value)} {st : List Value} {h : xm_H} {post : Option Value → xm_H → Prop} {len a b : Nat} {u w : Int32} (ho : xm_op y pc = some (pc, .idiv, len, a, b)) (hz : ¬ w = 0) (k : xm_X G l y d mc ms cs zs (pc + 1) ls (.int (u / w) :: st) h post) : xm_X G l y d mc ms cs zs pc ls (.int w :: .int u :: st) h post := by
  intro p e R s m args below meth c H locs base lsA Q hS hmc hms hL hW hF hk
  have hS' := hS
  obtain ⟨⟨hx, hb, hr, hml, hown⟩, ⟨hts, hK, hlk, hnm⟩, ⟨hfr, hlo, hy⟩, hbs⟩ := hS
  obtain ⟨e1, hd, hln⟩ := xm_dec hy ho
  exact lv_idiv hx hb hd hz (k p e R s m args below meth c H locs base lsA Q hS' hmc hms hL hW hF hk)
theorem xm_irem {G : xm_G} {l : Launch} {y d mc ms cs zs pc : Nat} {ls : List (Option Value)} {st : List Value} {h : xm_H} {post : Option Value → xm_H → Prop} {len a b : Nat} {u w : Int32} (ho : xm_op y pc = some (pc, .irem, len, a, b)) (hz : ¬ w = 0) (k : xm_X G l y d mc ms cs zs (pc + 1) ls (.int (u - u / w * w) :: st) h post) : xm_X G l y d mc ms cs zs pc ls (.int w :: .int u :: st) h post := by
  intro p e R s m args below meth c H locs base lsA Q hS hmc hms hL hW hF hk
  have hS' := hS
  obtain ⟨⟨hx, hb, hr, hml, hown⟩, ⟨hts, hK, hlk, hnm⟩, ⟨hfr, hlo, hy⟩, hbs⟩ := hS
  obtain ⟨e1, hd, hln⟩ := xm_dec hy ho
  exact lv_irem hx hb hd hz (k p e R s m args below meth c H locs base lsA Q hS' hmc hms hL hW hF hk)
def xm_sw (pc : Nat) (df lo hi : Int) (offs : Array Int) (x : Int32) : Option Nat :=
  match (if x.toInt < lo ∨ hi < x.toInt then some df else offs[(x.toInt - lo).toNat]?) with
  | some f => match (pc : Int) + f with
    | .ofNat t => some t
    | _ => none
  | none => none
theorem xm_swi {G : xm_G} {l : Launch} {y d mc ms cs zs pc : Nat} {ls : List (Option Value)} {st : List Value} {h : xm_H} {post : Option Value → xm_H → Prop} {len a b : Nat} {df lo hi : Int} {offs : Array Int} {x : Int32} {t : Nat} (ho : xm_op y pc = some (pc, .tableswitch df lo hi offs, len, a, b)) (ht : xm_sw pc df lo hi offs x = some t) (k : xm_X G l y d mc ms cs zs t ls st h post) : xm_X G l y d mc ms cs zs pc ls (.int x :: st) h post := by
  intro p e R s m args below meth c H locs base lsA Q hS hmc hms hL hW hF hk
  have K := k p e R s m args below meth c H locs base lsA Q hS hmc hms hL hW hF hk
  obtain ⟨⟨hx, hb, hr, hml, hown⟩, ⟨hts, hK, hlk, hnm⟩, ⟨hfr, hlo, hy⟩, hbs⟩ := hS
  obtain ⟨e1, hd, hln⟩ := xm_dec hy ho
  unfold xm_sw at ht
  by_cases hc : x.toInt < lo ∨ hi < x.toInt
  · rw [if_pos hc] at ht
    dsimp only at ht
    split at ht
    · cases ht
      rename_i t' ht'
      exact lv_tableOut hx hb hd hc ht' K
    · cases ht
  · rw [if_neg hc] at ht
    cases ho2 : offs[(x.toInt - lo).toNat]? with
    | none => rw [ho2] at ht; cases ht
    | some f =>
      rw [ho2] at ht
      dsimp only at ht
      split at ht
      · cases ht
        rename_i t' ht'
        exact lv_tableIn hx hb hd (fun q => hc (Or.inl q)) (fun q => hc (Or.inr q)) ho2 ht' K
      · cases ht
/-! a field is read -/
theorem xm_cls {ci : Nat} {q : vw_C} (h : xm_cl[ci]? = some q) : ∀ w ∈ u_ws q.1 q.2.1 q.2.2, w ∈ xm_tb := by
  have key : ∀ {q' : vw_C}, (∀ w ∈ u_ws q'.1 q'.2.1 q'.2.2, w ∈ lw_tbl ∧ goodWord w = true) → ∀ w ∈ u_ws q'.1 q'.2.1 q'.2.2, w ∈ xm_tb := fun hq w hw => List.mem_filter.mpr (hq w hw)
  match ci, h with
  | 0, h => cases h; exact key xm_i0
  | 1, h => cases h; exact key xm_i1
  | 2, h => cases h; exact key xm_i2
  | 3, h => cases h; exact key xm_i3
  | 4, h => cases h; exact key xm_i4
  | 5, h => cases h; exact key xm_i5
  | n + 6, h => simp [xm_cl] at h
theorem xm_pty {ci : Nat} {q : vw_C} (h : xm_cl[ci]? = some q) : ∀ k, k < q.2.2 → parseFieldDescriptor (q.2.1 k).2.2.1 = some (xm_ty ci k) := by
  match ci, h with
  | 0, h => cases h; exact xm_p0
  | 1, h => cases h; exact xm_p1
  | 2, h => cases h; exact xm_p2
  | 3, h => cases h; exact xm_p3
  | 4, h => cases h; exact xm_p4
  | 5, h => cases h; exact xm_p5
  | n + 6, h => simp [xm_cl] at h
theorem xm_nne {ci : Nat} {q : vw_C} (h : xm_cl[ci]? = some q) : ∀ a, a < q.2.2 → ∀ b, b < q.2.2 → a ≠ b → (q.2.1 a).2.1 ≠ (q.2.1 b).2.1 := by
  match ci, h with
  | 0, h => cases h; exact xm_n0
  | 1, h => cases h; exact xm_n1
  | 2, h => cases h; exact xm_n2
  | 3, h => cases h; exact xm_n3
  | 4, h => cases h; exact xm_n4
  | 5, h => cases h; exact xm_n5
  | n + 6, h => simp [xm_cl] at h
theorem xm_get {G : xm_G} {l : Launch} {y d mc ms cs zs pc : Nat} {ls : List (Option Value)} {st : List Value} {h : xm_H} {post : Option Value → xm_H → Prop} {i len a b k N : Nat} {v : Value} (ho : xm_op y pc = some (pc, .getfield i, len, a, b)) (hk : h.1[k]? = some (a + 3, N)) (hv : ∀ base : Nat × Nat × Int32, xm_fv base h k a b = xm_v base v) (kk : xm_X G l y d mc ms cs zs (pc + 3) ls (v :: st) h post) : xm_X G l y d mc ms cs zs pc ls (.ref k :: st) h post := by
  intro p e R s m args below meth c H locs base lsA Q hS hmc hms hL hW hF hK9
  have K := kk p e R s m args below meth c H locs base lsA Q hS hmc hms hL hW hF hK9
  obtain ⟨⟨hx, hb, hr, hml, hown⟩, ⟨hts, hK, hlk, hnm⟩, ⟨hfr, hlo, hy⟩, hbs⟩ := hS
  obtain ⟨e1, hd, hln⟩ := xm_dec hy ho
  have hln : xm_fld y i a b = true := hln
  obtain ⟨⟨q, hq1, hq2⟩, hob⟩ : (∃ r : vw_C, xm_cl[a]? = some r ∧ r.2.2 = N) ∧ t_OB (base.1 + k) (G.1.1 a) N (G.1.2 a) H (xm_fv base h k a) := hW.2 k _ hk
  unfold xm_fld at hln
  rw [hq1] at hln
  simp only [Bool.and_eq_true, decide_eq_true_eq] at hln
  obtain ⟨hbN, hlink⟩ := hln
  subst hq2
  have hP : va_P G.1 xm_cl [(base.1 + k, .inr (a, (List.range q.2.2).map (xm_fv base h k a)))] H := by
    intro j x hj
    match j, hj with
    | 0, hj =>
      cases hj
      refine ⟨q, hq1, hob.to (fun j hj => ?_)⟩
      simp [vp_V, hj]
    | n + 1, hj => simp at hj
  refine va_get (D := G.1) (ws := [(base.1 + k, .inr (a, (List.range q.2.2).map (xm_fv base h k a)))]) (C := q.1) (T := q.2.1) (N := q.2.2) (v := xm_v base v) hx hb hts (xm_cls hq1) hown hK.1 hP 0 rfl hq1 b hbN (xm_wd hts hlink) (fun _ h9 => h9) ?_ hd K
  rw [← hv base]
  simp [hbN]
theorem xm_getI {G : xm_G} {l : Launch} {y d mc ms cs zs pc : Nat} {ls : List (Option Value)} {st : List Value} {h : xm_H} {post : Option Value → xm_H → Prop} {i len a b k N : Nat} (ho : xm_op y pc = some (pc, .getfield i, len, a, b)) (hk : h.1[k]? = some (a + 3, N)) (hI : xm_isI a b = true) (kk : xm_X G l y d mc ms cs zs (pc + 3) ls (.int (h.2.2 k b) :: st) h post) : xm_X G l y d mc ms cs zs pc ls (.ref k :: st) h post :=
  xm_get ho hk (fun (base : Nat × Nat × Int32) => by unfold xm_fv; rw [if_pos hI]; rfl) kk
theorem xm_getR {G : xm_G} {l : Launch} {y d mc ms cs zs pc : Nat} {ls : List (Option Value)} {st : List Value} {h : xm_H} {post : Option Value → xm_H → Prop} {i len a b k N r : Nat} (ho : xm_op y pc = some (pc, .getfield i, len, a, b)) (hk : h.1[k]? = some (a + 3, N)) (hI : xm_isI a b = false) (hr : h.2.1 k b = some r) (kk : xm_X G l y d mc ms cs zs (pc + 3) ls (.ref r :: st) h post) : xm_X G l y d mc ms cs zs pc ls (.ref k :: st) h post :=
  xm_get ho hk (fun (base : Nat × Nat × Int32) => by unfold xm_fv; rw [if_neg (by rw [hI]; decide), hr]; rfl) kk
/-! CORE, fourth part: fields and arrays are written, cells are made -/
theorem xm_put {G : xm_G} {l : Launch} {y d mc ms cs zs pc : Nat} {ls : List (Option Value)} {st : List Value} {h h1 : xm_H} {post : Option Value → xm_H → Prop} {i len a b k N : Nat} {v : Value} (ho : xm_op y pc = some (pc, .putfield i, len, a, b)) (hk : h.1[k]? = some (a + 3, N)) (hs : h1.1 = h.1) (hr1 : ∀ j, j ≠ k → h1.2.1 j = h.2.1 j) (hm1 : ∀ j, j ≠ k → h1.2.2 j = h.2.2 j) (hv : ∀ (base : Nat × Nat × Int32) (j : Nat), xm_fv base h1 k a j = if j = b then xm_v base v else xm_fv base h k a j) (hn : ∀ base : Nat × Nat × Int32, narrow (xm_ty a b) (xm_v base v) = xm_v base v ∧ fits (xm_ty a b) (xm_v base v) = true) (kk : xm_X G l y d mc ms cs zs (pc + 3) ls st h1 post) : xm_X G l y d mc ms cs zs pc ls (v :: .ref k :: st) h post := by
  intro p e R s m args below meth c H locs base lsA Q hS hmc hms hL hW hF hK9
  have hS' := hS
  obtain ⟨⟨hx, hb, hr, hml, hown⟩, ⟨hts, hK, hlk, hnm⟩, ⟨hfr, hlo, hy⟩, hbs⟩ := hS
  obtain ⟨e1, hd, hln⟩ := xm_dec hy ho
  have hln : (xm_fld y i a b && xm_fin y a b) = true := hln
  obtain ⟨⟨q, hq1, hq2⟩, hob⟩ : (∃ r : vw_C, xm_cl[a]? = some r ∧ r.2.2 = N) ∧ t_OB (base.1 + k) (G.1.1 a) N (G.1.2 a) H (xm_fv base h k a) := hW.2 k _ hk
  unfold xm_fld xm_fin at hln
  rw [hq1] at hln
  simp only [Bool.and_eq_true, decide_eq_true_eq] at hln
  obtain ⟨⟨hbN, hlink⟩, hfin⟩ := hln
  subst hq2
  have hin := xm_cls hq1
  have hap := va_apart (own := (xm_nm y).cls) hts hin (xm_ty a) (xm_pty hq1) (xm_nne hq1) hK.1 hq1
  obtain ⟨cell, q1, q2, q3, q4⟩ := hob
  obtain ⟨hSl, hfc, kC, hkC, hkind⟩ := hK.1.1 a _ hq1
  obtain ⟨cf, kf, fi, f, hi, hsl⟩ := hSl b hbN
  have hlay := hts _ (hin _ (u_in_lay hbN))
  unfold u_lay at hlay
  have hst := (u_facts hfc hkC (u_lays hts hin hbN) hi).1
  have hpt := xm_pty hq1 b hbN
  have fin : ∀ H' : Heap, H'[base.1 + k]? = some (cell.setSlot f.slot (xm_v base v)) → H'.size = H.size → (∀ j, j ≠ base.1 + k → H'[j]? = H[j]?) → W p l e R s m args below meth c H' (locs ++ [⟨base.1 + k, f.slot⟩]) cs zs Q (F0 m (pc + 3) lsA (st.map (xm_v base))) := by
    intro H' g1 g2 g3
    refine kk p e R s m args below meth c H' _ base lsA Q hS' hmc hms hL (hW.one hk hs hr1 hm1 g2 g3 ?_) (hF.one (by omega) g3) hK9
    refine ⟨⟨q, hq1, rfl⟩, ?_⟩
    rw [hsl] at g1
    refine t_OB.to (V := updV (xm_fv base h k a) b (xm_v base v)) ⟨_, g1, q2, q3, t_set q4 hap hbN (xm_v base v)⟩ (fun j _ => ?_)
    rw [hv base j]
    rfl
  cases hfb : (q.2.1 b).2.2.2 with
  | false =>
    rw [if_neg (by rw [hfb]; decide)] at hlay
    have h6 := u_store hfc hkC hkind hlay hi hpt (hn base).1 (hn base).2
    exact W.putK hx hb (f := f) ⟨hown, xm_wd hts hlink, ⟨_, _, _, hi⟩, hst⟩ (by rw [q2]; exact h6) q1 q3 (by rw [hsl]; exact k2_hasslot (q4 b hbN)) rfl rfl hd fin
  | true =>
    rw [if_pos hfb] at hlay
    rw [hfb] at hfin
    simp only [Bool.not_true, Bool.false_or, Bool.and_eq_true, decide_eq_true_eq] at hfin
    have hcf : m.cls = cf := by
      obtain ⟨_, _, c', _, _, _, -, -, hf', -, -, -, hown2, -⟩ := Cond.laysFinal_spec hlay
      have e1 : c' = cf := by have := hi.symm.trans hf'; simp at this; exact this.1.symm
      rw [hfin.2] at hown2
      rw [← e1]; exact Option.some.inj (hown.symm.trans hown2)
    have h6 := u_fits hfc hkC hkind (Or.inr hlay) hi hpt (hn base).1 (hn base).2
    exact W.putFinK hx hb hown (xm_wd hts hlink) hi hst hcf (hnm hfin.1) (by rw [q2]; exact h6) q1 q3 (by rw [hsl]; exact k2_hasslot (q4 b hbN)) rfl rfl hd fin
abbrev xm_sm (h : xm_H) (k j : Nat) (x : Int32) : xm_H := (h.1, h.2.1, va_up h.2.2 k (upd (h.2.2 k) j x))
abbrev xm_sr (h : xm_H) (k j : Nat) (r : Option Nat) : xm_H := (h.1, va_up h.2.1 k (va_up (h.2.1 k) j r), h.2.2)
theorem xm_putI {G : xm_G} {l : Launch} {y d mc ms cs zs pc : Nat} {ls : List (Option Value)} {st : List Value} {h : xm_H} {post : Option Value → xm_H → Prop} {i len a b k N : Nat} {x : Int32} (ho : xm_op y pc = some (pc, .putfield i, len, a, b)) (hk : h.1[k]? = some (a + 3, N)) (hI : xm_isI a b = true) (kk : xm_X G l y d mc ms cs zs (pc + 3) ls st (xm_sm h k b x) post) : xm_X G l y d mc ms cs zs pc ls (.int x :: .ref k :: st) h post := by
  have hty : xm_ty a b = .int := by simpa [xm_isI] using hI
  refine xm_put (h1 := xm_sm h k b x) ho hk rfl (fun _ _ => rfl) (fun j hj => ?_) (fun (base : Nat × Nat × Int32) (j : Nat) => ?_) (fun (base : Nat × Nat × Int32) => ?_) kk
  · simp [va_up, hj]
  · unfold xm_fv
    by_cases hj : j = b
    · subst hj
      rw [if_pos hI, if_pos rfl]
      simp [va_up, upd, xm_v]
    · rw [if_neg hj]
      simp [va_up, upd, hj]
  · rw [hty]
    exact ⟨rfl, rfl⟩
theorem xm_putR {G : xm_G} {l : Launch} {y d mc ms cs zs pc : Nat} {ls : List (Option Value)} {st : List Value} {h : xm_H} {post : Option Value → xm_H → Prop} {i len a b k N r : Nat} (ho : xm_op y pc = some (pc, .putfield i, len, a, b)) (hk : h.1[k]? = some (a + 3, N)) (hI : xm_isI a b = false) (hn : ∀ q : Nat, narrow (xm_ty a b) (.ref q) = .ref q ∧ fits (xm_ty a b) (.ref q) = true) (kk : xm_X G l y d mc ms cs zs (pc + 3) ls st (xm_sr h k b (some r)) post) : xm_X G l y d mc ms cs zs pc ls (.ref r :: .ref k :: st) h post := by
  refine xm_put (h1 := xm_sr h k b (some r)) ho hk rfl (fun j hj => ?_) (fun _ _ => rfl) (fun (base : Nat × Nat × Int32) (j : Nat) => ?_) (fun (base : Nat × Nat × Int32) => hn _) kk
  · simp [va_up, hj]
  · unfold xm_fv
    by_cases hj : j = b
    · subst hj
      rw [if_neg (by rw [hI]; decide), if_pos rfl]
      simp [va_up, xm_v, va_rf]
    · rw [if_neg hj]
      simp [va_up, hj]
theorem xm_obj {G : xm_G} {base : Nat × Nat × Int32} {k ci N : Nat} {h : xm_H} {H : Heap} (hq : xm_ce G base k (ci + 3, N) h H) : (∃ r : vw_C, xm_cl[ci]? = some r ∧ r.2.2 = N) ∧ t_OB (base.1 + k) (G.1.1 ci) N (G.1.2 ci) H (xm_fv base h k ci) := hq
/-! arrays -/
theorem xm_tI {G : xm_G} {s : State} (hK : xm_K G s) : ArrOfT s G.2.1 .int := (hK.1.2 0 (G.2.1, .int) rfl).1
theorem xm_tZ {G : xm_G} {s : State} (hK : xm_K G s) : ArrOfT s G.2.2.1 .boolean := (hK.1.2 1 (G.2.2.1, .boolean) rfl).1
theorem xm_iald {G : xm_G} {l : Launch} {y d mc ms cs zs pc : Nat} {ls : List (Option Value)} {st : List Value} {h : xm_H} {post : Option Value → xm_H → Prop} {len a b k N : Nat} {i : Int32} (ho : xm_op y pc = some (pc, .iaload, len, a, b)) (hk : h.1[k]? = some (0, N)) (hi : vp_in i N) (kk : xm_X G l y d mc ms cs zs (pc + 1) ls (.int (h.2.2 k i.toNatClampNeg) :: st) h post) : xm_X G l y d mc ms cs zs pc ls (.int i :: .ref k :: st) h post := by
  intro p e R s m args below meth c H locs base lsA Q hS hmc hms hL hW hF hK9
  have K := kk p e R s m args below meth c H locs base lsA Q hS hmc hms hL hW hF hK9
  obtain ⟨⟨hx, hb, hr, hml, hown⟩, ⟨hts, hK, hlk, hnm⟩, ⟨hfr, hlo, hy⟩, hbs⟩ := hS
  obtain ⟨e1, hd, hln⟩ := xm_dec hy ho
  have hc : H[base.1 + k]? = some (arrV G.2.1 N (fun j => .int (h.2.2 k j))) := hW.2 k _ hk
  have hlt : i.toNatClampNeg < N := Nat.not_le.mp fun q => hi (Or.inr q)
  exact W.iald (v := .int (h.2.2 k i.toNatClampNeg)) hx hb hc (xm_tI hK N _) (fun q => by cases q) (by rw [arrV_size]; exact hi) (by rw [arrV_read _ _ hlt]) rfl rfl hd K
theorem xm_zald {G : xm_G} {l : Launch} {y d mc ms cs zs pc : Nat} {ls : List (Option Value)} {st : List Value} {h : xm_H} {post : Option Value → xm_H → Prop} {len a b k N : Nat} {i : Int32} (ho : xm_op y pc = some (pc, .baload, len, a, b)) (hk : h.1[k]? = some (1, N)) (hi : vp_in i N) (kk : xm_X G l y d mc ms cs zs (pc + 1) ls (.int (h.2.2 k i.toNatClampNeg) :: st) h post) : xm_X G l y d mc ms cs zs pc ls (.int i :: .ref k :: st) h post := by
  intro p e R s m args below meth c H locs base lsA Q hS hmc hms hL hW hF hK9
  have K := kk p e R s m args below meth c H locs base lsA Q hS hmc hms hL hW hF hK9
  obtain ⟨⟨hx, hb, hr, hml, hown⟩, ⟨hts, hK, hlk, hnm⟩, ⟨hfr, hlo, hy⟩, hbs⟩ := hS
  obtain ⟨e1, hd, hln⟩ := xm_dec hy ho
  have hc : H[base.1 + k]? = some (arrV G.2.2.1 N (fun j => .int (h.2.2 k j))) := hW.2 k _ hk
  have hlt : i.toNatClampNeg < N := Nat.not_le.mp fun q => hi (Or.inr q)
  exact W.zald (v := .int (h.2.2 k i.toNatClampNeg)) hx hb hc (xm_tZ hK N _) (fun q => by cases q) (by rw [arrV_size]; exact hi) (by rw [arrV_read _ _ hlt]) rfl rfl hd K
theorem xm_aald {G : xm_G} {l : Launch} {y d mc ms cs zs pc : Nat} {ls : List (Option Value)} {st : List Value} {h : xm_H} {post : Option Value → xm_H → Prop} {len a b k N r : Nat} {i : Int32} (ho : xm_op y pc = some (pc, .aaload, len, a, b)) (hk : h.1[k]? = some (2, N)) (hi : vp_in i N) (hr9 : h.2.1 k i.toNatClampNeg = some r) (kk : xm_X G l y d mc ms cs zs (pc + 1) ls (.ref r :: st) h post) : xm_X G l y d mc ms cs zs pc ls (.int i :: .ref k :: st) h post := by
  intro p e R s m args below meth c H locs base lsA Q hS hmc hms hL hW hF hK9
  have K := kk p e R s m args below meth c H locs base lsA Q hS hmc hms hL hW hF hK9
  obtain ⟨⟨hx, hb, hr, hml, hown⟩, ⟨hts, hK, hlk, hnm⟩, ⟨hfr, hlo, hy⟩, hbs⟩ := hS
  obtain ⟨e1, hd, hln⟩ := xm_dec hy ho
  have hc : H[base.1 + k]? = some (arrV G.2.2.2.1 N (fun j => va_rf ((h.2.1 k j).map (fun r => base.1 + r)))) := hW.2 k _ hk
  have hlt : i.toNatClampNeg < N := Nat.not_le.mp fun q => hi (Or.inr q)
  exact W.aald (v := .ref (base.1 + r)) (ty := .object "LatinLaws$Table") hx hb hc ((hK.1.2 2 (G.2.2.2.1, .object "LatinLaws$Table") rfl).1 N _) rfl (fun q => by cases q) (by rw [arrV_size]; exact hi) (by rw [arrV_read _ _ hlt, hr9]; rfl) rfl rfl hd K
theorem xm_alen {G : xm_G} {l : Launch} {y d mc ms cs zs pc : Nat} {ls : List (Option Value)} {st : List Value} {h : xm_H} {post : Option Value → xm_H → Prop} {len a b k N : Nat} (ho : xm_op y pc = some (pc, .arraylength, len, a, b)) (hk : h.1[k]? = some (0, N)) (kk : xm_X G l y d mc ms cs zs (pc + 1) ls (.int (Int32.ofNat N) :: st) h post) : xm_X G l y d mc ms cs zs pc ls (.ref k :: st) h post := by
  intro p e R s m args below meth c H locs base lsA Q hS hmc hms hL hW hF hK9
  have K := kk p e R s m args below meth c H locs base lsA Q hS hmc hms hL hW hF hK9
  obtain ⟨⟨hx, hb, hr, hml, hown⟩, ⟨hts, hK, hlk, hnm⟩, ⟨hfr, hlo, hy⟩, hbs⟩ := hS
  obtain ⟨e1, hd, hln⟩ := xm_dec hy ho
  have hc : H[base.1 + k]? = some (arrV G.2.1 N (fun j => .int (h.2.2 k j))) := hW.2 k _ hk
  exact W.alen (n := Int32.ofNat N) hx hb hc (xm_tI hK N _) (by rw [arrV_size] <;> rfl) rfl rfl hd K
theorem xm_iast {G : xm_G} {l : Launch} {y d mc ms cs zs pc : Nat} {ls : List (Option Value)} {st : List Value} {h : xm_H} {post : Option Value → xm_H → Prop} {len a b k N : Nat} {i x : Int32} (ho : xm_op y pc = some (pc, .iastore, len, a, b)) (hk : h.1[k]? = some (0, N)) (hi : vp_in i N) (kk : xm_X G l y d mc ms cs zs (pc + 1) ls st (xm_sm h k i.toNatClampNeg x) post) : xm_X G l y d mc ms cs zs pc ls (.int x :: .int i :: .ref k :: st) h post := by
  intro p e R s m args below meth c H locs base lsA Q hS hmc hms hL hW hF hK9
  have hS' := hS
  obtain ⟨⟨hx, hb, hr, hml, hown⟩, ⟨hts, hK, hlk, hnm⟩, ⟨hfr, hlo, hy⟩, hbs⟩ := hS
  obtain ⟨e1, hd, hln⟩ := xm_dec hy ho
  have hc : H[base.1 + k]? = some (arrV G.2.1 N (fun j => .int (h.2.2 k j))) := hW.2 k _ hk
  refine W.iast hx hb hc (xm_tI hK N _) (fun q => by cases q) (by rw [arrV_size]; exact hi) rfl rfl hd fun H1 g1 g2 g3 => ?_
  refine kk p e R s m args below meth c H1 _ base lsA Q hS' hmc hms hL (hW.one hk rfl (fun _ _ => rfl) (fun j hj => by simp [va_up, hj]) g2 g3 ?_) (hF.one (by omega) g3) hK9
  show H1[base.1 + k]? = some (arrV G.2.1 N _)
  rw [g1, arrV_store]
  congr 2
  funext q
  by_cases hq : q = i.toNatClampNeg
  · subst hq
    simp [updV, upd, va_up]
  · simp [updV, upd, va_up, hq]
theorem xm_zast {G : xm_G} {l : Launch} {y d mc ms cs zs pc : Nat} {ls : List (Option Value)} {st : List Value} {h : xm_H} {post : Option Value → xm_H → Prop} {len a b k N : Nat} {i x : Int32} (ho : xm_op y pc = some (pc, .bastore, len, a, b)) (hk : h.1[k]? = some (1, N)) (hi : vp_in i N) (kk : xm_X G l y d mc ms cs zs (pc + 1) ls st (xm_sm h k i.toNatClampNeg (vp_nar .boolean x)) post) : xm_X G l y d mc ms cs zs pc ls (.int x :: .int i :: .ref k :: st) h post := by
  intro p e R s m args below meth c H locs base lsA Q hS hmc hms hL hW hF hK9
  have hS' := hS
  obtain ⟨⟨hx, hb, hr, hml, hown⟩, ⟨hts, hK, hlk, hnm⟩, ⟨hfr, hlo, hy⟩, hbs⟩ := hS
  obtain ⟨e1, hd, hln⟩ := xm_dec hy ho
  have hc : H[base.1 + k]? = some (arrV G.2.2.1 N (fun j => .int (h.2.2 k j))) := hW.2 k _ hk
  refine W.zast hx hb hc (xm_tZ hK N _) (fun q => by cases q) (by rw [arrV_size]; exact hi) rfl rfl hd fun H1 g1 g2 g3 => ?_
  refine kk p e R s m args below meth c H1 _ base lsA Q hS' hmc hms hL (hW.one hk rfl (fun _ _ => rfl) (fun j hj => by simp [va_up, hj]) g2 g3 ?_) (hF.one (by omega) g3) hK9
  show H1[base.1 + k]? = some (arrV G.2.2.1 N _)
  rw [g1, arrV_store]
  congr 2
  funext q
  by_cases hq : q = i.toNatClampNeg
  · subst hq
    simp [updV, upd, va_up, vp_nar]
    try rfl
  · simp [updV, upd, va_up, hq]
theorem xm_aast {G : xm_G} {l : Launch} {y d mc ms cs zs pc : Nat} {ls : List (Option Value)} {st : List Value} {h : xm_H} {post : Option Value → xm_H → Prop} {len a b k N N2 r : Nat} {i : Int32} (ho : xm_op y pc = some (pc, .aastore, len, a, b)) (hk : h.1[k]? = some (2, N)) (hkr : h.1[r]? = some (3, N2)) (hi : vp_in i N) (kk : xm_X G l y d mc ms cs zs (pc + 1) ls st (xm_sr h k i.toNatClampNeg (some r)) post) : xm_X G l y d mc ms cs zs pc ls (.ref r :: .int i :: .ref k :: st) h post := by
  intro p e R s m args below meth c H locs base lsA Q hS hmc hms hL hW hF hK9
  have hS' := hS
  obtain ⟨⟨hx, hb, hr, hml, hown⟩, ⟨hts, hK, hlk, hnm⟩, ⟨hfr, hlo, hy⟩, hbs⟩ := hS
  obtain ⟨e1, hd, hln⟩ := xm_dec hy ho
  have hc : H[base.1 + k]? = some (arrV G.2.2.2.1 N (fun j => va_rf ((h.2.1 k j).map (fun r => base.1 + r)))) := hW.2 k _ hk
  have hlt : i.toNatClampNeg < N := Nat.not_le.mp fun q => hi (Or.inr q)
  have h0 : ¬ i < 0 := fun q => hi (Or.inl q)
  have hq0 : xm_ce G base r (0 + 3, N2) h H := hW.2 r (3, N2) hkr
  obtain ⟨-, cellV, g1, g2, g3, -⟩ : (∃ r : vw_C, xm_cl[0]? = some r ∧ r.2.2 = N2) ∧ t_OB (base.1 + r) (G.1.1 0) N2 (G.1.2 0) H (xm_fv base h r 0) := xm_obj hq0
  have hcls := (hK.1.1 0 ("LatinLaws$Table", xm_T0, 2) rfl).2
  obtain ⟨kA, comp, k1, k2, k3, -⟩ := (hK.1.2 2 (G.2.2.2.1, .object "LatinLaws$Table") rfl).2
  have hcomp : comp = G.1.1 0 := Option.some.inj (k3.symm.trans hcls.1)
  subst hcomp
  obtain ⟨kC, hkC, -⟩ := hcls.2
  refine W.aast hx hb hc (fun q h => by cases h) (fun h => by cases h) k1 k2 rfl hkC ⟨h0, by rw [arrV_size]; exact hlt⟩ g1 (fun q h => by rw [g3] at h; cases h) (by rw [g2]; exact hkC) (by rw [g2]; exact va_assign hcls) rfl rfl hd fun H1 e1 e2 e3 => ?_
  refine kk p e R s m args below meth c H1 _ base lsA Q hS' hmc hms hL (hW.one hk rfl (fun j hj => by simp [va_up, hj]) (fun _ _ => rfl) e2 e3 ?_) (hF.one (by omega) e3) hK9
  show H1[base.1 + k]? = some (arrV G.2.2.2.1 N _)
  rw [e1, arrV_store]
  congr 2
  funext q
  by_cases hq : q = i.toNatClampNeg
  · subst hq
    simp [updV, va_up, va_rf]
  · simp [updV, va_up, hq]
/-! CORE, fifth part: contracts, calls, ends, new cells, the copy of arrays -/
def xm_Q (G : xm_G) (base : Nat × Nat × Int32) (post : Option Value → xm_H → Prop) : Array Value → State → Outcome → State → Prop := fun _ st oc t => ∃ (r : Option Value) (h' : xm_H), oc = .returned (r.map (xm_v base)) ∧ post r h' ∧ xm_W G base h' t.heap ∧ ∀ q : Nat, q < base.1 → t.heap[q]? = st.heap[q]?
def xm_ws (y : Nat) : List Cond := .code (xm_nm y) (xm_by y) (xm_mL y) (xm_rt y) :: xm_tb
def xm_rm (d mc ms : Nat) : Room := { frames := d, cells := mc, slots := ms, locals := d * 60 }
def xm_Pc (G : xm_G) (base : Nat × Nat × Int32) (as : List Value) (h : xm_H) : Array Value → State → Prop := va_Pc (as.map (xm_v base)) (fun U => xm_W G base h U.heap ∧ xm_K G U)
def xm_C (G : xm_G) (l : Launch) (y d mc ms : Nat) (as : List Value) (h : xm_H) (post : Option Value → xm_H → Prop) : Prop :=
  ∀ base : Nat × Nat × Int32, Met l (xm_nm y) (xm_ws y) (xm_rm d mc ms) (xm_Pc G base as h) (xm_Q G base post) mc ms (fun q => base.1 ≤ q)
theorem xm_go {p : Program} {l : Launch} {e : Env} {R : Room} {s : State} {m : MethodId} {args : Array Value} {below : List Frame} {meth : Method} {c : Code} {H : Heap} {locs : List Loc} {cells slots mc ms pc : Nat} {base : Nat × Nat × Int32} {Q : State → Prop} {ls : Array Slot} {st0 rest : List Value} {a : Array Value} {G : xm_G} {post : Option Value → xm_H → Prop}
    (hr : va_Run p l e R s m args below meth c H locs cells slots mc ms (F0 m pc ls st0) rest (xm_Q G base post a) (fun q => base.1 ≤ q)) (hF : xm_F base s H locs)
    (kk : ∀ (r : Option Value) (h' : xm_H) (H1 : Heap) (locs1 : List Loc), post r h' → xm_W G base h' H1 → xm_F base s H1 locs1 → W p l e R s m args below meth c H1 locs1 (cells + mc) (slots + ms) Q (F0 m (pc + 3) ls ((r.map (xm_v base)).toList ++ rest))) : W p l e R s m args below meth c H locs cells slots Q (F0 m pc ls st0) := by
  intro T hT X
  obtain ⟨v, st₀, t, T', L, h0, X', hL, e1, e2, ⟨r, h', hv, hp, hw, hq⟩, st⟩ := hr T hT X
  cases hv
  rw [h0] at hq
  obtain ⟨t2, a1, b1⟩ := kk r h' T'.heap (locs ++ L) hp (by rw [e1]; exact hw) ⟨fun q hb => by rw [e1, hq q hb]; exact hF.1 q hb, fun q hq' => by
    rcases List.mem_append.mp hq' with h | h
    · exact hF.2 q h
    · exact hL q h⟩ T' rfl X'
  exact ⟨t2, st t2 a1, b1⟩
theorem xm_good {y : Nat} (hc : xm_in (.code (xm_nm y) (xm_by y) (xm_mL y) (xm_rt y)) = true) : GoodIn xm_tb (xm_ws y) := by
  intro w hw
  rcases List.mem_cons.mp hw with h | h
  · subst h
    have hc := xm_in_t hc
    exact ⟨List.mem_filter.mpr hc, good_of_word hc.2⟩
  · exact ⟨h, good_of_word (List.mem_filter.mp h).2⟩
theorem xm_blind {G : xm_G} {base : Nat × Nat × Int32} {as : List Value} {h : xm_H} : FrameBlind (xm_Pc G base as h) := fun a U g mk q => ⟨q.1, q.2.1, xm_K.calling q.2.2⟩
theorem xm_sum {base : Nat × Nat × Int32} {rest : List Value} (h : (rest.map fun v => v.category).sum ≤ 8) : ((rest.map (xm_v base)).map fun v => v.category).sum ≤ 8 := by
  have e : ((rest.map (xm_v base)).map fun v => v.category) = rest.map fun v => v.category := by
    rw [List.map_map]
    exact List.map_congr_left (fun v _ => xm_v_cat base v)
  rw [e]
  exact h
theorem xm_mfacts {y : Nat} (hy : y < xm_N - 1) : xm_in (.code (xm_nm y) (xm_by y) (xm_mL y) (xm_rt y)) = true ∧ xm_in (.initialized (xm_nm y).cls) = true ∧ xm_np y ≤ 30 ∧ ((xm_nm y).cls ≠ "java/lang/invoke/MethodHandle" ∧ (xm_nm y).cls ≠ "java/lang/invoke/VarHandle" ∧ (parseMethodDescriptor (xm_nm y).desc).map (fun d => d.parameters.length) = some (xm_np y)) ∧ xm_mL y ≤ 30 ∧ (match xm_kd y with
  | 0 => xm_in (.static (xm_nm y))
  | 1 => xm_in (.instanceMethod (xm_nm y)) && xm_in (.selects (xm_nm y).cls (xm_nm y) (xm_nm y))
  | _ => xm_in (.instanceMethod (xm_nm y)) && decide ((xm_nm y).name = "<init>") && decide (xm_rt y = none)) = true := by
  have h := xm_mall y hy
  unfold xm_mchk at h
  simp only [Bool.and_eq_true, decide_eq_true_eq] at h
  obtain ⟨⟨⟨⟨⟨⟨⟨h1, h2⟩, h3⟩, h4⟩, h5⟩, h6⟩, h7⟩, h8⟩ := h
  exact ⟨h1, h2, h3, ⟨h4, h5, h6⟩, h7, h8⟩
/-- a static method is called -/
theorem xm_callS {G : xm_G} {l : Launch} {y d mc ms cs zs pc : Nat} {ls : List (Option Value)} {h : xm_H} {post post' : Option Value → xm_H → Prop} {i len a d' mc' ms' : Nat} {As rest : List Value} (ho : xm_op y pc = some (pc, .invokestatic i, len, a, 0)) (hC : xm_C G l a d' mc' ms' As h post') (hn : As.length = xm_np a) (hd' : d' + 1 ≤ d) (hc1 : cs + mc' ≤ mc) (hc2 : zs + ms' ≤ ms) (hrs : (rest.map fun v => v.category).sum ≤ 8) (kk : ∀ r h', post' r h' → xm_X G l y d mc ms (cs + mc') (zs + ms') (pc + 3) ls (r.toList ++ rest) h' post) : xm_X G l y d mc ms cs zs pc ls (As.reverse ++ rest) h post := by
  intro p e R s m args below meth c H locs base lsA Q hS hmc hms hL hW hF hK9
  have hS' := hS
  obtain ⟨⟨hx, hb, hr, hml, hown⟩, ⟨hts, hK, hlk, hnm⟩, ⟨hfr, hlo, hy⟩, hbs⟩ := hS
  obtain ⟨e1, hd, hln⟩ := xm_dec hy ho
  have hln : (decide (a < xm_N - 1) && decide (xm_kd a = 0) && xm_in (.methodLink (xm_nm y).cls i (xm_nm a))) = true := hln
  simp only [Bool.and_eq_true, decide_eq_true_eq] at hln
  obtain ⟨⟨ha, hkd⟩, hlink⟩ := hln
  obtain ⟨m1, m2, m3, m4, m5, m6⟩ := xm_mfacts ha
  rw [hkd] at m6
  refine xm_go (va_runS (As := As.map (xm_v base)) (rest := rest.map (xm_v base)) ⟨hx, hb, hml, hown, hts⟩ (hC base) ⟨callB_of (xm_np a) hts (xm_good m1) rfl rfl rfl (xm_wd hts m2) (xm_wd hts hlink) m4 ⟨?_, ?_⟩, xm_wd hts m6⟩ ⟨xm_blind, fun U hU hW9 => ⟨rfl, by rw [hU]; exact hW, xm_K.warm hW9 hK⟩⟩ rfl (by rw [List.length_map]; exact hn) hL.1 ?_ (lv_room (xm_sum hrs)) hd ⟨by omega, by omega⟩) hF (fun r h' H1 locs1 hp hw hf => ?_)
  · show d' + 1 ≤ R.frames
    omega
  · show 8 + (xm_mL a + 11) + d' * 60 ≤ R.locals
    omega
  · show (As.reverse ++ rest).map (xm_v base) = (As.map (xm_v base)).reverse ++ rest.map (xm_v base)
    rw [List.map_append, List.map_reverse]
  · have K := kk r h' hp p e R s m args below meth c H1 locs1 base lsA Q hS' hmc hms hL hw hf hK9
    have e2 : (r.toList ++ rest).map (xm_v base) = (r.map (xm_v base)).toList ++ rest.map (xm_v base) := by
      rw [List.map_append]
      cases r <;> rfl
    rw [e2] at K
    exact K
/-- a private static method of a nest mate is called -/
theorem xm_callN {G : xm_G} {l : Launch} {y d mc ms cs zs pc : Nat} {ls : List (Option Value)} {h : xm_H} {post post' : Option Value → xm_H → Prop} {i len a d' : Nat} {As rest : List Value} (ho : xm_op y pc = some (pc, .invokestatic i, len, a, 1)) (hC : xm_C G l xi_L_isBelow d' 0 0 As h post') (hn : As.length = 2) (hd' : d' + 1 ≤ d) (hc1 : cs ≤ mc) (hc2 : zs ≤ ms) (hrs : (rest.map fun v => v.category).sum ≤ 8) (kk : ∀ r h', post' r h' → xm_X G l y d mc ms cs zs (pc + 3) ls (r.toList ++ rest) h' post) : xm_X G l y d mc ms cs zs pc ls (As.reverse ++ rest) h post := by
  intro p e R s m args below meth c H locs base lsA Q hS hmc hms hL hW hF hK9
  have hS' := hS
  obtain ⟨⟨hx, hb, hr, hml, hown⟩, ⟨hts, hK, hlk, hnm⟩, ⟨hfr, hlo, hy⟩, hbs⟩ := hS
  obtain ⟨e1, hd, hln⟩ := xm_dec hy ho
  have hln : (decide (a = xi_L_isBelow) && (decide ((xm_nm y).cls = "LatinLaws$Turns" ∧ i = 74) || decide ((xm_nm y).cls = "LatinLaws$Renamings" ∧ i = 62))) = true := hln
  simp only [Bool.and_eq_true, Bool.or_eq_true, decide_eq_true_eq] at hln
  obtain ⟨-, hor⟩ := hln
  obtain ⟨m1, m2, m3, m4, m5, m6⟩ := xm_mfacts (y := xi_L_isBelow) (by decide)
  have hkd : xm_kd xi_L_isBelow = 0 := rfl
  rw [hkd] at m6
  have hlink : va_Nw (.methodLinkNest (xm_nm y).cls i (xm_nm xi_L_isBelow) "LatinLaws") s := by
    rcases hor with ⟨g1, g2⟩ | ⟨g1, g2⟩
    · rw [g1, g2]; exact hK.2.1
    · rw [g1, g2]; exact hK.2.2.1
  refine xm_go (va_runSN (host := "LatinLaws") (As := As.map (xm_v base)) (rest := rest.map (xm_v base)) ⟨hx, hb, hml, hown, hts⟩ (hC base) ⟨va_cnB (xm_np xi_L_isBelow) hts (xm_good m1) rfl rfl rfl hlink (xm_wd hts m2) m4 ⟨?_, ?_⟩, xm_wd hts m6, trivial⟩ ⟨xm_blind, fun U hU hW9 => ⟨rfl, by rw [hU]; exact hW, xm_K.warm hW9 hK⟩⟩ rfl (by rw [List.length_map]; exact hn) hL.1 ?_ (lv_room (xm_sum hrs)) hd ⟨by omega, by omega⟩) hF (fun r h' H1 locs1 hp hw hf => ?_)
  · show d' + 1 ≤ R.frames
    omega
  · show 8 + (xm_mL xi_L_isBelow + 11) + d' * 60 ≤ R.locals
    omega
  · show (As.reverse ++ rest).map (xm_v base) = (As.map (xm_v base)).reverse ++ rest.map (xm_v base)
    rw [List.map_append, List.map_reverse]
  · have K := kk r h' hp p e R s m args below meth c H1 locs1 base lsA Q hS' hmc hms hL hw hf hK9
    have e2 : (r.toList ++ rest).map (xm_v base) = (r.map (xm_v base)).toList ++ rest.map (xm_v base) := by
      rw [List.map_append]
      cases r <;> rfl
    rw [e2] at K
    exact K
/-- a method of an object is called -/
theorem xm_callV {G : xm_G} {l : Launch} {y d mc ms cs zs pc : Nat} {ls : List (Option Value)} {h : xm_H} {post post' : Option Value → xm_H → Prop} {i len a b d' mc' ms' k ci N : Nat} {As rest : List Value} (ho : xm_op y pc = some (pc, .invokevirtual i, len, a, b)) (hk : h.1[k]? = some (ci + 3, N)) (hcl : (xm_cl[ci]?).map (fun q => q.1) = some (xm_nm a).cls) (hC : xm_C G l a d' mc' ms' (.ref k :: As) h post') (hn : As.length = xm_np a) (hd' : d' + 1 ≤ d) (hc1 : cs + mc' ≤ mc) (hc2 : zs + ms' ≤ ms) (hrs : (rest.map fun v => v.category).sum ≤ 8) (kk : ∀ r h', post' r h' → xm_X G l y d mc ms (cs + mc') (zs + ms') (pc + 3) ls (r.toList ++ rest) h' post) : xm_X G l y d mc ms cs zs pc ls (As.reverse ++ .ref k :: rest) h post := by
  intro p e R s m args below meth c H locs base lsA Q hS hmc hms hL hW hF hK9
  have hS' := hS
  obtain ⟨⟨hx, hb, hr, hml, hown⟩, ⟨hts, hK, hlk, hnm⟩, ⟨hfr, hlo, hy⟩, hbs⟩ := hS
  obtain ⟨e1, hd, hln⟩ := xm_dec hy ho
  have hln : (decide (a < xm_N - 1) && decide (xm_kd a = 1) && xm_in (.methodLink (xm_nm y).cls i (xm_nm a))) = true := hln
  simp only [Bool.and_eq_true, decide_eq_true_eq] at hln
  obtain ⟨⟨ha, hkd⟩, hlink⟩ := hln
  obtain ⟨m1, m2, m3, m4, m5, m6⟩ := xm_mfacts ha
  rw [hkd] at m6
  simp only [Bool.and_eq_true] at m6
  obtain ⟨-, cell, g1, g2, g3, -⟩ : (∃ r : vw_C, xm_cl[ci]? = some r ∧ r.2.2 = N) ∧ t_OB (base.1 + k) (G.1.1 ci) N (G.1.2 ci) H (xm_fv base h k ci) := hW.2 k _ hk
  obtain ⟨q, hq1, hq2⟩ := Option.map_eq_some_iff.mp hcl
  have hfc : s.vm.findClass (xm_nm a).cls = some cell.cls := by rw [← hq2, g2]; exact (hK.1.1 ci q hq1).2.1
  refine xm_go (va_runV (C := (xm_nm a).cls) (b := base.1 + k) (As := As.map (xm_v base)) (rest := rest.map (xm_v base)) ⟨hx, hb, hml, hown, hts⟩ (hC base) ⟨callB_of (xm_np a) hts (xm_good m1) rfl rfl rfl (xm_wd hts m2) (xm_wd hts hlink) m4 ⟨?_, ?_⟩, xm_wd hts m6.1, xm_wd hts m6.2⟩ ⟨xm_blind, ⟨cell, g1, by rw [g3]; rfl, hfc⟩, fun U hU hW9 => ⟨rfl, by rw [hU]; exact hW, xm_K.warm hW9 hK⟩⟩ rfl (by rw [List.length_map]; exact hn) hL.1 ?_ (lv_room (xm_sum hrs)) hd ⟨by omega, by omega⟩) hF (fun r h' H1 locs1 hp hw hf => ?_)
  · show d' + 1 ≤ R.frames
    omega
  · show 8 + (xm_mL a + 11) + d' * 60 ≤ R.locals
    omega
  · show (As.reverse ++ .ref k :: rest).map (xm_v base) = (As.map (xm_v base)).reverse ++ .ref (base.1 + k) :: rest.map (xm_v base)
    rw [List.map_append, List.map_reverse]
    rfl
  · have K := kk r h' hp p e R s m args below meth c H1 locs1 base lsA Q hS' hmc hms hL hw hf hK9
    have e2 : (r.toList ++ rest).map (xm_v base) = (r.map (xm_v base)).toList ++ rest.map (xm_v base) := by
      rw [List.map_append]
      cases r <;> rfl
    rw [e2] at K
    exact K
/-- a constructor is called -/
theorem xm_callI {G : xm_G} {l : Launch} {y d mc ms cs zs pc : Nat} {ls : List (Option Value)} {h : xm_H} {post post' : Option Value → xm_H → Prop} {i len a d' mc' ms' k : Nat} {As rest : List Value} (ho : xm_op y pc = some (pc, .invokespecial i, len, a, 0)) (hC : xm_C G l a d' mc' ms' (.ref k :: As) h post') (hn : As.length = xm_np a) (hd' : d' + 1 ≤ d) (hc1 : cs + mc' ≤ mc) (hc2 : zs + ms' ≤ ms) (hrs : (rest.map fun v => v.category).sum ≤ 8) (kk : ∀ r h', post' r h' → xm_X G l y d mc ms (cs + mc') (zs + ms') (pc + 3) ls (r.toList ++ rest) h' post) : xm_X G l y d mc ms cs zs pc ls (As.reverse ++ .ref k :: rest) h post := by
  intro p e R s m args below meth c H locs base lsA Q hS hmc hms hL hW hF hK9
  have hS' := hS
  obtain ⟨⟨hx, hb, hr, hml, hown⟩, ⟨hts, hK, hlk, hnm⟩, ⟨hfr, hlo, hy⟩, hbs⟩ := hS
  obtain ⟨e1, hd, hln⟩ := xm_dec hy ho
  have hln : (decide (a < xm_N - 1) && decide (xm_kd a = 2) && xm_in (.methodLink (xm_nm y).cls i (xm_nm a))) = true := hln
  simp only [Bool.and_eq_true, decide_eq_true_eq] at hln
  obtain ⟨⟨ha, hkd⟩, hlink⟩ := hln
  obtain ⟨m1, m2, m3, m4, m5, m6⟩ := xm_mfacts ha
  rw [hkd] at m6
  simp only [Bool.and_eq_true, decide_eq_true_eq] at m6
  have m1' := m1
  rw [m6.2] at m1'
  refine xm_go (va_runI (b := base.1 + k) (As := As.map (xm_v base)) (rest := rest.map (xm_v base)) ⟨hx, hb, hml, hown, hts⟩ (hC base) ⟨callB_of (xm_np a) hts (xm_good m1) (by show xm_ws a = _; unfold xm_ws; rw [m6.2]) rfl rfl (xm_wd hts m2) (xm_wd hts hlink) m4 ⟨?_, ?_⟩, m6.1.2, xm_wd hts m6.1.1⟩ ⟨xm_blind, fun U hU hW9 => ⟨rfl, by rw [hU]; exact hW, xm_K.warm hW9 hK⟩⟩ rfl (by rw [List.length_map]; exact hn) hL.1 ?_ (lv_room (xm_sum hrs)) hd ⟨by omega, by omega⟩) hF (fun r h' H1 locs1 hp hw hf => ?_)
  · show d' + 1 ≤ R.frames
    omega
  · show 8 + (xm_mL a + 11) + d' * 60 ≤ R.locals
    omega
  · show (As.reverse ++ .ref k :: rest).map (xm_v base) = (As.map (xm_v base)).reverse ++ .ref (base.1 + k) :: rest.map (xm_v base)
    rw [List.map_append, List.map_reverse]
    rfl
  · have K := kk r h' hp p e R s m args below meth c H1 locs1 base lsA Q hS' hmc hms hL hw hf hK9
    have e2 : (r.toList ++ rest).map (xm_v base) = (r.map (xm_v base)).toList ++ rest.map (xm_v base) := by
      rw [List.map_append]
      cases r <;> rfl
    rw [e2] at K
    exact K
/-! CORE, sixth part: new cells, the copy of an array, ends, entries, the script -/
theorem xm_dv {ci : Nat} {q : vw_C} (h : xm_cl[ci]? = some q) : ∀ j, j < q.2.2 → defaultValue (xm_ty ci j) = if xm_isI ci j = true then .int 0 else .null := by
  match ci, h with
  | 0, h => cases h; exact (by decide +kernel : ∀ j, j < 2 → defaultValue (xm_ty 0 j) = if xm_isI 0 j = true then .int 0 else .null)
  | 1, h => cases h; exact (by decide +kernel : ∀ j, j < 8 → defaultValue (xm_ty 1 j) = if xm_isI 1 j = true then .int 0 else .null)
  | 2, h => cases h; exact (by decide +kernel : ∀ j, j < 7 → defaultValue (xm_ty 2 j) = if xm_isI 2 j = true then .int 0 else .null)
  | 3, h => cases h; exact (by decide +kernel : ∀ j, j < 5 → defaultValue (xm_ty 3 j) = if xm_isI 3 j = true then .int 0 else .null)
  | 4, h => cases h; exact (by decide +kernel : ∀ j, j < 5 → defaultValue (xm_ty 4 j) = if xm_isI 4 j = true then .int 0 else .null)
  | 5, h => cases h; exact (by decide +kernel : ∀ j, j < 7 → defaultValue (xm_ty 5 j) = if xm_isI 5 j = true then .int 0 else .null)
  | n + 6, h => simp [xm_cl] at h
abbrev xm_psh (h : xm_H) (q : Nat × Nat) : xm_H := (h.1 ++ [q], va_up h.2.1 h.1.length (fun _ => none), va_up h.2.2 h.1.length (fun _ => 0))
theorem xm_W.push {G : xm_G} {base : Nat × Nat × Int32} {q : Nat × Nat} {h : xm_H} {H H1 : Heap} (hW : xm_W G base h H) (hz : H1.size = H.size + 1) (o1 : ∀ j : Nat, j < H.size → H1[j]? = H[j]?) (he : xm_ce G base h.1.length q (xm_psh h q) H1) : xm_W G base (xm_psh h q) H1 := by
  refine ⟨by rw [hz, hW.1]; simp; omega, fun j r hj => ?_⟩
  by_cases e : j < h.1.length
  · have hj' : h.1[j]? = some r := by
      have : (h.1 ++ [q])[j]? = some r := hj
      rwa [List.getElem?_append_left e] at this
    have hne : ¬ j = h.1.length := by omega
    have hc := hW.2 j r hj'
    exact xm_ce.kept (h := h) (by simp [va_up, hne]) (by simp [va_up, hne]) (o1 _ hc.lt) hc
  · have hj' : (h.1 ++ [q])[j]? = some r := hj
    rw [List.getElem?_append_right (by omega)] at hj'
    have hz2 : j - h.1.length < 1 := (List.getElem?_eq_some_iff.mp hj').1
    have e2 : j = h.1.length := by omega
    subst e2
    rw [Nat.sub_self] at hj'
    cases hj'
    exact he
theorem xm_F.push {base : Nat × Nat × Int32} {s : State} {H H1 : Heap} {locs : List Loc} (hF : xm_F base s H locs) (hb : base.1 ≤ H.size) (o1 : ∀ j : Nat, j < H.size → H1[j]? = H[j]?) : xm_F base s H1 locs := ⟨fun q hq => (o1 q (by omega)).trans (hF.1 q hq), hF.2⟩
theorem xm_new {G : xm_G} {l : Launch} {y d mc ms cs zs pc : Nat} {ls : List (Option Value)} {st : List Value} {h : xm_H} {post : Option Value → xm_H → Prop} {i len a b : Nat} {q : vw_C} (ho : xm_op y pc = some (pc, .new i, len, a, b)) (hq : xm_cl[a]? = some q) (hc1 : cs + 1 ≤ mc) (hc2 : zs + q.2.2 ≤ ms) (kk : xm_X G l y d mc ms (cs + 1) (zs + q.2.2) (pc + 3) ls (.ref h.1.length :: st) (xm_psh h (a + 3, q.2.2)) post) : xm_X G l y d mc ms cs zs pc ls st h post := by
  intro p e R s m args below meth c H locs base lsA Q hS hmc hms hL hW hF hK9
  have hS' := hS
  obtain ⟨⟨hx, hb, hr, hml, hown⟩, ⟨hts, hK, hlk, hnm⟩, ⟨hfr, hlo, hy⟩, hbs⟩ := hS
  obtain ⟨e1, hd, hln⟩ := xm_dec hy ho
  unfold xm_lnk at hln
  dsimp only at hln
  rw [hq] at hln
  simp only [Bool.and_eq_true] at hln
  have hKn := hK.1.1 a q hq
  refine W.newcK hx hb hown (xm_wd hts hln.1.1) (xm_wd hts hln.1.2) (xm_wd hts hln.2) rfl hd (by omega) (by omega) hKn.2.1 hW.1 fun H1 kC hkC g1 g2 g3 => ?_
  have g3' : ∀ j : Nat, j < H.size → H1[j]? = H[j]? := fun j hj => g3 j (by rw [← hW.1]; exact hj)
  refine kk p e R s m args below meth c H1 locs base lsA Q hS' hmc hms hL (hW.push (by rw [g2, hW.1]) g3' ?_) (hF.push (by rw [hW.1]; omega) g3') hK9
  refine ⟨⟨q, hq, rfl⟩, (u_born (xm_ty a) hts (xm_cls hq) hKn hkC g1 (xm_pty hq)).to (fun j hj => ?_)⟩
  rw [xm_dv hq j hj]
  unfold xm_fv
  simp [va_up, va_rf]
theorem xm_newI {G : xm_G} {l : Launch} {y d mc ms cs zs pc : Nat} {ls : List (Option Value)} {st : List Value} {h : xm_H} {post : Option Value → xm_H → Prop} {len a b N : Nat} {n : Int32} (ho : xm_op y pc = some (pc, .newarray .int, len, a, b)) (hn : ¬ n < 0) (hN : n.toNatClampNeg = N) (hN2 : N ≤ 100000) (hc1 : cs + 1 ≤ mc) (hc2 : zs + N ≤ ms) (kk : xm_X G l y d mc ms (cs + 1) (zs + N) (pc + 2) ls (.ref h.1.length :: st) (xm_psh h (0, N)) post) : xm_X G l y d mc ms cs zs pc ls (.int n :: st) h post := by
  intro p e R s m args below meth c H locs base lsA Q hS hmc hms hL hW hF hK9
  have hS' := hS
  obtain ⟨⟨hx, hb, hr, hml, hown⟩, ⟨hts, hK, hlk, hnm⟩, ⟨hfr, hlo, hy⟩, hbs⟩ := hS
  obtain ⟨e1, hd, hln⟩ := xm_dec hy ho
  have hln : xm_in (.arrayClass .int) = true := by
    unfold xm_lnk at hln
    simpa using hln
  refine va_newaK hx hb (atype := .int) (xm_wd hts hln) rfl hd rfl hn hN (by show N * 4 ≤ 536870912; omega) (by omega) (by omega) hW.1 fun H1 cA g1 g2 g3 g4 g5 => ?_
  have hcA : cA = G.2.1 := Option.some.inj (g5.symm.trans (hK.1.2 0 (G.2.1, .int) rfl).2)
  subst hcA
  have g3' : ∀ j : Nat, j < H.size → H1[j]? = H[j]? := fun j hj => g3 j (by rw [← hW.1]; exact hj)
  refine kk p e R s m args below meth c H1 locs base lsA Q hS' hmc hms hL (hW.push (by rw [g2, hW.1]) g3' ?_) (hF.push (by rw [hW.1]; omega) g3') hK9
  show H1[base.1 + h.1.length]? = some (arrV G.2.1 N _)
  rw [g1]
  simp [va_up]
  rfl
theorem xm_newZ {G : xm_G} {l : Launch} {y d mc ms cs zs pc : Nat} {ls : List (Option Value)} {st : List Value} {h : xm_H} {post : Option Value → xm_H → Prop} {len a b N : Nat} {n : Int32} (ho : xm_op y pc = some (pc, .newarray .boolean, len, a, b)) (hn : ¬ n < 0) (hN : n.toNatClampNeg = N) (hN2 : N ≤ 100000) (hc1 : cs + 1 ≤ mc) (hc2 : zs + N ≤ ms) (kk : xm_X G l y d mc ms (cs + 1) (zs + N) (pc + 2) ls (.ref h.1.length :: st) (xm_psh h (1, N)) post) : xm_X G l y d mc ms cs zs pc ls (.int n :: st) h post := by
  intro p e R s m args below meth c H locs base lsA Q hS hmc hms hL hW hF hK9
  have hS' := hS
  obtain ⟨⟨hx, hb, hr, hml, hown⟩, ⟨hts, hK, hlk, hnm⟩, ⟨hfr, hlo, hy⟩, hbs⟩ := hS
  obtain ⟨e1, hd, hln⟩ := xm_dec hy ho
  have hln : xm_in (.arrayClass .boolean) = true := by
    unfold xm_lnk at hln
    simpa using hln
  refine va_newaK hx hb (atype := .boolean) (xm_wd hts hln) rfl hd rfl hn hN (by show N * 1 ≤ 536870912; omega) (by omega) (by omega) hW.1 fun H1 cA g1 g2 g3 g4 g5 => ?_
  have hcA : cA = G.2.2.1 := Option.some.inj (g5.symm.trans (hK.1.2 1 (G.2.2.1, .boolean) rfl).2)
  subst hcA
  have g3' : ∀ j : Nat, j < H.size → H1[j]? = H[j]? := fun j hj => g3 j (by rw [← hW.1]; exact hj)
  refine kk p e R s m args below meth c H1 locs base lsA Q hS' hmc hms hL (hW.push (by rw [g2, hW.1]) g3' ?_) (hF.push (by rw [hW.1]; omega) g3') hK9
  show H1[base.1 + h.1.length]? = some (arrV G.2.2.1 N _)
  rw [g1]
  simp [va_up]
  rfl
theorem xm_newQ {G : xm_G} {l : Launch} {y d mc ms cs zs pc : Nat} {ls : List (Option Value)} {st : List Value} {h : xm_H} {post : Option Value → xm_H → Prop} {i len a b N : Nat} {n : Int32} (ho : xm_op y pc = some (pc, .anewarray i, len, a, b)) (hn : ¬ n < 0) (hN : n.toNatClampNeg = N) (hN2 : N ≤ 100000) (hc1 : cs + 1 ≤ mc) (hc2 : zs + N ≤ ms) (kk : xm_X G l y d mc ms (cs + 1) (zs + N) (pc + 3) ls (.ref h.1.length :: st) (xm_psh h (2, N)) post) : xm_X G l y d mc ms cs zs pc ls (.int n :: st) h post := by
  intro p e R s m args below meth c H locs base lsA Q hS hmc hms hL hW hF hK9
  have hS' := hS
  obtain ⟨⟨hx, hb, hr, hml, hown⟩, ⟨hts, hK, hlk, hnm⟩, ⟨hfr, hlo, hy⟩, hbs⟩ := hS
  obtain ⟨e1, hd, hln⟩ := xm_dec hy ho
  subst hN
  refine W.anew hx hb hown (xm_wd hts hln) (va_AO.use hK.2.2.2) rfl hd rfl hn (by omega) (by omega) (by omega) fun cA kA comp f1 f2 f3 f4 => ?_
  have hcA : cA = G.2.2.2.1 := by
    obtain ⟨_, _, _, _, _, k4⟩ := (hK.1.2 2 (G.2.2.2.1, .object "LatinLaws$Table") rfl).2
    exact Option.some.inj (f1.symm.trans k4)
  subst hcA
  generalize hH1 : H.push ({ cls := G.2.2.2.1, slots := Array.replicate n.toNatClampNeg .null, vm := .none } : Cell) = H1
  have z1 : H1.size = H.size + 1 := by rw [← hH1, Array.size_push]
  have e1 : H1[H.size]? = some (arrV G.2.2.2.1 n.toNatClampNeg (fun _ => .null)) := by rw [← hH1, Array.getElem?_push_size, ← arrV_new]
  have o1 : ∀ q : Nat, q < H.size → H1[q]? = H[q]? := fun q hq => by rw [← hH1, Array.getElem?_push, if_neg (Nat.ne_of_lt hq)]
  have K := kk p e R s m args below meth c H1 locs base lsA Q hS' hmc hms hL (hW.push z1 o1 (by
    show H1[base.1 + h.1.length]? = some (arrV G.2.2.2.1 n.toNatClampNeg _)
    rw [← hW.1, e1]
    simp [va_up, va_rf])) (hF.push (by rw [hW.1]; omega) o1) hK9
  have e9 : ((Value.ref h.1.length :: st).map (xm_v base)) = .ref H.size :: st.map (xm_v base) := by rw [hW.1]; rfl
  rw [e9] at K
  exact K
theorem xm_objI {G : xm_G} {l : Launch} {y d mc ms cs zs pc : Nat} {ls : List (Option Value)} {st : List Value} {h : xm_H} {post : Option Value → xm_H → Prop} {i len a b k : Nat} (ho : xm_op y pc = some (pc, .invokespecial i, len, a, b + 1)) (hd1 : 1 ≤ d) (hrs : (st.map fun v => v.category).sum ≤ 8) (kk : xm_X G l y d mc ms cs zs (pc + 3) ls st h post) : xm_X G l y d mc ms cs zs pc ls (.ref k :: st) h post := by
  intro p e R s m args below meth c H locs base lsA Q hS hmc hms hL hW hF hK9
  have K := kk p e R s m args below meth c H locs base lsA Q hS hmc hms hL hW hF hK9
  obtain ⟨⟨hx, hb, hr, hml, hown⟩, ⟨hts, hK, hlk, hnm⟩, ⟨hfr, hlo, hy⟩, hbs⟩ := hS
  obtain ⟨e1, hd, hln⟩ := xm_dec hy ho
  have hln : (xm_in (.methodLink (xm_nm y).cls i objectInit) && xm_in (.instanceMethod objectInit) && xm_in (.code objectInit ⟨#[0xb1]⟩ 1 none)) = true := hln
  simp only [Bool.and_eq_true] at hln
  refine W.objInit hx hb hown (xm_wd hts hln.1.1) (xm_wd hts hln.1.2) (xm_wd hts hln.2) rfl (hL.1.trans hml.symm) rfl hd (by omega) ?_ K
  have := xm_sum (base := base) hrs
  show 2 * 0 + _ + 12 ≤ R.locals
  omega
theorem xm_retI {G : xm_G} {l : Launch} {y d mc ms cs zs pc : Nat} {ls : List (Option Value)} {h : xm_H} {post : Option Value → xm_H → Prop} {len a b : Nat} {v : Int32} {ty : FieldType} (ho : xm_op y pc = some (pc, .ireturn, len, a, b)) (hty : xm_rt y = some ty) (hn : narrow ty (.int v) = .int v) (hc1 : cs ≤ mc) (hc2 : zs ≤ ms) (hp : post (some (.int v)) h) : xm_X G l y d mc ms cs zs pc ls [.int v] h post := by
  intro p e R s m args below meth c H locs base lsA Q hS hmc hms hL hW hF hK9
  obtain ⟨e1, hd, hln⟩ := xm_dec hS.2.2.1.2.2 ho
  exact hK9 pc lsA H locs cs zs (some (.int v)) h ⟨hd, ty, hty, hn⟩ hc1 hc2 hp hW hF
theorem xm_retV {G : xm_G} {l : Launch} {y d mc ms cs zs pc : Nat} {ls : List (Option Value)} {h : xm_H} {post : Option Value → xm_H → Prop} {len a b : Nat} (ho : xm_op y pc = some (pc, .return_, len, a, b)) (hty : xm_rt y = none) (hc1 : cs ≤ mc) (hc2 : zs ≤ ms) (hp : post none h) : xm_X G l y d mc ms cs zs pc ls [] h post := by
  intro p e R s m args below meth c H locs base lsA Q hS hmc hms hL hW hF hK9
  obtain ⟨e1, hd, hln⟩ := xm_dec hS.2.2.1.2.2 ho
  exact hK9 pc lsA H locs cs zs none h ⟨hty, hd⟩ hc1 hc2 hp hW hF
theorem xm_sl : ∀ (vs : List Value), (∀ v ∈ vs, v.category = 1) → (lg_sl vs).length = vs.length
  | [], _ => rfl
  | v :: vs, h => by
    have h1 := xm_sl vs (fun w hw => h w (List.mem_cons_of_mem _ hw))
    have h2 := h v List.mem_cons_self
    unfold lg_sl at h1 ⊢
    rw [List.flatMap_cons, List.length_append, h1, if_neg (by omega)]
    simp; omega
theorem xm_ar : ∀ (vs : List Value) (k : Nat), (∀ v ∈ vs, v.category = 1) → ∀ (i : Nat) (v : Value), vs[i]? = some v → (k + i, v) ∈ lv_args k vs
  | [], _, _, i, v, hi => by simp at hi
  | w :: vs, k, h, i, v, hi => by
    have h2 := h w List.mem_cons_self
    unfold lv_args
    rw [if_neg (by omega)]
    cases i with
    | zero => simp at hi; subst hi; exact List.mem_cons_self
    | succ i =>
      have h3 := xm_ar vs (k + 1) (fun w hw => h w (List.mem_cons_of_mem _ hw)) i v (by simpa using hi)
      rw [show k + (i + 1) = k + 1 + i by omega]
      exact List.mem_cons_of_mem _ h3
def xm_en (as : List Value) (n : Nat) : List (Option Value) := as.map some ++ List.replicate (n - as.length) none
theorem xm_enL {base : Nat × Nat × Int32} {as : List Value} {n : Nat} (hc : ∀ v ∈ as, v.category = 1) (hn : as.length ≤ n) : xm_L base (xm_en as n) ((lg_sl (as.map (xm_v base)) ++ List.replicate (n - (lg_sl (as.map (xm_v base))).length) Slot.unset).toArray) n := by
  have hc2 : ∀ v ∈ as.map (xm_v base), v.category = 1 := fun v hv => by
    obtain ⟨w, hw, rfl⟩ := List.mem_map.mp hv
    exact (xm_v_cat base w).trans (hc w hw)
  have hlen := xm_sl _ hc2
  rw [List.length_map] at hlen
  have hl := lv_entry (as.map (xm_v base)) (n := n) (by rw [hlen]; exact hn)
  refine ⟨hl.1, hl.2.1, by simp [xm_en]; omega, fun i v hi => ?_⟩
  have hi2 : as[i]? = some v := by
    unfold xm_en at hi
    by_cases h : i < as.length
    · rw [List.getElem?_append_left (by simpa using h), List.getElem?_map] at hi
      cases hx : as[i]? with
      | none => rw [hx] at hi; simp at hi
      | some w => rw [hx] at hi; simp at hi; rw [hi]
    · rw [List.getElem?_append_right (by simpa using h), List.getElem?_replicate] at hi
      split at hi <;> simp at hi
  have hmem := xm_ar _ 0 hc2 i (xm_v base v) (by rw [List.getElem?_map, hi2]; rfl)
  rw [Nat.zero_add] at hmem
  exact ⟨hc v (List.mem_of_getElem? hi2), hl.2.2 _ hmem⟩
/-- a method's contract out of the walk of its body -/
theorem xm_enter {G : xm_G} {l : Launch} {y d mc ms : Nat} {as : List Value} {h : xm_H} {post : Option Value → xm_H → Prop} (hy : y < xm_N - 1) (hpl : y ≠ 151 ∧ y ≠ 152) (hc : ∀ v ∈ as, v.category = 1) (hn : as.length ≤ xm_mL y) (hX : xm_X G l y d mc ms 0 0 0 (xm_en as (xm_mL y)) [] h post) : xm_C G l y d mc ms as h post := by
  intro base
  obtain ⟨m1, m2, m3, m4, m5, m6⟩ := xm_mfacts hy
  refine Met.ofW (cc := xm_by y) (maxL := xm_mL y) (ret := xm_rt y) (xm_plain y hy hpl.1 hpl.2) rfl ?_
  intro p e s m args below meth c s₁ B hml hv
  obtain ⟨rfl, hW, hK⟩ := hv
  have hts := atoms_spec (ws := xm_ws y) B.pre
  have hts' : ∀ w ∈ xm_tb, w.before (as.map (xm_v base)).toArray s = true := fun w hw => hts w (List.mem_cons_of_mem _ hw)
  rw [lg_entry_eq]
  have hy2 : ¬ y = xi_law := by
    have e1 : xm_N - 1 = xi_law := rfl
    omega
  refine hX p e _ s m _ below meth c s.heap [] base _ _ ⟨⟨B.exec, B.bytes, B.returns, hml, findClass_of_methodNamed B.named⟩, ⟨hts', hK, B.notSynchronized, fun hnm => (name_of_methodNamed B.named B.method).1.trans hnm⟩, ⟨Nat.le_refl _, Nat.le_refl _, by omega⟩, ⟨by rw [hW.1]; omega, fun h => absurd h hy2⟩⟩ (Nat.le_refl _) (Nat.le_refl _) (xm_enL hc hn) hW ⟨fun _ _ => rfl, fun _ h => by cases h⟩ ?_
  intro pc' lsA' H' locs' cs' zs' r h' hend hcs hzs hp hw hf
  refine W.widen (k := mc) (n := ms) hcs hzs ?_
  match r, hend, hp with
  | none, hend, hp =>
    exact W.vret B.exec B.bytes (B.returns.trans hend.1) (fun t ht hWm => ⟨none, h', rfl, hp, by rw [ht]; exact hw, fun q hq => by rw [ht]; exact hf.1 q hq⟩) hf.2 hend.2 B.notSynchronized
  | some (.int v), hend, hp =>
    obtain ⟨hdg, ty, hty, hna⟩ := hend
    exact W.zret B.exec B.bytes (B.returns.trans hty) hna (fun t ht hWm => ⟨some (.int v), h', rfl, hp, by rw [ht]; exact hw, fun q hq => by rw [ht]; exact hf.1 q hq⟩) hf.2 hdg B.notSynchronized
/-! the law reads its script -/
theorem xm_sld {G : xm_G} {l : Launch} {d mc ms cs zs pc : Nat} {ls : List (Option Value)} {st : List Value} {h : xm_H} {post : Option Value → xm_H → Prop} {len a b : Nat} {i : Int32} (ho : xm_op xi_law pc = some (pc, .iaload, len, a, b)) (hi : vp_in i G.2.2.2.2.1) (kk : xm_X G l xi_law d mc ms cs zs (pc + 1) ls (.int (G.2.2.2.2.2 i.toNatClampNeg) :: st) h post) : xm_X G l xi_law d mc ms cs zs pc ls (.int i :: .float 0 :: st) h post := by
  intro p e R s m args below meth c H locs base lsA Q hS hmc hms hL hW hF hK9
  have K := kk p e R s m args below meth c H locs base lsA Q hS hmc hms hL hW hF hK9
  obtain ⟨⟨hx, hb, hr, hml, hown⟩, ⟨hts, hK, hlk, hnm⟩, ⟨hfr, hlo, hy⟩, hbs, hsc⟩ := hS
  obtain ⟨e1, hd, hln⟩ := xm_dec hy ho
  obtain ⟨hX, hb2, hop⟩ := hsc rfl
  obtain ⟨scr, h1, h2, h3, h4, h5⟩ := hX
  have hlt : i.toNatClampNeg < G.2.2.2.2.1 := Nat.not_le.mp fun q => hi (Or.inr q)
  exact W.iald (v := .int (G.2.2.2.2.2 i.toNatClampNeg)) hx hb (by rw [hF.1 base.2.1 hb2]; exact h1) h2 h3 (by rw [h4]; exact hi) (h5 _ hlt) rfl rfl hd K
theorem xm_sldo {G : xm_G} {l : Launch} {d mc ms cs zs pc : Nat} {ls : List (Option Value)} {st : List Value} {h : xm_H} {post : Option Value → xm_H → Prop} {len a b : Nat} {i : Int32} (ho : xm_op xi_law pc = some (pc, .iaload, len, a, b)) (hi : vp_in i G.2.2.2.2.1) (h3 : i.toNatClampNeg = 3) (kk : xm_X G l xi_law d mc ms cs zs (pc + 1) ls (.float 1 :: st) h post) : xm_X G l xi_law d mc ms cs zs pc ls (.int i :: .float 0 :: st) h post := by
  intro p e R s m args below meth c H locs base lsA Q hS hmc hms hL hW hF hK9
  have K := kk p e R s m args below meth c H locs base lsA Q hS hmc hms hL hW hF hK9
  obtain ⟨⟨hx, hb, hr, hml, hown⟩, ⟨hts, hK, hlk, hnm⟩, ⟨hfr, hlo, hy⟩, hbs, hsc⟩ := hS
  obtain ⟨e1, hd, hln⟩ := xm_dec hy ho
  obtain ⟨hX, hb2, hop⟩ := hsc rfl
  obtain ⟨scr, h1, h2, h3', h4, h5⟩ := hX
  have hlt : i.toNatClampNeg < G.2.2.2.2.1 := Nat.not_le.mp fun q => hi (Or.inr q)
  have e9 : (Value.float 1 :: st).map (xm_v base) = .int (G.2.2.2.2.2 i.toNatClampNeg) :: st.map (xm_v base) := by
    rw [h3, ← hop]
    rfl
  rw [e9] at K
  exact W.iald (v := .int (G.2.2.2.2.2 i.toNatClampNeg)) hx hb (by rw [hF.1 base.2.1 hb2]; exact h1) h2 h3' (by rw [h4]; exact hi) (h5 _ hlt) rfl rfl hd K
theorem xm_slen {G : xm_G} {l : Launch} {d mc ms cs zs pc : Nat} {ls : List (Option Value)} {st : List Value} {h : xm_H} {post : Option Value → xm_H → Prop} {len a b : Nat} (ho : xm_op xi_law pc = some (pc, .arraylength, len, a, b)) (kk : xm_X G l xi_law d mc ms cs zs (pc + 1) ls (.int (Int32.ofNat G.2.2.2.2.1) :: st) h post) : xm_X G l xi_law d mc ms cs zs pc ls (.float 0 :: st) h post := by
  intro p e R s m args below meth c H locs base lsA Q hS hmc hms hL hW hF hK9
  have K := kk p e R s m args below meth c H locs base lsA Q hS hmc hms hL hW hF hK9
  obtain ⟨⟨hx, hb, hr, hml, hown⟩, ⟨hts, hK, hlk, hnm⟩, ⟨hfr, hlo, hy⟩, hbs, hsc⟩ := hS
  obtain ⟨e1, hd, hln⟩ := xm_dec hy ho
  obtain ⟨hX, hb2, hop⟩ := hsc rfl
  obtain ⟨scr, h1, h2, h3, h4, h5⟩ := hX
  exact W.alen (n := Int32.ofNat G.2.2.2.2.1) hx hb (by rw [hF.1 base.2.1 hb2]; exact h1) h2 (by rw [h4] <;> rfl) rfl rfl hd K
/-! System.arraycopy of ints -/
theorem xm_nfw : nativeFrameWords "java/lang/System" "arraycopy" 5 ≤ 40 := by decide +kernel
theorem xm_copy {G : xm_G} {l : Launch} {y d mc ms cs zs pc : Nat} {ls : List (Option Value)} {st : List Value} {h : xm_H} {post : Option Value → xm_H → Prop} {i len a b k0 k1 N0 N1 : Nat} {sp dp n : Int32} (ho : xm_op y pc = some (pc, .invokestatic i, len, a, b + 2)) (hk0 : h.1[k0]? = some (0, N0)) (hk1 : h.1[k1]? = some (0, N1)) (h1 : ¬ sp < 0) (h2 : ¬ dp < 0) (h3 : ¬ n < 0) (h4 : sp.toNatClampNeg + n.toNatClampNeg ≤ N0) (h5 : dp.toNatClampNeg + n.toNatClampNeg ≤ N1) (hd1 : 1 ≤ d) (hrs : (st.map fun v => v.category).sum ≤ 8) (kk : xm_X G l y d mc ms cs zs (pc + 3) ls st (h.1, h.2.1, va_up h.2.2 k1 (va_cpy (h.2.2 k0) (h.2.2 k1) sp.toNatClampNeg dp.toNatClampNeg n.toNatClampNeg)) post) : xm_X G l y d mc ms cs zs pc ls (.int n :: .int dp :: .ref k1 :: .int sp :: .ref k0 :: st) h post := by
  intro p e R s m args below meth c H locs base lsA Q hS hmc hms hL hW hF hK9
  have hS' := hS
  obtain ⟨⟨hx, hb, hr, hml, hown⟩, ⟨hts, hK, hlk, hnm⟩, ⟨hfr, hlo, hy⟩, hbs⟩ := hS
  obtain ⟨e1, hd, hln⟩ := xm_dec hy ho
  have hln : (xm_in (.methodLink (xm_nm y).cls i arraycopyName) && xm_in (.native arraycopyName) && xm_in (.static arraycopyName) && xm_in (.initialized "java/lang/System")) = true := hln
  simp only [Bool.and_eq_true] at hln
  have nn : ∀ z : Int32, ¬ z < 0 → z.toInt = (z.toNatClampNeg : Int) := by
    intro z hz
    have hz0 : (0 : Int) ≤ z.toInt := by
      have := Int32.not_lt.mp hz
      simpa using Int32.le_iff_toInt_le.mp this
    show z.toInt = ((z.toInt.toNat : Nat) : Int)
    omega
  have hc0 : H[base.1 + k0]? = some (arrV G.2.1 N0 (fun j => .int (h.2.2 k0 j))) := hW.2 k0 _ hk0
  have hc1 : H[base.1 + k1]? = some (arrV G.2.1 N1 (fun j => .int (h.2.2 k1 j))) := hW.2 k1 _ hk1
  obtain ⟨-, kA, hkA, cm, hkk⟩ := xm_tI hK N0 (fun j => .int (h.2.2 k0 j))
  have hsum := xm_sum (base := base) hrs
  have hnf := xm_nfw
  intro T hT X
  obtain ⟨vm', X', step⟩ := X.arraycopy hx hown (xm_wd hts hln.1.1.1) (xm_wd hts hln.1.1.2) (xm_wd hts hln.1.2) (xm_wd hts hln.2) (src := base.1 + k0) (dst := base.1 + k1) (cs := arrV G.2.1 N0 (fun j => .int (h.2.2 k0 j))) (cd := arrV G.2.1 N1 (fun j => .int (h.2.2 k1 j))) (srcPos := sp) (destPos := dp) (n := n) (by rw [hT]; exact hc0) (by rw [hT]; exact hc1)
    (fun _ h => by cases h) (fun _ h => by cases h) (fun h => by cases h) (fun h => by cases h) hkA hkA hkk hkk (by decide) h1 h2 h3
    (by rw [nn sp h1, nn n h3, arrV_size]; omega)
    (by rw [nn dp h2, nn n h3, arrV_size]; omega)
    (fun vm₁ _ i hi => by
      have e : (arrV G.2.1 N0 (fun j => .int (h.2.2 k0 j))).slots.getD (sp.toNatClampNeg + i) .null = .int (h.2.2 k0 (sp.toNatClampNeg + i)) := by
        rw [Array.getD_eq_getD_getElem?, arrV_read _ _ (by omega)]
        rfl
      refine ⟨?_, ?_⟩
      · rw [e]; rfl
      · rw [e]; exact trivial)
    (g := F0 m pc lsA (.int n :: .int dp :: .ref (base.1 + k1) :: .int sp :: .ref (base.1 + k0) :: st.map (xm_v base))) rfl (by rw [hml]; exact hL.1) (rest := st.map (xm_v base)) rfl (by rw [hb]; exact hd) (by omega) (by show 2 * 0 + _ + _ ≤ _; omega)
  have e1 : copied (arrV G.2.1 N0 (fun j => .int (h.2.2 k0 j))) (arrV G.2.1 N1 (fun j => .int (h.2.2 k1 j))) sp dp n = arrV G.2.1 N1 (fun j => .int (va_cpy (h.2.2 k0) (h.2.2 k1) sp.toNatClampNeg dp.toNatClampNeg n.toNatClampNeg j)) := va_copied (fun z => .int z) G.2.1 G.2.1 (h.2.2 k0) (h.2.2 k1) h4
  rw [e1] at X' step
  have hl : base.1 + k1 < H.size := (Array.getElem?_eq_some_iff.mp hc1).1
  generalize hcell : arrV G.2.1 N1 (fun j => .int (va_cpy (h.2.2 k0) (h.2.2 k1) sp.toNatClampNeg dp.toNatClampNeg n.toNatClampNeg j)) = cell at X' step
  have hheap : ((T.setVm vm').setCell (base.1 + k1) cell).heap = H.setIfInBounds (base.1 + k1) cell := by rw [← hT]; rfl
  have oq : ∀ q : Nat, q ≠ base.1 + k1 → (H.setIfInBounds (base.1 + k1) cell)[q]? = H[q]? := fun q hq => by simp [Array.getElem?_setIfInBounds, Ne.symm hq]
  obtain ⟨t, a1, b1⟩ := kk p e R s m args below meth c (H.setIfInBounds (base.1 + k1) cell) _ base lsA Q hS' hmc hms hL (hW.one hk1 rfl (fun _ _ => rfl) (fun j hj => by simp [va_up, hj]) (by simp) oq (by
    show (H.setIfInBounds (base.1 + k1) cell)[base.1 + k1]? = some (arrV G.2.1 N1 _)
    rw [← hcell]
    simp [Array.getElem?_setIfInBounds, hl, va_up])) ⟨fun q hq => by rw [oq q (by omega)]; exact hF.1 q hq, fun q hq => by
      rcases List.mem_append.mp hq with h | h
      · exact hF.2 q h
      · obtain ⟨z, -, hz⟩ := List.mem_map.mp h
        rw [← hz]
        exact Nat.le_add_right _ _⟩ hK9 _ hheap X'
  exact ⟨t, step t a1, b1⟩
/-! Math.min and Math.max: the machine has them by rows of their own -/
theorem xm_mnE : xm_nm 151 = Lib.Math.min.name ∧ xm_by 151 = Lib.Math.min.code ∧ xm_nm 152 = Lib.Math.max.name ∧ xm_by 152 = Lib.Math.max.code := by decide +kernel
theorem xm_lnkS {y pc i len a : Nat} (h : xm_lnk y (pc, .invokestatic i, len, a, 0) = true) : (decide (a < xm_N - 1) && decide (xm_kd a = 0) && xm_in (.methodLink (xm_nm y).cls i (xm_nm a))) = true := h
theorem xm_mmin {G : xm_G} {l : Launch} {y d mc ms cs zs pc : Nat} {ls : List (Option Value)} {st : List Value} {h : xm_H} {post : Option Value → xm_H → Prop} {i len : Nat} {u w : Int32} (ho : xm_op y pc = some (pc, .invokestatic i, len, 151, 0)) (hd1 : 1 ≤ d) (hc1 : cs ≤ mc) (hc2 : zs ≤ ms) (hrs : (st.map fun v => v.category).sum ≤ 8) (kk : xm_X G l y d mc ms cs zs (pc + 3) ls (.int (if w < u then w else u) :: st) h post) : xm_X G l y d mc ms cs zs pc ls (.int w :: .int u :: st) h post := by
  intro p e R s m args below meth c H locs base lsA Q hS hmc hms hL hW hF hK9
  have K := kk p e R s m args below meth c H locs base lsA Q hS hmc hms hL hW hF hK9
  obtain ⟨⟨hx, hb, hr, hml, hown⟩, ⟨hts, hK, hlk, hnm⟩, ⟨hfr, hlo, hy⟩, hbs⟩ := hS
  obtain ⟨e1, hd, hln⟩ := xm_dec hy ho
  have hln : (decide (151 < xm_N - 1) && decide (xm_kd 151 = 0) && xm_in (.methodLink (xm_nm y).cls i (xm_nm 151))) = true := xm_lnkS hln
  simp only [Bool.and_eq_true] at hln
  obtain ⟨m1, m2, m3, m4, m5, m6⟩ := xm_mfacts (y := 151) (by decide)
  have hkd : xm_kd 151 = 0 := rfl
  rw [hkd] at m6
  have hl := xm_wd hts hln.2
  have w1 := xm_wd hts m1
  have w2 := xm_wd hts m2
  have w6 := xm_wd hts m6
  rw [xm_mnE.2.1] at w1
  rw [xm_mnE.1] at hl w1 w6
  have hsum := xm_sum (base := base) hrs
  exact va_mmin hx hb (hml.trans hL.1.symm) hown hl w6 w2 w1 (by omega) (by omega) (by omega) (by omega) hd K
theorem xm_mmax {G : xm_G} {l : Launch} {y d mc ms cs zs pc : Nat} {ls : List (Option Value)} {st : List Value} {h : xm_H} {post : Option Value → xm_H → Prop} {i len : Nat} {u w : Int32} (ho : xm_op y pc = some (pc, .invokestatic i, len, 152, 0)) (hd1 : 1 ≤ d) (hc1 : cs ≤ mc) (hc2 : zs ≤ ms) (hrs : (st.map fun v => v.category).sum ≤ 8) (kk : xm_X G l y d mc ms cs zs (pc + 3) ls (.int (if u < w then w else u) :: st) h post) : xm_X G l y d mc ms cs zs pc ls (.int w :: .int u :: st) h post := by
  intro p e R s m args below meth c H locs base lsA Q hS hmc hms hL hW hF hK9
  have K := kk p e R s m args below meth c H locs base lsA Q hS hmc hms hL hW hF hK9
  obtain ⟨⟨hx, hb, hr, hml, hown⟩, ⟨hts, hK, hlk, hnm⟩, ⟨hfr, hlo, hy⟩, hbs⟩ := hS
  obtain ⟨e1, hd, hln⟩ := xm_dec hy ho
  have hln : (decide (152 < xm_N - 1) && decide (xm_kd 152 = 0) && xm_in (.methodLink (xm_nm y).cls i (xm_nm 152))) = true := xm_lnkS hln
  simp only [Bool.and_eq_true] at hln
  obtain ⟨m1, m2, m3, m4, m5, m6⟩ := xm_mfacts (y := 152) (by decide)
  have hkd : xm_kd 152 = 0 := rfl
  rw [hkd] at m6
  have hl := xm_wd hts hln.2
  have w1 := xm_wd hts m1
  have w2 := xm_wd hts m2
  have w6 := xm_wd hts m6
  rw [xm_mnE.2.2.2] at w1
  rw [xm_mnE.2.2.1] at hl w1 w6
  have hsum := xm_sum (base := base) hrs
  exact va_mmax hx hb (hml.trans hL.1.symm) hown hl w6 w2 w1 (by omega) (by omega) (by omega) (by omega) hd K
/-! THE CLAIM OUT OF ONE WALK OF THE LAW'S BODY. Your part is whole_start (and what it stands on); all else here is the same for every law, but numbers. -/
def R_law : String := "LatinLawsLaw"
def lw_P (b : Addr) (xs : List Int32) (args : Array Value) (s : State) : Prop := args = #[.ref b] ∧ s.IntsAt b xs ∧ xs.length ≤ 2560 ∧ (Jvm.Cond.and given_1 narrow_1).before args s = true
def lw_Q (_ : Array Value) (s : State) (o : Outcome) (t : State) : Prop := o = .returned (some (.int 1)) ∧ Framed s o t [] 600000 7302250
def lw_Z (below : List Frame) (a : Array Value) (s : State) : State → Prop := fun t => ∃ o, t.status = .running ∧ Ended t below o ∧ lw_Q a s o t
/-- the law's own end, with 1 on the stack, nothing written that was there before, its room as the claim has it -/
theorem lw_ret {p : Program} {l : Launch} {e : Env} {s : State} {m : MethodId} {below : List Frame} {meth : Method} {c : Code} {b : Nat} (hx : p.tables.exec = Jvm.exec) (hb : c.code = code) (hr : meth.sig.returnType = ret) (hlocks : meth.locks = false) {pc : Nat} {H : Heap} {ls : Array Slot} (hdg : decode code pc = .ok (.ireturn, 1)) : W p l e room_1 s m #[Value.ref b] below meth c H [] 600000 7302250 (lw_Z below #[Value.ref b] s) (F0 m pc ls [.int 1]) := by
  intro T hT X
  obtain ⟨fs, hret, hrun, hended, hW, hframe⟩ := X.leave (v := some (.int 1)) (hlocks := hlocks) (fun h => by rw [hr] at h; cases h)
  have hmeth' : T.vm.method? m = some meth := X.method'
  refine ⟨T.setFrames fs, ?_, .returned (some (.int 1)), hrun, hended, rfl, ⟨_, rfl⟩, hW, hframe⟩
  jvm_step X.here [X.here.top, hx, hb, hdg, hmeth', hr, ret, narrow_b1]
  (try refine ⟨rfl, ?_⟩); (try refine ⟨rfl, ?_⟩)
  first | (intro acts; rw [hret _ acts rfl rfl rfl]) | rw [hret _ _ rfl rfl rfl]
  exact Steps.refl _
/-- what holds at the law's entry: the machine, the code, the tables' words (any of lw_tbl by 'hts w (by decide +kernel)'), the script of L ints xs at the cell b, what the Statement gives of the start (any of its parts by flat_of_before) -/
def lw_At (p : Program) (s : State) (m : MethodId) (meth : Method) (c : Code) (b L : Nat) (xs : Nat → Int32) : Prop :=
  p.tables.exec = Jvm.exec ∧ c.code = code ∧ meth.sig.returnType = ret ∧ c.maxLocals = 4 ∧ s.vm.findClass R_law = some m.cls ∧ (∀ w ∈ lw_tbl, w.before #[Value.ref b] s = true) ∧ va_X b L xs s s.heap ∧ b < s.heap.size ∧ meth.locks = false ∧ (Jvm.Cond.and given_1 narrow_1).before #[Value.ref b] s = true

theorem xm_arrK {s : State} {ty : FieldType} {args : Array Value} (h : (Cond.arrayClass ty).before args s = true) : ∃ cA, ArrOfT s cA ty ∧ s.vm.findClass ("[" ++ ty.toString) = some cA := by
  obtain ⟨cA, kA, comp, hfind, hk, hkind⟩ := Cond.arrayClass_spec h
  exact ⟨cA, fun n z => ⟨fun k h => (by cases h), kA, hk, comp, hkind⟩, hfind⟩
theorem xm_knownG {s : State} {args : Array Value} (hts : ∀ w ∈ lw_tbl, w.before args s = true) (sc : Nat × (Nat → Int32)) : ∃ G : xm_G, xm_K G s ∧ G.2.2.2.2 = sc := by
  have htb : ∀ w ∈ xm_tb, w.before args s = true := fun w hw => hts w (List.mem_filter.mp hw).1
  obtain ⟨c0, i0, k0⟩ := u_known (n := 2) htb (xm_cls (ci := 0) rfl) (xm_wd htb (by decide +kernel))
  obtain ⟨c1, i1, k1⟩ := u_known (n := 8) htb (xm_cls (ci := 1) rfl) (xm_wd htb (by decide +kernel))
  obtain ⟨c2, i2, k2⟩ := u_known (n := 7) htb (xm_cls (ci := 2) rfl) (xm_wd htb (by decide +kernel))
  obtain ⟨c3, i3, k3⟩ := u_known (n := 5) htb (xm_cls (ci := 3) rfl) (xm_wd htb (by decide +kernel))
  obtain ⟨c4, i4, k4⟩ := u_known (n := 5) htb (xm_cls (ci := 4) rfl) (xm_wd htb (by decide +kernel))
  obtain ⟨c5, i5, k5⟩ := u_known (n := 7) htb (xm_cls (ci := 5) rfl) (xm_wd htb (by decide +kernel))
  obtain ⟨cI, aI, fI⟩ := xm_arrK (hts (.arrayClass .int) (by decide +kernel))
  obtain ⟨cZ, aZ, fZ⟩ := xm_arrK (hts (.arrayClass .boolean) (by decide +kernel))
  have hov : (Cond.arrayOver (.object "LatinLaws$Table")).before args s = true := hts _ (by decide +kernel)
  obtain ⟨comp, cT, kT, g1, g2, g3, g4, g5⟩ := Cond.arrayOver_spec hov
  refine ⟨((fun c => match c with
    | 0 => c0
    | 1 => c1
    | 2 => c2
    | 3 => c3
    | 4 => c4
    | _ => c5, fun c => match c with
    | 0 => i0
    | 1 => i1
    | 2 => i2
    | 3 => i3
    | 4 => i4
    | _ => i5), cI, cZ, cT, sc), ⟨⟨?_, ?_⟩, va_Nw.of rfl (hts _ (by decide +kernel)), va_Nw.of rfl (hts _ (by decide +kernel)), va_AO.of hov⟩, rfl⟩
  · intro c q hq
    match c, hq with
    | 0, hq => cases hq; exact k0
    | 1, hq => cases hq; exact k1
    | 2, hq => cases hq; exact k2
    | 3, hq => cases hq; exact k3
    | 4, hq => cases hq; exact k4
    | 5, hq => cases hq; exact k5
    | n + 6, hq => simp [xm_cl] at hq
  · intro k q hq
    match k, hq with
    | 0, hq => cases hq; exact ⟨aI, fI⟩
    | 1, hq => cases hq; exact ⟨aZ, fZ⟩
    | 2, hq => cases hq; exact ⟨fun n z => ⟨fun k h => (by cases h), kT, g3, comp, g4⟩, kT, comp, g3, g4, g1, g5⟩
    | n + 3, hq => simp at hq
abbrev xm_H0 : xm_H := ([], fun _ _ => none, fun _ _ => 0)
/-- the claim's walk out of the walk of the law's body over the pure picture -/
theorem xm_lawstart {p : Program} {e : Env} {s : State} {m : MethodId} {below : List Frame} {meth : Method} {c : Code} (l : Launch) {b L : Nat} {xs : Nat → Int32} (C0 : lw_At p s m meth c b L xs) (hX : ∀ G : xm_G, G.2.2.2.2 = (L, xs) → xm_X G l xi_law 1000 600000 7302250 0 0 0 [some (.float 0), none, none, none] [] xm_H0 (fun r _ => r = some (.int 1))) : W p l e room_1 s m #[Value.ref b] below meth c s.heap [] 0 0 (lw_Z below #[Value.ref b] s) (entryFrame m ([Value.ref b] : List Value).toArray 4) := by
  obtain ⟨hx, hb, hr, hml, hown, hts, hXs, hbl, hlk, hgv⟩ := C0
  obtain ⟨G, hK, hG⟩ := xm_knownG hts (L, xs)
  rw [lg_entry_eq]
  have hL : xm_L (s.heap.size, b, xs 3) [some (.float 0), none, none, none] ((lg_sl [Value.ref b] ++ List.replicate (4 - (lg_sl [Value.ref b]).length) Slot.unset).toArray) (xm_mL xi_law) := xm_enL (base := (s.heap.size, b, xs 3)) (as := [.float 0]) (n := 4) (fun v hv => by rw [List.mem_singleton.mp hv]; rfl) (by decide)
  refine hX G hG p e room_1 s m #[Value.ref b] below meth c s.heap [] (s.heap.size, b, xs 3) _ _ ⟨⟨hx, hb, hr, hml, hown⟩, ⟨fun w hw => hts w (List.mem_filter.mp hw).1, hK, hlk, fun h => absurd h (by decide)⟩, ⟨by decide, by decide, by decide⟩, ⟨Nat.le_refl _, fun _ => ⟨by rw [hG]; exact hXs, hbl, by rw [hG]⟩⟩⟩ (Nat.le_refl _) (Nat.le_refl _) hL ⟨rfl, fun k q hk => by simp at hk⟩ ⟨fun _ _ => rfl, fun _ h => by cases h⟩ ?_
  intro pc' lsA' H' locs' cs' zs' r h' hend hcs hzs hp hw hf
  subst hp
  obtain ⟨hdg, -⟩ := hend
  refine va_forget (fun q hq => hf.2 q hq) ?_
  refine W.widen (k := 600000) (n := 7302250) hcs hzs ?_
  exact lw_ret hx hb hr hlk hdg
