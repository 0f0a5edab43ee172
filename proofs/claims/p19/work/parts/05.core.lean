/-! CORE, second part: the pure picture of heap and frame, and the judgement xm_X over it -/
def xm_v (base : Nat × Nat × Int32) : Value → Value
  | .ref k => .ref (base.1 + k)
  | .float u => if u = 0 then .ref base.2.1 else .int base.2.2
  | v => v
theorem xm_v_cat (base : Nat × Nat × Int32) (v : Value) : (xm_v base v).category = v.category := by
  cases v with
  | float u =>
    unfold xm_v
    by_cases h : u = 0
    · simp only [if_pos h]; rfl
    · simp only [if_neg h]; rfl
  | _ => rfl
def xm_isI (c j : Nat) : Bool := decide (xm_ty c j = .int)
def xm_fv (base : Nat × Nat × Int32) (h : xm_H) (k ci j : Nat) : Value := if xm_isI ci j = true then .int (h.2.2 k j) else va_rf ((h.2.1 k j).map (fun r => base.1 + r))
def xm_ce (G : xm_G) (base : Nat × Nat × Int32) (k : Nat) (q : Nat × Nat) (h : xm_H) (H : Heap) : Prop := match q.1 with
  | 0 => H[base.1 + k]? = some (arrV G.2.1 q.2 (fun j => .int (h.2.2 k j)))
  | 1 => H[base.1 + k]? = some (arrV G.2.2.1 q.2 (fun j => .int (h.2.2 k j)))
  | 2 => H[base.1 + k]? = some (arrV G.2.2.2.1 q.2 (fun j => va_rf ((h.2.1 k j).map (fun r => base.1 + r))))
  | ci + 3 => (∃ r : vw_C, xm_cl[ci]? = some r ∧ r.2.2 = q.2) ∧ t_OB (base.1 + k) (G.1.1 ci) q.2 (G.1.2 ci) H (xm_fv base h k ci)
def xm_W (G : xm_G) (base : Nat × Nat × Int32) (h : xm_H) (H : Heap) : Prop := H.size = base.1 + h.1.length ∧ ∀ (k : Nat) (q : Nat × Nat), h.1[k]? = some q → xm_ce G base k q h H
def xm_F (base : Nat × Nat × Int32) (s : State) (H : Heap) (locs : List Loc) : Prop := (∀ q : Nat, q < base.1 → H[q]? = s.heap[q]?) ∧ ∀ l ∈ locs, base.1 ≤ l.base
def xm_L (base : Nat × Nat × Int32) (ls : List (Option Value)) (lsA : Array Slot) (n : Nat) : Prop := lsA.size = n ∧ lv_wf lsA ∧ ls.length = n ∧ ∀ (i : Nat) (v : Value), ls[i]? = some (some v) → v.category = 1 ∧ lsA[i]? = some (.val (xm_v base v))
def xm_K (G : xm_G) (U : State) : Prop := va_K G.1 xm_cl [(G.2.1, .int), (G.2.2.1, .boolean), (G.2.2.2.1, .object "LatinLaws$Table")] U ∧ va_Nw (.methodLinkNest "LatinLaws$Turns" 74 (xm_nm xi_L_isBelow) "LatinLaws") U ∧ va_Nw (.methodLinkNest "LatinLaws$Renamings" 62 (xm_nm xi_L_isBelow) "LatinLaws") U ∧ va_AO "LatinLaws$Table" U
theorem xm_K.warm {G : xm_G} {s U : State} (hW : s.WarmedH U.vm) (h : xm_K G s) : xm_K G U := ⟨va_K.moved hW.alike h.1, va_Nw.warmM hW h.2.1, va_Nw.warmM hW h.2.2.1, va_AO.moved hW.alike h.2.2.2⟩
theorem xm_K.calling {G : xm_G} {U : State} {g : JFrame} {mk : MethodId} {a : Array Value} (h : xm_K G U) : xm_K G (U.calling g mk a) :=
  ⟨va_K.moved (u := U) (U := U.calling g mk a) (Vm.Alike.refl U.vm) h.1, va_Nw.same (u := U) (U := U.calling g mk a) rfl rfl h.2.1, va_Nw.same (u := U) (U := U.calling g mk a) rfl rfl h.2.2.1, va_AO.moved (u := U) (U := U.calling g mk a) (Vm.Alike.refl U.vm) h.2.2.2⟩
abbrev xm_tb : List Cond := lw_tbl.filter goodWord
def xm_S (G : xm_G) (y : Nat) (p : Program) (s : State) (m : MethodId) (args : Array Value) (meth : Method) (c : Code) (R : Room) (d : Nat) (base : Nat × Nat × Int32) : Prop :=
  (p.tables.exec = Jvm.exec ∧ c.code = xm_by y ∧ meth.sig.returnType = xm_rt y ∧ c.maxLocals = xm_mL y ∧ s.vm.findClass (xm_nm y).cls = some m.cls) ∧ ((∀ w ∈ xm_tb, w.before args s = true) ∧ xm_K G s ∧ meth.locks = false ∧ ((xm_nm y).name = "<init>" → meth.name = "<init>")) ∧ (d ≤ R.frames ∧ d * 60 ≤ R.locals ∧ y < xm_N) ∧ (base.1 ≤ s.heap.size ∧ (y = xi_law → va_X base.2.1 G.2.2.2.2.1 G.2.2.2.2.2 s s.heap ∧ base.2.1 < base.1 ∧ base.2.2 = G.2.2.2.2.2 3))
def xm_end (y pc : Nat) (r : Option Value) : Prop := match r with
  | none => xm_rt y = none ∧ decode (xm_by y) pc = .ok (.return_, 1)
  | some (.int v) => decode (xm_by y) pc = .ok (.ireturn, 1) ∧ ∃ ty, xm_rt y = some ty ∧ narrow ty (.int v) = .int v
  | _ => False
def xm_X (G : xm_G) (l : Launch) (y d mc ms cs zs pc : Nat) (ls : List (Option Value)) (st : List Value) (h : xm_H) (post : Option Value → xm_H → Prop) : Prop :=
  ∀ (p : Program) (e : Env) (R : Room) (s : State) (m : MethodId) (args : Array Value) (below : List Frame) (meth : Method) (c : Code) (H : Heap) (locs : List Loc) (base : Nat × Nat × Int32) (lsA : Array Slot) (Q : State → Prop),
    xm_S G y p s m args meth c R d base → mc ≤ R.cells → ms ≤ R.slots → xm_L base ls lsA (xm_mL y) → xm_W G base h H → xm_F base s H locs →
    (∀ (pc' : Nat) (lsA' : Array Slot) (H' : Heap) (locs' : List Loc) (cs' zs' : Nat) (r : Option Value) (h' : xm_H), xm_end y pc' r → cs' ≤ mc → zs' ≤ ms → post r h' → xm_W G base h' H' → xm_F base s H' locs' → W p l e R s m args below meth c H' locs' cs' zs' Q (F0 m pc' lsA' (r.toList.map (xm_v base)))) →
    W p l e R s m args below meth c H locs cs zs Q (F0 m pc lsA (st.map (xm_v base)))
theorem xm_dec {y pc : Nat} {o : xm_Op} (hy : y < xm_N) (h : xm_op y pc = some o) : o.1 = pc ∧ decode (xm_by y) pc = .ok (o.2.1, if xm_len o.2.1 = 0 then o.2.2.1 else xm_len o.2.1) ∧ xm_lnk y o = true := by
  have h1 := List.find?_some h
  have h2 := List.mem_of_find?_eq_some h
  have h3 := List.all_eq_true.mp (xm_kall y hy) o h2
  simp only [xm_ochk, Bool.and_eq_true, Bool.or_eq_true, decide_eq_true_eq] at h3
  have h4 : o.1 = pc := by simpa using h1
  refine ⟨h4, ?_, h3.2⟩
  rw [← h4, h3.1.1]
  by_cases hz : xm_len o.2.1 = 0
  · rw [if_pos hz]
  · rw [if_neg hz]
    rcases h3.1.2 with h5 | h5
    · exact absurd h5 hz
    · rw [h5]
theorem xm_wd {args : Array Value} {s : State} (hts : ∀ w ∈ xm_tb, w.before args s = true) {w : Cond} (h : xm_in w = true) : w.before args s = true := by
  have h := xm_in_t h
  exact hts w (List.mem_filter.mpr h)
/-! locals -/
def xm_pr (base : Nat × Nat × Int32) (ls : List (Option Value)) : List (Nat × Value) := (List.range ls.length).filterMap (fun i => match ls[i]? with
  | some (some v) => some (i, xm_v base v)
  | _ => none)
theorem xm_pr_in {base : Nat × Nat × Int32} {ls : List (Option Value)} {i : Nat} {w : Value} : (i, w) ∈ xm_pr base ls ↔ ∃ v, ls[i]? = some (some v) ∧ w = xm_v base v := by
  constructor
  · intro h
    obtain ⟨j, -, hj⟩ := List.mem_filterMap.mp h
    cases hl : ls[j]? with
    | none => rw [hl] at hj; cases hj
    | some o =>
      cases o with
      | none => rw [hl] at hj; cases hj
      | some v =>
        rw [hl] at hj
        cases hj
        exact ⟨v, hl, rfl⟩
  · rintro ⟨v, h, rfl⟩
    refine List.mem_filterMap.mpr ⟨i, List.mem_range.mpr ?_, by rw [h]⟩
    exact (List.getElem?_eq_some_iff.mp h).1
theorem xm_L.has {base : Nat × Nat × Int32} {ls : List (Option Value)} {lsA : Array Slot} {n : Nat} (h : xm_L base ls lsA n) : lv_has lsA n (xm_pr base ls) := by
  refine ⟨h.1, h.2.1, fun q hq => ?_⟩
  obtain ⟨i, w⟩ := q
  obtain ⟨v, h1, rfl⟩ := xm_pr_in.mp hq
  exact (h.2.2.2 i v h1).2
theorem xm_L.set {base : Nat × Nat × Int32} {ls : List (Option Value)} {lsA lsB : Array Slot} {n i : Nat} {x : Value} (h : xm_L base ls lsA n) (hc : x.category = 1) (h2 : lv_has lsB n ((i, xm_v base x) :: (xm_pr base ls).filter (fun q => !(q.1 == i) && !(q.1 + 1 == i && q.2.category == 2)))) : xm_L base (ls.set i (some x)) lsB n := by
  refine ⟨h2.1, h2.2.1, by rw [List.length_set]; exact h.2.2.1, fun j v hj => ?_⟩
  rw [List.getElem?_set] at hj
  by_cases hij : i = j
  · subst hij
    rw [if_pos rfl] at hj
    split at hj
    · cases hj
      exact ⟨hc, h2.2.2 _ List.mem_cons_self⟩
    · cases hj
  · rw [if_neg hij] at hj
    have hq := h.2.2.2 j v hj
    refine ⟨hq.1, h2.2.2 (j, xm_v base v) (List.mem_cons_of_mem _ (List.mem_filter.mpr ⟨xm_pr_in.mpr ⟨v, hj, rfl⟩, ?_⟩))⟩
    have h3 : ¬ j = i := fun q => hij q.symm
    have h4 : (xm_v base v).category = 1 := (xm_v_cat base v).trans hq.1
    simp [h3, h4]
def xm_le : List (Option Value) → List (Option Value) → Prop
  | [], [] => True
  | none :: a, _ :: b => xm_le a b
  | some v :: a, w :: b => w = some v ∧ xm_le a b
  | _, _ => False
theorem xm_le_spec : ∀ (a b : List (Option Value)), xm_le a b → a.length = b.length ∧ ∀ (i : Nat) (v : Value), a[i]? = some (some v) → b[i]? = some (some v)
  | [], [], _ => ⟨rfl, fun i v h => by simp at h⟩
  | none :: a, w :: b, h => by
    obtain ⟨h1, h2⟩ := xm_le_spec a b h
    refine ⟨by simp [h1], fun i v hi => ?_⟩
    cases i with
    | zero => simp at hi
    | succ i => simpa using h2 i v (by simpa using hi)
  | some u :: a, w :: b, h => by
    obtain ⟨h0, h1⟩ := h
    obtain ⟨h1, h2⟩ := xm_le_spec a b h1
    refine ⟨by simp [h1], fun i v hi => ?_⟩
    cases i with
    | zero => simp at hi; subst hi; simp [h0]
    | succ i => simpa using h2 i v (by simpa using hi)
  | [], _ :: _, h => h.elim
  | none :: _, [], h => h.elim
  | some _ :: _, [], h => h.elim
theorem xm_sub {G : xm_G} {l : Launch} {y d mc ms cs zs pc : Nat} {ls ls' : List (Option Value)} {st : List Value} {h : xm_H} {post : Option Value → xm_H → Prop} (hle : xm_le ls ls') (k : xm_X G l y d mc ms cs zs pc ls st h post) : xm_X G l y d mc ms cs zs pc ls' st h post := by
  obtain ⟨h1, h2⟩ := xm_le_spec _ _ hle
  intro p e R s m args below meth c H locs base lsA Q hS hmc hms hL hW hF hk
  exact k p e R s m args below meth c H locs base lsA Q hS hmc hms ⟨hL.1, hL.2.1, h1.trans hL.2.2.1, fun i v hi => hL.2.2.2 i v (h2 i v hi)⟩ hW hF hk
theorem xm_mono {G : xm_G} {l : Launch} {y d mc ms cs zs pc : Nat} {ls : List (Option Value)} {st : List Value} {h : xm_H} {post post' : Option Value → xm_H → Prop} (hp : ∀ r h', post r h' → post' r h') (k : xm_X G l y d mc ms cs zs pc ls st h post) : xm_X G l y d mc ms cs zs pc ls st h post' := by
  intro p e R s m args below meth c H locs base lsA Q hS hmc hms hL hW hF hk
  exact k p e R s m args below meth c H locs base lsA Q hS hmc hms hL hW hF (fun pc' lsA' H' locs' cs' zs' r h' a1 a2 a3 a4 => hk pc' lsA' H' locs' cs' zs' r h' a1 a2 a3 (hp r h' a4))
/-! the heap's picture under a change of one cell -/
theorem xm_ce.kept {G : xm_G} {base : Nat × Nat × Int32} {k : Nat} {q : Nat × Nat} {h h1 : xm_H} {H H1 : Heap} (hr : h1.2.1 k = h.2.1 k) (hm : h1.2.2 k = h.2.2 k) (hH : H1[base.1 + k]? = H[base.1 + k]?) (hc : xm_ce G base k q h H) : xm_ce G base k q h1 H1 := by
  obtain ⟨t, n⟩ := q
  match t, hc with
  | 0, hc => show H1[base.1 + k]? = _; rw [hH, hm]; exact hc
  | 1, hc => show H1[base.1 + k]? = _; rw [hH, hm]; exact hc
  | 2, hc => show H1[base.1 + k]? = _; rw [hH, hr]; exact hc
  | ci + 3, hc =>
    refine ⟨hc.1, ?_⟩
    have e : xm_fv base h1 k ci = xm_fv base h k ci := by
      funext j
      unfold xm_fv
      rw [hm, hr]
    rw [e]
    exact hc.2.kept hH
theorem xm_ce.lt {G : xm_G} {base : Nat × Nat × Int32} {k : Nat} {q : Nat × Nat} {h : xm_H} {H : Heap} (hc : xm_ce G base k q h H) : base.1 + k < H.size := by
  obtain ⟨t, n⟩ := q
  match t, hc with
  | 0, hc => exact (Array.getElem?_eq_some_iff.mp hc).1
  | 1, hc => exact (Array.getElem?_eq_some_iff.mp hc).1
  | 2, hc => exact (Array.getElem?_eq_some_iff.mp hc).1
  | ci + 3, hc =>
    obtain ⟨-, cell, h1, -⟩ := hc
    exact (Array.getElem?_eq_some_iff.mp h1).1
theorem xm_W.one {G : xm_G} {base : Nat × Nat × Int32} {k : Nat} {q : Nat × Nat} {h h1 : xm_H} {H H1 : Heap} (hW : xm_W G base h H) (hk : h.1[k]? = some q) (hs : h1.1 = h.1) (hr : ∀ j, j ≠ k → h1.2.1 j = h.2.1 j) (hm : ∀ j, j ≠ k → h1.2.2 j = h.2.2 j) (hz : H1.size = H.size) (oq : ∀ j : Nat, j ≠ base.1 + k → H1[j]? = H[j]?) (he : xm_ce G base k q h1 H1) : xm_W G base h1 H1 := by
  refine ⟨by rw [hz, hs]; exact hW.1, fun j r hj => ?_⟩
  rw [hs] at hj
  by_cases e : j = k
  · subst e
    rw [hk] at hj
    cases hj
    exact he
  · exact xm_ce.kept (hr j e) (hm j e) (oq _ (by omega)) (hW.2 j r hj)
theorem xm_F.one {base : Nat × Nat × Int32} {a : Nat} {s : State} {H H1 : Heap} {locs : List Loc} {i : Nat} (hF : xm_F base s H locs) (ha : base.1 ≤ a) (oq : ∀ j : Nat, j ≠ a → H1[j]? = H[j]?) : xm_F base s H1 (locs ++ [⟨a, i⟩]) := by
  refine ⟨fun q hq => (oq q (by omega)).trans (hF.1 q hq), fun l hl => ?_⟩
  rcases List.mem_append.mp hl with h | h
  · exact hF.2 l h
  · rw [List.mem_singleton.mp h]
    exact ha
/-! the pure instructions -/
def xm_bin (st : List Value) (f : Int32 → Int32 → Int32) : Option (List Value) := match st with
  | .int y :: .int x :: r => some (.int (f x y) :: r)
  | _ => none
theorem xm_bin_spec {st st' : List Value} {f : Int32 → Int32 → Int32} (h : xm_bin st f = some st') : ∃ x y r, st = .int y :: .int x :: r ∧ st' = .int (f x y) :: r := by
  unfold xm_bin at h
  split at h
  · cases h
    exact ⟨_, _, _, rfl, rfl⟩
  · cases h
def xm_ldi (ls : List (Option Value)) (i : Nat) (st : List Value) : Option (List Value) := match ls[i]? with
  | some (some (.int x)) => some (.int x :: st)
  | some (some (.float u)) => if u = 0 then none else some (.float u :: st)
  | _ => none
theorem xm_ldi_spec {ls : List (Option Value)} {i : Nat} {st st' : List Value} (h : xm_ldi ls i st = some st') : ∃ v, ls[i]? = some (some v) ∧ st' = v :: st ∧ ∀ base : Nat × Nat × Int32, ∃ x : Int32, xm_v base v = .int x := by
  unfold xm_ldi at h
  split at h
  · cases h
    rename_i x hx
    exact ⟨_, hx, rfl, fun (base : Nat × Nat × Int32) => ⟨_, rfl⟩⟩
  · rename_i x hx
    split at h
    · cases h
    · cases h
      rename_i h0
      exact ⟨_, hx, rfl, fun (base : Nat × Nat × Int32) => ⟨base.2.2, by unfold xm_v; simp only [if_neg h0]⟩⟩
  · cases h
def xm_lda (ls : List (Option Value)) (i : Nat) (st : List Value) : Option (List Value) := match ls[i]? with
  | some (some (.ref x)) => some (.ref x :: st)
  | some (some (.float u)) => if u = 0 then some (.float u :: st) else none
  | _ => none
theorem xm_lda_spec {ls : List (Option Value)} {i : Nat} {st st' : List Value} (h : xm_lda ls i st = some st') : ∃ v, ls[i]? = some (some v) ∧ st' = v :: st ∧ ∀ base : Nat × Nat × Int32, ∃ q : Nat, xm_v base v = .ref q := by
  unfold xm_lda at h
  split at h
  · cases h
    rename_i x hx
    exact ⟨_, hx, rfl, fun base => ⟨_, rfl⟩⟩
  · rename_i x hx
    split at h
    · cases h
      rename_i h0
      exact ⟨_, hx, rfl, fun base => ⟨base.2.1, by unfold xm_v; simp only [if_pos h0]⟩⟩
    · cases h
  · cases h
def xm_sti (ls : List (Option Value)) (i : Nat) (st : List Value) : Option (List (Option Value) × List Value) := match st with
  | .int x :: r => if i < ls.length then some (ls.set i (some (.int x)), r) else none
  | _ => none
theorem xm_sti_spec {ls ls' : List (Option Value)} {i : Nat} {st st' : List Value} (h : xm_sti ls i st = some (ls', st')) : ∃ x, st = .int x :: st' ∧ i < ls.length ∧ ls' = ls.set i (some (.int x)) := by
  unfold xm_sti at h
  split at h
  · split at h
    · cases h
      rename_i hi
      exact ⟨_, rfl, hi, rfl⟩
    · cases h
  · cases h
def xm_sta (ls : List (Option Value)) (i : Nat) (st : List Value) : Option (List (Option Value) × List Value) := match st with
  | .ref x :: r => if i < ls.length then some (ls.set i (some (.ref x)), r) else none
  | _ => none
theorem xm_sta_spec {ls ls' : List (Option Value)} {i : Nat} {st st' : List Value} (h : xm_sta ls i st = some (ls', st')) : ∃ x, st = .ref x :: st' ∧ i < ls.length ∧ ls' = ls.set i (some (.ref x)) := by
  unfold xm_sta at h
  split at h
  · split at h
    · cases h
      rename_i hi
      exact ⟨_, rfl, hi, rfl⟩
    · cases h
  · cases h
def xm_inc (ls : List (Option Value)) (i : Nat) (n : Int) : Option (List (Option Value)) := match ls[i]? with
  | some (some (.int x)) => some (ls.set i (some (.int (x + Int32.ofInt n))))
  | _ => none
theorem xm_inc_spec {ls ls' : List (Option Value)} {i : Nat} {n : Int} (h : xm_inc ls i n = some ls') : ∃ x, ls[i]? = some (some (.int x)) ∧ ls' = ls.set i (some (.int (x + Int32.ofInt n))) := by
  unfold xm_inc at h
  split at h
  · cases h
    rename_i x hx
    exact ⟨x, hx, rfl⟩
  · cases h
def xm_dup (st : List Value) : Option (List Value) := match st with
  | a :: r => if a.category = 1 then some (a :: a :: r) else none
  | _ => none
def xm_dup2 (st : List Value) : Option (List Value) := match st with
  | a :: b :: r => if a.category = 1 then (if b.category = 1 then some (a :: b :: a :: b :: r) else none) else none
  | _ => none
def xm_stp (o : xm_Op) (ls : List (Option Value)) (st : List Value) : Option (Nat × List (Option Value) × List Value) := match o.2.1 with
  | .iconst n => some (o.1 + 1, ls, .int (Int32.ofInt n) :: st)
  | .bipush n => some (o.1 + 2, ls, .int (Int8.ofInt n).toInt32 :: st)
  | .sipush n => some (o.1 + 3, ls, .int (Int16.ofInt n).toInt32 :: st)
  | .ldc _ => some (o.1 + 2, ls, .int (Int32.ofNat o.2.2.2.1) :: st)
  | .ldc_w _ => some (o.1 + 3, ls, .int (Int32.ofNat o.2.2.2.1) :: st)
  | .iload i => (xm_ldi ls i st).map (fun r => (o.1 + 2, ls, r))
  | .iload_n i => (xm_ldi ls i.val st).map (fun r => (o.1 + 1, ls, r))
  | .aload i => (xm_lda ls i st).map (fun r => (o.1 + 2, ls, r))
  | .aload_n i => (xm_lda ls i.val st).map (fun r => (o.1 + 1, ls, r))
  | .istore i => (xm_sti ls i st).map (fun r => (o.1 + 2, r))
  | .istore_n i => (xm_sti ls i.val st).map (fun r => (o.1 + 1, r))
  | .astore i => (xm_sta ls i st).map (fun r => (o.1 + 2, r))
  | .astore_n i => (xm_sta ls i.val st).map (fun r => (o.1 + 1, r))
  | .iinc i n => (xm_inc ls i n).map (fun r => (o.1 + 3, r, st))
  | .iadd => (xm_bin st (fun x y => x + y)).map (fun r => (o.1 + 1, ls, r))
  | .isub => (xm_bin st (fun x y => x - y)).map (fun r => (o.1 + 1, ls, r))
  | .imul => (xm_bin st (fun x y => x * y)).map (fun r => (o.1 + 1, ls, r))
  | .iand => (xm_bin st (fun x y => x &&& y)).map (fun r => (o.1 + 1, ls, r))
  | .ior => (xm_bin st (fun x y => x ||| y)).map (fun r => (o.1 + 1, ls, r))
  | .ixor => (xm_bin st (fun x y => x ^^^ y)).map (fun r => (o.1 + 1, ls, r))
  | .ishl => (xm_bin st (fun x y => x <<< (y &&& 31))).map (fun r => (o.1 + 1, ls, r))
  | .ishr => (xm_bin st (fun x y => x >>> (y &&& 31))).map (fun r => (o.1 + 1, ls, r))
  | .iushr => (xm_bin st (fun x y => (x.toUInt32 >>> (y.toUInt32 &&& Int32.toUInt32 31)).toInt32)).map (fun r => (o.1 + 1, ls, r))
  | .dup => (xm_dup st).map (fun r => (o.1 + 1, ls, r))
  | .dup2 => (xm_dup2 st).map (fun r => (o.1 + 1, ls, r))
  | .goto f => match (o.1 : Int) + f with
    | .ofNat t => some (t, ls, st)
    | _ => none
  | _ => none
theorem xm_osome {α β : Type} {o : Option α} {f : α → β} {b : β} (h : o.map f = some b) : ∃ a, o = some a ∧ f a = b := Option.map_eq_some_iff.mp h
set_option maxHeartbeats 4000000 in
theorem xm_step {G : xm_G} {l : Launch} {y d mc ms cs zs pc : Nat} {ls : List (Option Value)} {st : List Value} {h : xm_H} {post : Option Value → xm_H → Prop} {o : xm_Op} {r : Nat × List (Option Value) × List Value} (ho : xm_op y pc = some o) (hst : xm_stp o ls st = some r) (k : xm_X G l y d mc ms cs zs r.1 r.2.1 r.2.2 h post) : xm_X G l y d mc ms cs zs pc ls st h post := by
  intro p e R s m args below meth c H locs base lsA Q hS hmc hms hL hW hF hk
  obtain ⟨⟨hx, hb, hr, hml, hown⟩, ⟨hts, hK, hlk, hnm⟩, ⟨hfr, hlo, hy⟩, hbs⟩ := hS
  obtain ⟨e1, hd, hln⟩ := xm_dec hy ho
  have K : ∀ lsB, xm_L base r.2.1 lsB (xm_mL y) → W p l e R s m args below meth c H locs cs zs Q (F0 m r.1 lsB (r.2.2.map (xm_v base))) := fun lsB hLB => k p e R s m args below meth c H locs base lsB Q ⟨⟨hx, hb, hr, hml, hown⟩, ⟨hts, hK, hlk, hnm⟩, ⟨hfr, hlo, hy⟩, hbs⟩ hmc hms hLB hW hF hk
  clear k hk ho
  obtain ⟨q, ins, len, a, b⟩ := o
  dsimp only at e1 hd hln
  subst e1
  have hlt : ∀ {i : Nat}, i < ls.length → i < xm_mL y := fun {i} h => by rw [← hL.2.2.1]; exact h
  cases ins with
  | iconst n => cases hst; exact lv_iconst hx hb hd rfl (K lsA hL)
  | bipush n => cases hst; exact lv_bipush hx hb hd rfl (K lsA hL)
  | sipush n => cases hst; exact lv_sipush hx hb hd rfl (K lsA hL)
  | ldc i => cases hst; exact lv_ldc hx hb hown (xm_wd hts hln) hd (K lsA hL)
  | ldc_w i => cases hst; exact lv_ldcw hx hb hown (xm_wd hts hln) hd (K lsA hL)
  | iload i =>
    obtain ⟨z, h1, rfl⟩ := xm_osome hst
    obtain ⟨x, h2, rfl, h3⟩ := xm_ldi_spec h1
    obtain ⟨q3, h3⟩ := h3 base
    have h4 := (hL.2.2.2 _ _ h2).2
    have K9 := K lsA hL
    simp only [List.map_cons] at K9
    rw [h3] at h4 K9
    exact lv_iload hx hb hd h4 K9
  | iload_n i =>
    obtain ⟨z, h1, rfl⟩ := xm_osome hst
    obtain ⟨x, h2, rfl, h3⟩ := xm_ldi_spec h1
    obtain ⟨q3, h3⟩ := h3 base
    have h4 := (hL.2.2.2 _ _ h2).2
    have K9 := K lsA hL
    simp only [List.map_cons] at K9
    rw [h3] at h4 K9
    exact lv_iload_n hx hb hd rfl h4 K9
  | aload i =>
    obtain ⟨z, h1, rfl⟩ := xm_osome hst
    obtain ⟨x, h2, rfl, h3⟩ := xm_lda_spec h1
    obtain ⟨q3, h3⟩ := h3 base
    have h4 := (hL.2.2.2 _ _ h2).2
    have K9 := K lsA hL
    simp only [List.map_cons] at K9
    rw [h3] at h4 K9
    exact lv_aload hx hb hd h4 K9
  | aload_n i =>
    obtain ⟨z, h1, rfl⟩ := xm_osome hst
    obtain ⟨x, h2, rfl, h3⟩ := xm_lda_spec h1
    obtain ⟨q3, h3⟩ := h3 base
    have h4 := (hL.2.2.2 _ _ h2).2
    have K9 := K lsA hL
    simp only [List.map_cons] at K9
    rw [h3] at h4 K9
    exact lv_aload_n hx hb hd rfl h4 K9
  | istore i =>
    obtain ⟨⟨la, sa⟩, h1, rfl⟩ := xm_osome hst
    obtain ⟨x, rfl, h2, rfl⟩ := xm_sti_spec h1
    exact lv_istore hx hb hd hL.has (hlt h2) rfl (fun lsB hB => K lsB (hL.set rfl hB))
  | istore_n i =>
    obtain ⟨⟨la, sa⟩, h1, rfl⟩ := xm_osome hst
    obtain ⟨x, rfl, h2, rfl⟩ := xm_sti_spec h1
    exact lv_istore_n hx hb hd rfl hL.has (hlt h2) rfl (fun lsB hB => K lsB (hL.set rfl hB))
  | astore i =>
    obtain ⟨⟨la, sa⟩, h1, rfl⟩ := xm_osome hst
    obtain ⟨x, rfl, h2, rfl⟩ := xm_sta_spec h1
    exact lv_astore hx hb hd hL.has (hlt h2) rfl (fun lsB hB => K lsB (hL.set (x := .ref x) rfl hB))
  | astore_n i =>
    obtain ⟨⟨la, sa⟩, h1, rfl⟩ := xm_osome hst
    obtain ⟨x, rfl, h2, rfl⟩ := xm_sta_spec h1
    exact lv_astore_n hx hb hd rfl hL.has (hlt h2) rfl (fun lsB hB => K lsB (hL.set (x := .ref x) rfl hB))
  | iinc i n =>
    obtain ⟨la, h1, rfl⟩ := xm_osome hst
    obtain ⟨x, h2, rfl⟩ := xm_inc_spec h1
    obtain ⟨k9, hk9⟩ := List.getElem?_of_mem (xm_pr_in.mpr ⟨_, h2, rfl⟩ : (i, xm_v base (.int x)) ∈ xm_pr base ls)
    exact lv_iinc hx hb hd hL.has hk9 rfl (hlt (List.getElem?_eq_some_iff.mp h2).1) rfl (fun lsB hB => K lsB (hL.set (x := .int (x + Int32.ofInt n)) rfl hB))
  | iadd => obtain ⟨z, h1, rfl⟩ := xm_osome hst; obtain ⟨x, y2, r2, rfl, rfl⟩ := xm_bin_spec h1; exact lv_iadd hx hb hd (K lsA hL)
  | isub => obtain ⟨z, h1, rfl⟩ := xm_osome hst; obtain ⟨x, y2, r2, rfl, rfl⟩ := xm_bin_spec h1; exact lv_isub hx hb hd (K lsA hL)
  | imul => obtain ⟨z, h1, rfl⟩ := xm_osome hst; obtain ⟨x, y2, r2, rfl, rfl⟩ := xm_bin_spec h1; exact lv_imul hx hb hd (K lsA hL)
  | iand => obtain ⟨z, h1, rfl⟩ := xm_osome hst; obtain ⟨x, y2, r2, rfl, rfl⟩ := xm_bin_spec h1; exact lv_iand hx hb hd (K lsA hL)
  | ior => obtain ⟨z, h1, rfl⟩ := xm_osome hst; obtain ⟨x, y2, r2, rfl, rfl⟩ := xm_bin_spec h1; exact lv_ior hx hb hd (K lsA hL)
  | ixor => obtain ⟨z, h1, rfl⟩ := xm_osome hst; obtain ⟨x, y2, r2, rfl, rfl⟩ := xm_bin_spec h1; exact lv_ixor hx hb hd (K lsA hL)
  | ishl => obtain ⟨z, h1, rfl⟩ := xm_osome hst; obtain ⟨x, y2, r2, rfl, rfl⟩ := xm_bin_spec h1; exact lv_ishl hx hb hd (K lsA hL)
  | ishr => obtain ⟨z, h1, rfl⟩ := xm_osome hst; obtain ⟨x, y2, r2, rfl, rfl⟩ := xm_bin_spec h1; exact lv_ishr hx hb hd (K lsA hL)
  | iushr => obtain ⟨z, h1, rfl⟩ := xm_osome hst; obtain ⟨x, y2, r2, rfl, rfl⟩ := xm_bin_spec h1; exact lv_iushr hx hb hd rfl (K lsA hL)
  | dup =>
    obtain ⟨z, h1, rfl⟩ := xm_osome hst
    unfold xm_dup at h1
    split at h1
    · split at h1
      · cases h1
        rename_i hc
        exact lv_dup hx hb hd ((xm_v_cat _ _).trans hc) (K lsA hL)
      · cases h1
    · cases h1
  | dup2 =>
    obtain ⟨z, h1, rfl⟩ := xm_osome hst
    unfold xm_dup2 at h1
    split at h1
    · split at h1
      · split at h1
        · cases h1
          rename_i hc1 hc2
          exact lv_dup2_11 hx hb hd ((xm_v_cat _ _).trans hc1) ((xm_v_cat _ _).trans hc2) (K lsA hL)
        · cases h1
      · cases h1
    · cases h1
  | goto f =>
    simp only [xm_stp] at hst
    split at hst
    · cases hst
      rename_i t ht
      exact lv_goto hx hb hd ht (K lsA hL)
    · cases hst
  | _ => cases hst
