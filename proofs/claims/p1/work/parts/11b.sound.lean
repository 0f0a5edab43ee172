/-! the evaluator is sound -/
theorem xm_opc {y pc : Nat} {o : xm_Op} (h : xm_op y pc = some o) : o.1 = pc := by
  have h1 := List.find?_some h
  simpa using h1
set_option maxHeartbeats 2000000 in
theorem xe_hp {G : xm_G} {l : Launch} {sc : List (Nat × Int32)} {y d mc ms cs zs pc : Nat} {ls : List (Option Value)} {st st' : List Value} {h h' : xm_H} {post : Option Value → xm_H → Prop} {o : xm_Op} (ho : xm_op y pc = some o) (hh : xe_heap sc o st h = some (st', h')) (kk : xm_X G l y d mc ms cs zs (pc + xm_len o.2.1) ls st' h' post) : xm_X G l y d mc ms cs zs pc ls st h post := by
  have e := xm_opc ho
  obtain ⟨q, ins, len, a, b⟩ := o
  dsimp only at e
  subst e
  unfold xe_heap at hh
  dsimp only at hh kk
  split at hh
  · split at hh
    · rename_i k r
      cases hk : h.1[k]? with
      | none => rw [hk] at hh; cases hh
      | some w =>
        obtain ⟨t, N⟩ := w
        rw [hk] at hh
        dsimp only at hh
        split at hh
        · rename_i ht
          subst ht
          split at hh
          · rename_i hI
            cases hh
            exact xm_getI ho hk hI kk
          · rename_i hI
            cases hr : h.2.1 k b with
            | none => rw [hr] at hh; cases hh
            | some q2 =>
              rw [hr] at hh
              cases hh
              exact xm_getR ho hk (by simpa using hI) hr kk
        · cases hh
    · cases hh
  · split at hh
    · rename_i x k r
      cases hk : h.1[k]? with
      | none => rw [hk] at hh; cases hh
      | some w =>
        obtain ⟨t, N⟩ := w
        rw [hk] at hh
        dsimp only at hh
        split at hh
        · rename_i ht
          subst ht
          split at hh
          · rename_i hI
            cases hh
            exact xm_putI ho hk hI kk
          · cases hh
        · cases hh
    · cases hh
  · split at hh
    · rename_i i k r
      cases hk : h.1[k]? with
      | none => rw [hk] at hh; cases hh
      | some w =>
        obtain ⟨t, N⟩ := w
        rw [hk] at hh
        dsimp only at hh
        split at hh
        · rename_i ht
          subst ht
          split at hh
          · cases hh
          · split at hh
            · cases hh
            · cases hh
              rename_i g1 g2
              exact xm_iald ho hk (fun z => z.elim g1 g2) kk
        · cases hh
    · cases hh
  · split at hh
    · rename_i i k r
      cases hk : h.1[k]? with
      | none => rw [hk] at hh; cases hh
      | some w =>
        obtain ⟨t, N⟩ := w
        rw [hk] at hh
        dsimp only at hh
        split at hh
        · rename_i ht
          subst ht
          split at hh
          · cases hh
          · split at hh
            · cases hh
            · cases hh
              rename_i g1 g2
              exact xm_zald ho hk (fun z => z.elim g1 g2) kk
        · cases hh
    · cases hh
  · split at hh
    · rename_i i k r
      cases hk : h.1[k]? with
      | none => rw [hk] at hh; cases hh
      | some w =>
        obtain ⟨t, N⟩ := w
        rw [hk] at hh
        dsimp only at hh
        split at hh
        · rename_i ht
          subst ht
          split at hh
          · cases hh
          · split at hh
            · cases hh
            · rename_i g1 g2
              cases hr : h.2.1 k i.toNatClampNeg with
              | none => rw [hr] at hh; cases hh
              | some q2 =>
                rw [hr] at hh
                cases hh
                exact xm_aald ho hk (fun z => z.elim g1 g2) hr kk
        · cases hh
    · cases hh
  · split at hh
    · rename_i x i k r
      cases hk : h.1[k]? with
      | none => rw [hk] at hh; cases hh
      | some w =>
        obtain ⟨t, N⟩ := w
        rw [hk] at hh
        dsimp only at hh
        split at hh
        · rename_i ht
          subst ht
          split at hh
          · cases hh
          · split at hh
            · cases hh
            · cases hh
              rename_i g1 g2
              exact xm_iast ho hk (fun z => z.elim g1 g2) kk
        · cases hh
    · cases hh
  · split at hh
    · rename_i x i k r
      cases hk : h.1[k]? with
      | none => rw [hk] at hh; cases hh
      | some w =>
        obtain ⟨t, N⟩ := w
        rw [hk] at hh
        dsimp only at hh
        split at hh
        · rename_i ht
          subst ht
          split at hh
          · cases hh
          · split at hh
            · cases hh
            · cases hh
              rename_i g1 g2
              exact xm_zast ho hk (fun z => z.elim g1 g2) kk
        · cases hh
    · cases hh
  · split at hh
    · rename_i k r
      cases hk : h.1[k]? with
      | none => rw [hk] at hh; cases hh
      | some w =>
        obtain ⟨t, N⟩ := w
        rw [hk] at hh
        dsimp only at hh
        split at hh
        · rename_i ht
          subst ht
          cases hh
          exact xm_alen ho hk kk
        · cases hh
    · cases hh
  · split at hh
    · split at hh
      · cases hh
      · cases hh
        rename_i hz
        exact xm_idiv ho hz kk
    · cases hh
  · split at hh
    · split at hh
      · cases hh
      · cases hh
        rename_i hz
        exact xm_irem ho hz kk
    · cases hh
  · cases hh
