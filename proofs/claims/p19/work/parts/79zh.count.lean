/-! name: as many renamings lead to the name as leave the table -/
theorem nd_map {α β : Type} {f : α → β} : ∀ {l : List α}, l.Nodup → (∀ x y, x ∈ l → y ∈ l → f x = f y → x = y) → (l.map f).Nodup
  | [], _, _ => List.nodup_nil
  | a :: l, h, q => by
    have n2 := List.nodup_cons.mp h
    refine List.nodup_cons.mpr ⟨fun z => ?_, nd_map n2.2 (fun x y hx hy => q x y (List.mem_cons_of_mem _ hx) (List.mem_cons_of_mem _ hy))⟩
    obtain ⟨b, b1, b2⟩ := List.mem_map.mp z
    have := q b a (List.mem_cons_of_mem _ b1) (List.mem_cons_self ..) b2
    subst this
    exact n2.1 b1
theorem nd_filter {α : Type} {p : α → Bool} : ∀ {l : List α}, l.Nodup → (l.filter p).Nodup
  | [], _ => List.nodup_nil
  | a :: l, h => by
    have n2 := List.nodup_cons.mp h
    rw [List.filter_cons]
    split
    · exact List.nodup_cons.mpr ⟨fun z => n2.1 (List.mem_filter.mp z).1, nd_filter n2.2⟩
    · exact nd_filter n2.2
theorem cn_le {α : Type} [DecidableEq α] {A B : List α} {p q : α → Bool} (f : α → α) (hA : A.Nodup) (hi : ∀ x y, x ∈ A → y ∈ A → f x = f y → x = y) (h : ∀ x, x ∈ A → p x = true → f x ∈ B ∧ q (f x) = true) : A.countP p ≤ B.countP q := by
  rw [List.countP_eq_length_filter, List.countP_eq_length_filter, ← List.length_map (f := f) (as := A.filter p)]
  refine nd_le (nd_map (nd_filter hA) (fun x y hx hy => hi x y (List.mem_filter.mp hx).1 (List.mem_filter.mp hy).1)) (fun x hx => ?_)
  obtain ⟨y, y1, y2⟩ := List.mem_map.mp hx
  obtain ⟨z1, z2⟩ := List.mem_filter.mp y1
  obtain ⟨w1, w2⟩ := h y z1 z2
  rw [← y2]
  exact List.mem_filter.mpr ⟨w1, w2⟩
theorem cmps_nd {n : Nat} : ∀ (d : Nat) (l : List Nat), PP n l → l.length + d = n → (cmps n d l).Nodup
  | 0, l, _, _ => List.nodup_cons.mpr ⟨List.not_mem_nil, List.nodup_nil⟩
  | d + 1, l, hl, e => by
    have up : ∀ x, x < n → x ∉ l → PP n (l ++ [x]) ∧ (l ++ [x]).length + d = n := fun x hx q => ⟨hl.up (by omega) hx q, by rw [List.length_append, List.length_singleton]; omega⟩
    have at1 : ∀ x, x < n → ∀ v, v ∈ (if x ∈ l then [] else cmps n d (l ++ [x])) → gd v l.length = x := fun x hx v hv => by
      by_cases q : x ∈ l
      · rw [if_pos q] at hv
        cases hv
      · rw [if_neg q] at hv
        obtain ⟨_, m, b⟩ := cmps_mem d (l ++ [x]) v (up x hx q).1 (up x hx q).2 hv
        rw [b, List.append_assoc]
        exact gd_new
    have key : ∀ x, x ≤ n → ((List.range x).flatMap (fun y => if y ∈ l then [] else cmps n d (l ++ [y]))).Nodup := by
      intro x
      induction x with
      | zero => exact fun _ => List.nodup_nil
      | succ x ih =>
        intro hx
        rw [List.range_succ, List.flatMap_append, List.flatMap_singleton, List.nodup_append]
        refine ⟨ih (by omega), ?_, fun a ha b hb e => ?_⟩
        · by_cases q : x ∈ l
          · rw [if_pos q]
            exact List.nodup_nil
          · rw [if_neg q]
            exact cmps_nd d (l ++ [x]) (up x (by omega) q).1 (up x (by omega) q).2
        · obtain ⟨y, y1, y2⟩ := List.mem_flatMap.mp ha
          rw [List.mem_range] at y1
          have z1 := at1 y (by omega) a y2
          have z2 := at1 x (by omega) b hb
          rw [e] at z1
          omega
    unfold cmps
    exact key n (Nat.le_refl n)
/-- l behind h -/
def th (n : Nat) (h : Nat → Nat) (l : List Nat) : List Nat := (List.range n).map (fun i => gd l (h i))
theorem th_gd {n i : Nat} {h : Nat → Nat} {l : List Nat} (hi : i < n) : gd (th n h l) i = gd l (h i) := by
  unfold th
  rw [gd_map _ (by rw [List.length_range]; exact hi), gd_rg hi]
theorem th_PL {n : Nat} {h hi : Nat → Nat} {l : List Nat} (h1 : 1 ≤ n) (hl : PL n l) (a : ∀ k, k < n → h k < n ∧ hi (h k) = k) (b : h 0 = 0) : PL n (th n h l) := by
  have ln : (th n h l).length = n := by unfold th; rw [List.length_map, List.length_range]
  refine ⟨ln, nd_gd (fun i j x y e => ?_), fun x hx => ?_, ?_⟩
  · rw [ln] at x y
    rw [th_gd x, th_gd y] at e
    have e2 : h i = h j := by rw [← hl.pg (a i x).1, ← hl.pg (a j y).1, e]
    rw [← (a i x).2, ← (a j y).2, e2]
  · obtain ⟨k, k1, k2⟩ := List.mem_map.mp hx
    rw [← k2]
    exact hl.gl (a k (List.mem_range.mp k1)).1
  · rw [th_gd (by omega), b]
    exact hl.2.2.2
theorem th_px {n x : Nat} {h hi : Nat → Nat} {l : List Nat} (h1 : 1 ≤ n) (hl : PL n l) (a : ∀ k, k < n → h k < n ∧ hi (h k) = k) (b : h 0 = 0) (d : ∀ k, k < n → hi k < n ∧ h (hi k) = k) (hx : x < n) : px (th n h l) x = hi (px l x) := by
  have p := th_PL h1 hl a b
  have q := hl.pl hx
  have e : gd (th n h l) (hi (px l x)) = x := by rw [th_gd (d _ q).1, (d _ q).2, hl.gp hx]
  have := p.pg (d _ q).1
  rw [e] at this
  exact this
theorem th_rn {n : Nat} {c : tC} {h hi : Nat → Nat} {l : List Nat} (h1 : 1 ≤ n) (hf : tF n c) (hl : PL n l) (a : ∀ k, k < n → h k < n ∧ hi (h k) = k) (b : h 0 = 0) (d : ∀ k, k < n → hi k < n ∧ h (hi k) = k) : ∀ i j, i < n → j < n → rn c (th n h l) i j = hi (rn c l (h i) (h j)) := by
  intro i j x y
  show px (th n h l) (c (gd (th n h l) i) (gd (th n h l) j)) = _
  rw [th_gd x, th_gd y, th_px h1 hl a b d (hf _ _ (hl.gl (a i x).1) (hl.gl (a j y).1))]
  rfl
theorem th_inj {n : Nat} {h hi : Nat → Nat} {l m : List Nat} (hl : PL n l) (hm : PL n m) (d : ∀ k, k < n → hi k < n ∧ h (hi k) = k) (e : th n h l = th n h m) : l = m := gd_ext (by rw [hl.1, hm.1]) (fun i q => by
  rw [hl.1] at q
  have z : gd (th n h l) (hi i) = gd (th n h m) (hi i) := by rw [e]
  rw [th_gd (d i q).1, th_gd (d i q).1, (d i q).2] at z
  exact z)
theorem cn_map {α : Type} (f : Nat → α) (p : α → Bool) : ∀ m, ((List.range m).map f).countP p = zsum (fun r => if p (f r) = true then 1 else 0) m
  | 0 => rfl
  | m + 1 => by
    rw [List.range_succ, List.map_append, List.countP_append, cn_map f p m, List.map_singleton, List.countP_singleton]
    rfl
theorem nm_cnt {n : Nat} {c : tC} (hO : tO n c) (hf : tF n c) {lr : Nat → List Nat} (p1 : ∀ r, r < fa (n - 1) → PL n (lr r)) (p2 : ∀ r r', r < fa (n - 1) → r' < fa (n - 1) → lr r = lr r' → r = r') (p3 : ∀ l, PL n l → ∃ r, r < fa (n - 1) ∧ lr r = l) (hN : LEA n c (nmN n c)) : zsum (fun r => if tqb n (rn c (lr r)) c = true then 1 else 0) (fa (n - 1)) = nmA n c := by
  have h1 := hO.1.1
  have h0 := PP_0 h1
  have l0e : ([0] : List Nat).length + (n - 1) = n := by rw [List.length_singleton]; omega
  rw [← cn_map lr (fun l => tqb n (rn c l) c)]
  unfold nmA
  obtain ⟨⟨l0, l1, l2⟩, _⟩ := hN
  have z0 : px l0 0 = 0 := by
    have := l1.pg (i := 0) (by omega)
    rw [l1.2.2.2] at this
    exact this
  have ga : ∀ k, k < n → gd l0 k < n ∧ px l0 (gd l0 k) = k := fun k hk => ⟨l1.gl hk, l1.pg hk⟩
  have gb : ∀ k, k < n → px l0 k < n ∧ gd l0 (px l0 k) = k := fun k hk => ⟨l1.pl hk, l1.gp hk⟩
  have mA : ∀ l, l ∈ (List.range (fa (n - 1))).map lr → PL n l := fun l hl => by
    obtain ⟨r, r1, r2⟩ := List.mem_map.mp hl
    rw [← r2]
    exact p1 r (List.mem_range.mp r1)
  have mB : ∀ l, l ∈ cmps n (n - 1) [0] → PL n l := fun l hl => (cmps_mem (n - 1) [0] l h0 l0e hl).1
  refine Nat.le_antisymm (cn_le (th n (gd l0)) (nd_map List.nodup_range (fun x y hx hy => p2 x y (List.mem_range.mp hx) (List.mem_range.mp hy))) (fun x y hx hy e => th_inj (mA x hx) (mA y hy) gb e) (fun l hl q => ?_)) (cn_le (th n (px l0)) (cmps_nd (n - 1) [0] h0 l0e) (fun x y hx hy e => th_inj (mB x hx) (mB y hy) ga e) (fun l hl q => ?_))
  · have pl := mA l hl
    have pt := th_PL h1 pl ga l1.2.2.2
    refine ⟨cmps_all (n - 1) [0] _ h0 l0e pt (PL_ex0 h1 pt), tqb_t.mpr (fun i j hi hj => ?_)⟩
    rw [th_rn h1 hf pl ga l1.2.2.2 gb i j hi hj, tqb_t.mp q _ _ (ga i hi).1 (ga j hj).1, l2 i j hi hj]
    rfl
  · have pl := mB l hl
    have pt := th_PL h1 pl gb z0
    obtain ⟨r, r1, r2⟩ := p3 _ pt
    refine ⟨List.mem_map.mpr ⟨r, List.mem_range.mpr r1, r2⟩, tqb_t.mpr (fun i j hi hj => ?_)⟩
    rw [th_rn h1 hf pl gb z0 ga i j hi hj, tqb_t.mp q _ _ (gb i hi).1 (gb j hj).1, l2 _ _ (gb i hi).1 (gb j hj).1]
    show gd l0 (px l0 (c (gd l0 (px l0 i)) (gd l0 (px l0 j)))) = c i j
    rw [(gb i hi).2, (gb j hj).2, (gb _ (hf i j hi hj)).2]
theorem qM_name {T : tS} {M : zM} (x y : Int32) (hR : RS T M) (hT : TO T) : ∃ M', zf_M_name [.ref 32, .int x, .int y] M = some (some (aN T x y), M') ∧ RS (sN T x y) M' ∧ TO (sN T x y) ∧ zlo M M' := by
  rcases z3 x (n := 4) (by decide) with h | ⟨s, hs, rfl⟩
  · refine ⟨M, ?_, by simpa [sN, okN, h] using hR, by simpa [sN, okN, h] using hT, zlo.refl M⟩
    simp [zf_M_name, zmeth, xm_en, zret, zretz, zretv, zseq, zst, zinc, zkl, zskip, zk, zi, za, zbin, zdiv, zrem, zgi, zgr, zld, zldr, zlen, zn, zc, zcall, zcallv, zrcv, zdo, zdov, zpf, zpfc, zas, zasc, zmin, zmax, zcmp, zcz, zand_e, zor_e, zite_e, zbite_e, zif_e, znot_e, z_add, z_sub, z_mul, z_and, z_or, z_xor, z_shl, z_shr, zcpy, -List.getElem?_cons_succ, zg_0, zg_1, zg_2, zg_3, zg_4, zg_5, zg_6, zg_7, zg_8, zg_9, qM_isTable, zb_ne, h, aN]
  · have e := zlt_y hs (by decide)
    rcases z3 y (n := 4) (by decide) with h | ⟨t, ht, rfl⟩
    · refine ⟨M, ?_, by simpa [sN, okN, h] using hR, by simpa [sN, okN, h] using hT, zlo.refl M⟩
      simp [zf_M_name, zmeth, xm_en, zret, zretz, zretv, zseq, zst, zinc, zkl, zskip, zk, zi, za, zbin, zdiv, zrem, zgi, zgr, zld, zldr, zlen, zn, zc, zcall, zcallv, zrcv, zdo, zdov, zpf, zpfc, zas, zasc, zmin, zmax, zcmp, zcz, zand_e, zor_e, zite_e, zbite_e, zif_e, znot_e, z_add, z_sub, z_mul, z_and, z_or, z_xor, z_shl, z_shr, zcpy, -List.getElem?_cons_succ, zg_0, zg_1, zg_2, zg_3, zg_4, zg_5, zg_6, zg_7, zg_8, zg_9, qM_isTable, zb_ne, e, h, aN]
    · have e2 := zlt_y ht (by decide)
      have ct : (nI t).toNatClampNeg = t := nI_clamp (by omega)
      have cs : (nI s).toNatClampNeg = s := nI_clamp (by omega)
      have h8 := (hT t ht).1.2
      have h1 := (hT t ht).1.1
      have ft := qM_isFull (show t < 6 by omega) (hR t ht) h8
      cases hb : tB (T t).1 (T t).2 with
      | false =>
        rw [hb] at ft
        have hok : okN T (nI s) (nI t) = false := by simp [okN, ct, hb]
        refine ⟨M, ?_, by simpa [sN, hok] using hR, by simpa [sN, hok] using hT, zlo.refl M⟩
        simp (disch := omega) [zf_M_name, zmeth, xm_en, zret, zretz, zretv, zseq, zst, zinc, zkl, zskip, zk, zi, za, zbin, zdiv, zrem, zgi, zgr, zld, zldr, zlen, zn, zc, zcall, zcallv, zrcv, zdo, zdov, zpf, zpfc, zas, zasc, zmin, zmax, zcmp, zcz, zand_e, zor_e, zite_e, zbite_e, zif_e, znot_e, z_add, z_sub, z_mul, z_and, z_or, z_xor, z_shl, z_shr, zcpy, -List.getElem?_cons_succ, zg_0, zg_1, zg_2, zg_3, zg_4, zg_5, zg_6, zg_7, zg_8, zg_9, zt_0, zt_12, zt_20, zt_26, zt_32, zf_0_0, zf_0_1, zf_0_2, zf_0_3, zf_0_4, zf_12_0, zf_12_1, zf_12_2, zf_12_4, zf_12_5, zf_20_1, zf_20_2, zf_20_3, zf_20_4, zf_20_6, zf_26_0, zf_26_1, zf_26_2, zf_26_3, zf_32_0, zf_32_1, zf_32_3, zf_32_4, zf_32_5, zf_32_6, qM_isTable, zb_ne, e, e2, ct, cs, ft, aN, hok]
      | true =>
        rw [hb] at ft
        have hok : okN T (nI s) (nI t) = true := by simp [okN, ct, hb, e, e2]
        have hf := (tB_iff (hT t ht)).mp hb
        have q0 : zsr M (zcp M 4 t 64) := fun k j z => zcp_out (by omega) (by omega)
        obtain ⟨lr, p1, p2, p3, p4⟩ := rn_all h8 h1
        obtain ⟨B, M1, w1, w2, w3, w4⟩ := qM_nm1 (M0 := zcp M 4 t 64) (s := s) ht (q0.rT ht h8 (hR t ht)) (hT t ht) hf (rT_cp h8 (hR t ht)) p1 p3 p4
        have hN : LEA (T t).1 (T t).2 (nmN (T t).1 (T t).2) := Classical.epsilon_spec (p := LEA (T t).1 (T t).2) ⟨B, w2⟩
        rw [nm_cnt (hT t ht) hf p1 p2 p3 hN] at w1
        have qN := nmN_q h8 w2
        have q1 : zsr M M1 := zsr.trans q0 w4
        refine ⟨zcp M1 s 4 64, ?_, ?_, ?_, ?_⟩
        · have cp := qM_copies (M := M) (s := 4) (t := t) (by omega) (by omega) (by omega)
          have cp2 := qM_copies (M := M1) (s := s) (t := 4) (by omega) (by omega) (by omega)
          simp (disch := omega) [zf_M_name, zmeth, xm_en, zret, zretz, zretv, zseq, zst, zinc, zkl, zskip, zk, zi, za, zbin, zdiv, zrem, zgi, zgr, zld, zldr, zlen, zn, zc, zcall, zcallv, zrcv, zdo, zdov, zpf, zpfc, zas, zasc, zmin, zmax, zcmp, zcz, zand_e, zor_e, zite_e, zbite_e, zif_e, znot_e, z_add, z_sub, z_mul, z_and, z_or, z_xor, z_shl, z_shr, zcpy, -List.getElem?_cons_succ, zg_0, zg_1, zg_2, zg_3, zg_4, zg_5, zg_6, zg_7, zg_8, zg_9, zt_0, zt_12, zt_20, zt_26, zt_32, zf_0_0, zf_0_1, zf_0_2, zf_0_3, zf_0_4, zf_12_0, zf_12_1, zf_12_2, zf_12_4, zf_12_5, zf_20_1, zf_20_2, zf_20_3, zf_20_4, zf_20_6, zf_26_0, zf_26_1, zf_26_2, zf_26_3, zf_32_0, zf_32_1, zf_32_3, zf_32_4, zf_32_5, zf_32_6, qM_isTable, zb_ne, e, e2, ct, cs, ft, aN, hok, cp, cp2, w1]
        · simp only [sN, hok, cond_true, ct, cs]
          exact RS_cp4 hT hs h8 hR q1 (rT_q w3 qN)
        · simp only [sN, hok, cond_true, ct, cs]
          exact TO_set hT (LEA_O (hT t ht) hf hN).1
        · exact zlo.trans q1.lo zlo_cp
