/-! law: the call, the reference -/
def fsB (L : List Nat) : Int32 := match L[0]? with
  | some v => nI v
  | none => -4
def aLaw (T : tS) (x w q : Int32) : Int32 := bif zlt x 4 && (zlt w 13 && zlt q 2) then (bif tB (T x.toNatClampNeg).1 (T x.toNatClampNeg).2 then (bif decide (q = nI 0) then fsB (bk (T x.toNatClampNeg).1 (T x.toNatClampNeg).2 w.toNatClampNeg) else nI (bk (T x.toNatClampNeg).1 (T x.toNatClampNeg).2 w.toNatClampNeg).length) else -2) else -1
theorem qL_law {T : tS} {M : zM} (x w q : Int32) (hC : CS T M) (hT : TO T) : zf_L_law [.ref 0, .int x, .int w, .int q] M = some (some (aLaw T x w q), M) := by
  rcases z3 x (n := 4) (by decide) with h | ⟨t, ht, rfl⟩
  · simp [zf_L_law, zmeth, xm_en, zret, zretz, zretv, zseq, zst, zinc, zkl, zskip, zk, zi, za, zbin, zdiv, zrem, zgi, zgr, zld, zldr, zlen, zn, zc, zcall, zcallv, zrcv, zdo, zdov, zpf, zpfc, zas, zasc, zmin, zmax, zcmp, zcz, zand_e, zor_e, zite_e, zbite_e, zif_e, znot_e, z_add, z_sub, z_mul, z_and, z_or, z_xor, z_shl, z_shr, zcpy, -List.getElem?_cons_succ, zg_0, zg_1, zg_2, zg_3, zg_4, zg_5, zg_6, zg_7, zg_8, zg_9, qL_isTable, zb_ne, h, aLaw]
  · have e := zlt_y ht (by decide)
    have ct : (nI t).toNatClampNeg = t := nI_clamp (by omega)
    have h8 := (hT t ht).1.2
    rcases z3 w (n := 13) (by decide) with hw | ⟨v, hv, rfl⟩
    · simp [zf_L_law, zmeth, xm_en, zret, zretz, zretv, zseq, zst, zinc, zkl, zskip, zk, zi, za, zbin, zdiv, zrem, zgi, zgr, zld, zldr, zlen, zn, zc, zcall, zcallv, zrcv, zdo, zdov, zpf, zpfc, zas, zasc, zmin, zmax, zcmp, zcz, zand_e, zor_e, zite_e, zbite_e, zif_e, znot_e, z_add, z_sub, z_mul, z_and, z_or, z_xor, z_shl, z_shr, zcpy, -List.getElem?_cons_succ, zg_0, zg_1, zg_2, zg_3, zg_4, zg_5, zg_6, zg_7, zg_8, zg_9, qL_isTable, qL_isBelow, zb_ne, e, hw, aLaw]
    · have ew := zlt_y hv (by decide)
      have cv : (nI v).toNatClampNeg = v := nI_clamp (by omega)
      cases hq : zlt q 2 with
      | false => simp [zf_L_law, zmeth, xm_en, zret, zretz, zretv, zseq, zst, zinc, zkl, zskip, zk, zi, za, zbin, zdiv, zrem, zgi, zgr, zld, zldr, zlen, zn, zc, zcall, zcallv, zrcv, zdo, zdov, zpf, zpfc, zas, zasc, zmin, zmax, zcmp, zcz, zand_e, zor_e, zite_e, zbite_e, zif_e, znot_e, z_add, z_sub, z_mul, z_and, z_or, z_xor, z_shl, z_shr, zcpy, -List.getElem?_cons_succ, zg_0, zg_1, zg_2, zg_3, zg_4, zg_5, zg_6, zg_7, zg_8, zg_9, qL_isTable, qL_isBelow, zb_ne, e, ew, hq, aLaw]
      | true =>
        cases hb : tB (T t).1 (T t).2 with
        | false => simp (disch := omega) [zf_L_law, zmeth, xm_en, zret, zretz, zretv, zseq, zst, zinc, zkl, zskip, zk, zi, za, zbin, zdiv, zrem, zgi, zgr, zld, zldr, zlen, zn, zc, zcall, zcallv, zrcv, zdo, zdov, zpf, zpfc, zas, zasc, zmin, zmax, zcmp, zcz, zand_e, zor_e, zite_e, zbite_e, zif_e, znot_e, z_add, z_sub, z_mul, z_and, z_or, z_xor, z_shl, z_shr, zcpy, -List.getElem?_cons_succ, zg_0, zg_1, zg_2, zg_3, zg_4, zg_5, zg_6, zg_7, zg_8, zg_9, zt_0, zt_12, zt_20, zt_26, zt_32, zf_0_0, zf_0_1, zf_0_2, zf_0_3, zf_0_4, zf_12_0, zf_12_1, zf_12_2, zf_12_4, zf_12_5, zf_20_1, zf_20_2, zf_20_3, zf_20_4, zf_20_6, zf_26_0, zf_26_1, zf_26_2, zf_26_3, zf_32_0, zf_32_1, zf_32_3, zf_32_4, zf_32_5, zf_32_6, qL_isTable, qL_isBelow, zb_ne, e, ew, hq, aLaw, ct, hb, zi_1, zf_1, ztb_tag (tb4 ht), qT_isFull (tb4 ht) (hC t ht) (hT t ht)]
        | true =>
          have hf := (tB_iff (hT t ht)).mp hb
          have l1 := qW_look (M := M) (s := true) (tb4 ht) (hC t ht) (hT t ht) hf hv
          have l2 := qW_look (M := M) (s := false) (tb4 ht) (hC t ht) (hT t ht) hf hv
          have z1 : zb true = nI 1 := rfl
          have z2 : zb false = nI 0 := rfl
          rw [z1] at l1
          rw [z2] at l2
          have k1 : zf_Laws_firstBroken [.ref (2 + 2 * t), .int (nI v)] M = some (some (fsB (bk (T t).1 (T t).2 v)), M) := by
            simp [zf_Laws_firstBroken, zmeth, xm_en, zret, zretz, zretv, zseq, zst, zinc, zkl, zskip, zk, zi, za, zbin, zdiv, zrem, zgi, zgr, zld, zldr, zlen, zn, zc, zcall, zcallv, zrcv, zdo, zdov, zpf, zpfc, zas, zasc, zmin, zmax, zcmp, zcz, zand_e, zor_e, zite_e, zbite_e, zif_e, znot_e, z_add, z_sub, z_mul, z_and, z_or, z_xor, z_shl, z_shr, zcpy, -List.getElem?_cons_succ, zg_0, zg_1, zg_2, zg_3, zg_4, zg_5, zg_6, zg_7, zg_8, zg_9, l1, fsB]
            rfl
          have k2 : zf_Laws_countBroken [.ref (2 + 2 * t), .int (nI v)] M = some (some (nI (bk (T t).1 (T t).2 v).length), M) := by
            simp [zf_Laws_countBroken, zmeth, xm_en, zret, zretz, zretv, zseq, zst, zinc, zkl, zskip, zk, zi, za, zbin, zdiv, zrem, zgi, zgr, zld, zldr, zlen, zn, zc, zcall, zcallv, zrcv, zdo, zdov, zpf, zpfc, zas, zasc, zmin, zmax, zcmp, zcz, zand_e, zor_e, zite_e, zbite_e, zif_e, znot_e, z_add, z_sub, z_mul, z_and, z_or, z_xor, z_shl, z_shr, zcpy, -List.getElem?_cons_succ, zg_0, zg_1, zg_2, zg_3, zg_4, zg_5, zg_6, zg_7, zg_8, zg_9, l2]
          have e0 := ze0 q
          cases hz : decide (q = nI 0) with
          | true =>
            rw [hz] at e0
            simp (disch := omega) [zf_L_law, zmeth, xm_en, zret, zretz, zretv, zseq, zst, zinc, zkl, zskip, zk, zi, za, zbin, zdiv, zrem, zgi, zgr, zld, zldr, zlen, zn, zc, zcall, zcallv, zrcv, zdo, zdov, zpf, zpfc, zas, zasc, zmin, zmax, zcmp, zcz, zand_e, zor_e, zite_e, zbite_e, zif_e, znot_e, z_add, z_sub, z_mul, z_and, z_or, z_xor, z_shl, z_shr, zcpy, -List.getElem?_cons_succ, zg_0, zg_1, zg_2, zg_3, zg_4, zg_5, zg_6, zg_7, zg_8, zg_9, zt_0, zt_12, zt_20, zt_26, zt_32, zf_0_0, zf_0_1, zf_0_2, zf_0_3, zf_0_4, zf_12_0, zf_12_1, zf_12_2, zf_12_4, zf_12_5, zf_20_1, zf_20_2, zf_20_3, zf_20_4, zf_20_6, zf_26_0, zf_26_1, zf_26_2, zf_26_3, zf_32_0, zf_32_1, zf_32_3, zf_32_4, zf_32_5, zf_32_6, qL_isTable, qL_isBelow, zb_ne, e, ew, hq, aLaw, ct, cv, hb, zi_1, zf_1, ztb_tag (tb4 ht), qT_isFull (tb4 ht) (hC t ht) (hT t ht), e0, hz, k1]
          | false =>
            rw [hz] at e0
            simp (disch := omega) [zf_L_law, zmeth, xm_en, zret, zretz, zretv, zseq, zst, zinc, zkl, zskip, zk, zi, za, zbin, zdiv, zrem, zgi, zgr, zld, zldr, zlen, zn, zc, zcall, zcallv, zrcv, zdo, zdov, zpf, zpfc, zas, zasc, zmin, zmax, zcmp, zcz, zand_e, zor_e, zite_e, zbite_e, zif_e, znot_e, z_add, z_sub, z_mul, z_and, z_or, z_xor, z_shl, z_shr, zcpy, -List.getElem?_cons_succ, zg_0, zg_1, zg_2, zg_3, zg_4, zg_5, zg_6, zg_7, zg_8, zg_9, zt_0, zt_12, zt_20, zt_26, zt_32, zf_0_0, zf_0_1, zf_0_2, zf_0_3, zf_0_4, zf_12_0, zf_12_1, zf_12_2, zf_12_4, zf_12_5, zf_20_1, zf_20_2, zf_20_3, zf_20_4, zf_20_6, zf_26_0, zf_26_1, zf_26_2, zf_26_3, zf_32_0, zf_32_1, zf_32_3, zf_32_4, zf_32_5, zf_32_6, qL_isTable, qL_isBelow, zb_ne, e, ew, hq, aLaw, ct, cv, hb, zi_1, zf_1, ztb_tag (tb4 ht), qT_isFull (tb4 ht) (hC t ht) (hT t ht), e0, hz, k2]
theorem fsB_s {L : List Nat} {v : Nat} (hL : ∀ u ∈ L, u < 2 ^ 31) : (bif xe_cd .lt (fsB L) 0 then nI v else fsB L) = fsB (L ++ [v]) := by
  cases L with
  | nil =>
    have : xe_cd .lt (fsB []) 0 = true := by
      show xe_cd .lt (-4) 0 = true
      decide
    rw [this]
    rfl
  | cons u l =>
    have : xe_cd .lt (fsB (u :: l)) 0 = false := zc_lt0 (hL u List.mem_cons_self)
    rw [this]
    rfl
theorem bk3_lt {n w x y z v : Nat} {c : tC} (h8 : n ≤ 8) (hx : x < n) (hy : y < n) (hz : z < n) (h : v ∈ bk3 n c w x y z) : v < 1000 := by
  unfold bk3 at h
  cases hq : lwB n c w x y z with
  | true => rw [hq] at h; simp at h
  | false =>
    rw [hq] at h
    simp only [cond_false, List.mem_singleton] at h
    have a1 : n * n ≤ 8 * 8 := Nat.mul_le_mul h8 h8
    have a2 : n * n * x ≤ 8 * 8 * 7 := Nat.mul_le_mul a1 (by omega)
    have a3 : n * y ≤ 8 * 7 := Nat.mul_le_mul h8 (by omega)
    omega
/-- what is kept of the cases so far -/
def lsW (t n w : Nat) (q : Int32) (L : List Nat) (x y z : Option Value) : zL := [some (Value.ref (32)), some (Value.int (nI t)), some (Value.int (nI w)), some (Value.int (q)), some (Value.int (nI n)), some (Value.int (fsB L)), some (Value.int (nI L.length)), x, y, z]
theorem qM_law3 {M : zM} {t n w x y : Nat} {c : tC} {q : Int32} {L : List Nat} (ht : t < 6) (h : rT M t n c) (ho : tO n c) (hf : tF n c) (hw : w < 13) (hx : x < n) (hy : y < n) (hL : (∀ u ∈ L, u < 1000) ∧ L.length ≤ 1000) : zwh zc_M_law_3 zs_M_law_3 (lsW t n w q L (some (.int (nI x))) (some (.int (nI y))) (some (.int (nI 0)))) M = some (none, lsW t n w q (L ++ bk2 n c w x y) (some (.int (nI x))) (some (.int (nI y))) (some (.int (nI (lwZ n w)))), M) := by
  have h8 := ho.1.2
  have zl := lwZ_le (w := w) ho.1.1
  have lm := qW_lm (M := M) hw
  have lb : lwL w ≤ 3 := by
    match w, hw with
    | 0, _ => decide
    | 1, _ => decide
    | 2, _ => decide
    | 3, _ => decide
    | 4, _ => decide
    | 5, _ => decide
    | 6, _ => decide
    | 7, _ => decide
    | 8, _ => decide
    | 9, _ => decide
    | 10, _ => decide
    | 11, _ => decide
    | 12, _ => decide
  have ez : (bif decide (2 < lwL w) then nI n else nI 1) = nI (lwZ n w) := by
    unfold lwZ
    by_cases q : 2 < lwL w
    · rw [decide_eq_true q, if_pos q]; rfl
    · rw [decide_eq_false q, if_neg q]; rfl
  have R := zwh_up (c := zc_M_law_3) (s := zs_M_law_3) (fun j => lsW t n w q (L ++ segs (bk3 n c w x y) 0 j) (some (.int (nI x))) (some (.int (nI y))) (some (.int (nI j)))) (fun _ => M) (n := lwZ n w) (lwZ n w) 0 (by omega) ?_ ?_ ?_
  · have e0 : L ++ segs (bk3 n c w x y) 0 0 = L := by simp [segs]
    rw [e0] at R
    exact R
  · intro j _ h2
    simp (disch := omega) [zc_M_law_3, lsW, zmeth, xm_en, zret, zretz, zretv, zseq, zst, zinc, zkl, zskip, zk, zi, za, zbin, zdiv, zrem, zgi, zgr, zld, zldr, zlen, zn, zc, zcall, zcallv, zrcv, zdo, zdov, zpf, zpfc, zas, zasc, zmin, zmax, zcmp, zcz, zand_e, zor_e, zite_e, zbite_e, zif_e, znot_e, z_add, z_sub, z_mul, z_and, z_or, z_xor, z_shl, z_shr, zcpy, -List.getElem?_cons_succ, zg_0, zg_1, zg_2, zg_3, zg_4, zg_5, zg_6, zg_7, zg_8, zg_9, zc_gt, lm, zbm3, zbm4, ez, zc_lt, h2]
  · intro j _ h2
    have g := qW_m (M := M) (z := j) ht h ho hf hx hy (by omega) hw
    have e1 : L ++ segs (bk3 n c w x y) 0 (j + 1) = (L ++ segs (bk3 n c w x y) 0 j) ++ bk3 n c w x y j := by rw [segs_snoc, Nat.zero_add, List.append_assoc]
    have hl : ∀ u ∈ L ++ segs (bk3 n c w x y) 0 j, u < 2 ^ 31 := fun u hu => by
      rcases List.mem_append.mp hu with z | z
      · have := hL.1 u z; omega
      · obtain ⟨i, i1, i2, i3⟩ := segs_mem _ _ z
        have := bk3_lt h8 hx hy (show i < n by omega) i3
        omega
    rw [e1]
    generalize L ++ segs (bk3 n c w x y) 0 j = P at hl ⊢
    unfold bk3
    cases hq : lwB n c w x y j with
    | true =>
      rw [hq] at g
      simp (disch := omega) [zs_M_law_3, lsW, zmeth, xm_en, zret, zretz, zretv, zseq, zst, zinc, zkl, zskip, zk, zi, za, zbin, zdiv, zrem, zgi, zgr, zld, zldr, zlen, zn, zc, zcall, zcallv, zrcv, zdo, zdov, zpf, zpfc, zas, zasc, zmin, zmax, zcmp, zcz, zand_e, zor_e, zite_e, zbite_e, zif_e, znot_e, z_add, z_sub, z_mul, z_and, z_or, z_xor, z_shl, z_shr, zcpy, -List.getElem?_cons_succ, zg_0, zg_1, zg_2, zg_3, zg_4, zg_5, zg_6, zg_7, zg_8, zg_9, zt_0, zt_12, zt_20, zt_26, zt_32, zf_0_0, zf_0_1, zf_0_2, zf_0_3, zf_0_4, zf_12_0, zf_12_1, zf_12_2, zf_12_4, zf_12_5, zf_20_1, zf_20_2, zf_20_3, zf_20_4, zf_20_6, zf_26_0, zf_26_1, zf_26_2, zf_26_3, zf_32_0, zf_32_1, zf_32_3, zf_32_4, zf_32_5, zf_32_6, g, zb_ne, nI_1]
    | false =>
      rw [hq] at g
      have f := fsB_s (v := n * n * x + n * y + j) hl
      simp (disch := omega) [zs_M_law_3, lsW, zmeth, xm_en, zret, zretz, zretv, zseq, zst, zinc, zkl, zskip, zk, zi, za, zbin, zdiv, zrem, zgi, zgr, zld, zldr, zlen, zn, zc, zcall, zcallv, zrcv, zdo, zdov, zpf, zpfc, zas, zasc, zmin, zmax, zcmp, zcz, zand_e, zor_e, zite_e, zbite_e, zif_e, znot_e, z_add, z_sub, z_mul, z_and, z_or, z_xor, z_shl, z_shr, zcpy, -List.getElem?_cons_succ, zg_0, zg_1, zg_2, zg_3, zg_4, zg_5, zg_6, zg_7, zg_8, zg_9, zt_0, zt_12, zt_20, zt_26, zt_32, zf_0_0, zf_0_1, zf_0_2, zf_0_3, zf_0_4, zf_12_0, zf_12_1, zf_12_2, zf_12_4, zf_12_5, zf_20_1, zf_20_2, zf_20_3, zf_20_4, zf_20_6, zf_26_0, zf_26_1, zf_26_2, zf_26_3, zf_32_0, zf_32_1, zf_32_3, zf_32_4, zf_32_5, zf_32_6, g, zb_ne, nI_1, nI3, zbm3, zbm4, f]
  · simp (disch := omega) [zc_M_law_3, lsW, zmeth, xm_en, zret, zretz, zretv, zseq, zst, zinc, zkl, zskip, zk, zi, za, zbin, zdiv, zrem, zgi, zgr, zld, zldr, zlen, zn, zc, zcall, zcallv, zrcv, zdo, zdov, zpf, zpfc, zas, zasc, zmin, zmax, zcmp, zcz, zand_e, zor_e, zite_e, zbite_e, zif_e, znot_e, z_add, z_sub, z_mul, z_and, z_or, z_xor, z_shl, z_shr, zcpy, -List.getElem?_cons_succ, zg_0, zg_1, zg_2, zg_3, zg_4, zg_5, zg_6, zg_7, zg_8, zg_9, zc_gt, lm, zbm3, zbm4, ez, zc_lt]
theorem bk2_mem {n w x y v : Nat} {c : tC} (h1 : 1 ≤ n) (h8 : n ≤ 8) (hx : x < n) (hy : y < n) (h : v ∈ bk2 n c w x y) : v < 1000 := by
  obtain ⟨i, i1, i2, i3⟩ := segs_mem _ _ h
  have := lwZ_le (w := w) h1
  exact bk3_lt h8 hx hy (show i < n by omega) i3
theorem bk1_mem {n w x v : Nat} {c : tC} (h1 : 1 ≤ n) (h8 : n ≤ 8) (hx : x < n) (h : v ∈ bk1 n c w x) : v < 1000 := by
  obtain ⟨i, i1, i2, i3⟩ := segs_mem _ _ h
  have := lwY_le (w := w) h1
  exact bk2_mem h1 h8 hx (show i < n by omega) i3
theorem lwL_le (w : Nat) (hw : w < 13) : lwL w ≤ 3 := by
  match w, hw with
  | 0, _ => decide
  | 1, _ => decide
  | 2, _ => decide
  | 3, _ => decide
  | 4, _ => decide
  | 5, _ => decide
  | 6, _ => decide
  | 7, _ => decide
  | 8, _ => decide
  | 9, _ => decide
  | 10, _ => decide
  | 11, _ => decide
  | 12, _ => decide
theorem qM_law2 {M : zM} {t n w x : Nat} {c : tC} {q : Int32} {L : List Nat} (ht : t < 6) (h : rT M t n c) (ho : tO n c) (hf : tF n c) (hw : w < 13) (hx : x < n) (hL : (∀ u ∈ L, u < 1000) ∧ L.length ≤ 900) : zwh zc_M_law_2 zs_M_law_2 (lsW t n w q L (some (.int (nI x))) (some (.int (nI 0))) none) M = some (none, lsW t n w q (L ++ bk1 n c w x) (some (.int (nI x))) (some (.int (nI (lwY n w)))) none, M) := by
  have h8 := ho.1.2
  have h1 := ho.1.1
  have yl := lwY_le (w := w) h1
  have lm := qW_lm (M := M) hw
  have lb := lwL_le w hw
  have ey : (bif decide (1 < lwL w) then nI n else nI 1) = nI (lwY n w) := by
    unfold lwY
    by_cases q : 1 < lwL w
    · rw [decide_eq_true q, if_pos q]; rfl
    · rw [decide_eq_false q, if_neg q]; rfl
  have R := zwh_up (c := zc_M_law_2) (s := zs_M_law_2) (fun j => lsW t n w q (L ++ segs (bk2 n c w x) 0 j) (some (.int (nI x))) (some (.int (nI j))) none) (fun _ => M) (n := lwY n w) (lwY n w) 0 (by omega) ?_ ?_ ?_
  · have e0 : L ++ segs (bk2 n c w x) 0 0 = L := by simp [segs]
    rw [e0] at R
    exact R
  · intro j _ h2
    simp (disch := omega) [zc_M_law_2, lsW, zmeth, xm_en, zret, zretz, zretv, zseq, zst, zinc, zkl, zskip, zk, zi, za, zbin, zdiv, zrem, zgi, zgr, zld, zldr, zlen, zn, zc, zcall, zcallv, zrcv, zdo, zdov, zpf, zpfc, zas, zasc, zmin, zmax, zcmp, zcz, zand_e, zor_e, zite_e, zbite_e, zif_e, znot_e, z_add, z_sub, z_mul, z_and, z_or, z_xor, z_shl, z_shr, zcpy, -List.getElem?_cons_succ, zg_0, zg_1, zg_2, zg_3, zg_4, zg_5, zg_6, zg_7, zg_8, zg_9, zc_gt, lm, zbm3, zbm4, ey, zc_lt, h2]
  · intro j _ h2
    have sl := segs_len (g := bk2 n c w x) (b := 8) j 0 (fun j => bk2_len h1 h8 c w x j)
    have e1 : L ++ segs (bk2 n c w x) 0 (j + 1) = (L ++ segs (bk2 n c w x) 0 j) ++ bk2 n c w x j := by rw [segs_snoc, Nat.zero_add, List.append_assoc]
    have g := qM_law3 (L := L ++ segs (bk2 n c w x) 0 j) (q := q) ht h ho hf hw hx (show j < n by omega) ⟨fun u hu => by
      rcases List.mem_append.mp hu with z | z
      · exact hL.1 u z
      · obtain ⟨i, i1, i2, i3⟩ := segs_mem _ _ z
        exact bk2_mem h1 h8 hx (show i < n by omega) i3, by rw [List.length_append]; omega⟩
    rw [e1]
    generalize L ++ segs (bk2 n c w x) 0 j = P at g ⊢
    unfold lsW at g ⊢
    simp (disch := omega) [zs_M_law_2, zmeth, xm_en, zret, zretz, zretv, zseq, zst, zinc, zkl, zskip, zk, zi, za, zbin, zdiv, zrem, zgi, zgr, zld, zldr, zlen, zn, zc, zcall, zcallv, zrcv, zdo, zdov, zpf, zpfc, zas, zasc, zmin, zmax, zcmp, zcz, zand_e, zor_e, zite_e, zbite_e, zif_e, znot_e, z_add, z_sub, z_mul, z_and, z_or, z_xor, z_shl, z_shr, zcpy, -List.getElem?_cons_succ, zg_0, zg_1, zg_2, zg_3, zg_4, zg_5, zg_6, zg_7, zg_8, zg_9, g, nI_1]
  · simp (disch := omega) [zc_M_law_2, lsW, zmeth, xm_en, zret, zretz, zretv, zseq, zst, zinc, zkl, zskip, zk, zi, za, zbin, zdiv, zrem, zgi, zgr, zld, zldr, zlen, zn, zc, zcall, zcallv, zrcv, zdo, zdov, zpf, zpfc, zas, zasc, zmin, zmax, zcmp, zcz, zand_e, zor_e, zite_e, zbite_e, zif_e, znot_e, z_add, z_sub, z_mul, z_and, z_or, z_xor, z_shl, z_shr, zcpy, -List.getElem?_cons_succ, zg_0, zg_1, zg_2, zg_3, zg_4, zg_5, zg_6, zg_7, zg_8, zg_9, zc_gt, lm, zbm3, zbm4, ey, zc_lt]
theorem qM_law1 {M : zM} {t n w : Nat} {c : tC} {q : Int32} (ht : t < 6) (h : rT M t n c) (ho : tO n c) (hf : tF n c) (hw : w < 13) : zwh zc_M_law_1 zs_M_law_1 (lsW t n w q [] (some (.int (nI 0))) none none) M = some (none, lsW t n w q (bk n c w) (some (.int (nI n))) none none, M) := by
  have h8 := ho.1.2
  have h1 := ho.1.1
  have R := zwh_up (c := zc_M_law_1) (s := zs_M_law_1) (fun j => lsW t n w q (segs (bk1 n c w) 0 j) (some (.int (nI j))) none none) (fun _ => M) (n := n) n 0 (by omega) ?_ ?_ ?_
  · exact R
  · intro j _ h2
    simp (disch := omega) [zc_M_law_1, lsW, zmeth, xm_en, zret, zretz, zretv, zseq, zst, zinc, zkl, zskip, zk, zi, za, zbin, zdiv, zrem, zgi, zgr, zld, zldr, zlen, zn, zc, zcall, zcallv, zrcv, zdo, zdov, zpf, zpfc, zas, zasc, zmin, zmax, zcmp, zcz, zand_e, zor_e, zite_e, zbite_e, zif_e, znot_e, z_add, z_sub, z_mul, z_and, z_or, z_xor, z_shl, z_shr, zcpy, -List.getElem?_cons_succ, zg_0, zg_1, zg_2, zg_3, zg_4, zg_5, zg_6, zg_7, zg_8, zg_9, zc_lt, h2]
  · intro j _ h2
    have sl := segs_len (g := bk1 n c w) (b := 64) j 0 (fun j => bk1_len h1 h8 c w j)
    have e1 : segs (bk1 n c w) 0 (j + 1) = segs (bk1 n c w) 0 j ++ bk1 n c w j := by rw [segs_snoc, Nat.zero_add]
    have g := qM_law2 (L := segs (bk1 n c w) 0 j) (q := q) ht h ho hf hw h2 ⟨fun u hu => by
      obtain ⟨i, i1, i2, i3⟩ := segs_mem _ _ hu
      exact bk1_mem h1 h8 (show i < n by omega) i3, by omega⟩
    rw [e1]
    generalize segs (bk1 n c w) 0 j = P at g ⊢
    unfold lsW at g ⊢
    simp (disch := omega) [zs_M_law_1, zmeth, xm_en, zret, zretz, zretv, zseq, zst, zinc, zkl, zskip, zk, zi, za, zbin, zdiv, zrem, zgi, zgr, zld, zldr, zlen, zn, zc, zcall, zcallv, zrcv, zdo, zdov, zpf, zpfc, zas, zasc, zmin, zmax, zcmp, zcz, zand_e, zor_e, zite_e, zbite_e, zif_e, znot_e, z_add, z_sub, z_mul, z_and, z_or, z_xor, z_shl, z_shr, zcpy, -List.getElem?_cons_succ, zg_0, zg_1, zg_2, zg_3, zg_4, zg_5, zg_6, zg_7, zg_8, zg_9, g, nI_1]
  · simp (disch := omega) [zc_M_law_1, lsW, zmeth, xm_en, zret, zretz, zretv, zseq, zst, zinc, zkl, zskip, zk, zi, za, zbin, zdiv, zrem, zgi, zgr, zld, zldr, zlen, zn, zc, zcall, zcallv, zrcv, zdo, zdov, zpf, zpfc, zas, zasc, zmin, zmax, zcmp, zcz, zand_e, zor_e, zite_e, zbite_e, zif_e, znot_e, z_add, z_sub, z_mul, z_and, z_or, z_xor, z_shl, z_shr, zcpy, -List.getElem?_cons_succ, zg_0, zg_1, zg_2, zg_3, zg_4, zg_5, zg_6, zg_7, zg_8, zg_9, zc_lt]
theorem qM_law {T : tS} {M : zM} (x w q : Int32) (hR : RS T M) (hT : TO T) : zf_M_law [.ref 32, .int x, .int w, .int q] M = some (some (aLaw T x w q), M) := by
  rcases z3 x (n := 4) (by decide) with h | ⟨t, ht, rfl⟩
  · simp [zf_M_law, zmeth, xm_en, zret, zretz, zretv, zseq, zst, zinc, zkl, zskip, zk, zi, za, zbin, zdiv, zrem, zgi, zgr, zld, zldr, zlen, zn, zc, zcall, zcallv, zrcv, zdo, zdov, zpf, zpfc, zas, zasc, zmin, zmax, zcmp, zcz, zand_e, zor_e, zite_e, zbite_e, zif_e, znot_e, z_add, z_sub, z_mul, z_and, z_or, z_xor, z_shl, z_shr, zcpy, -List.getElem?_cons_succ, zg_0, zg_1, zg_2, zg_3, zg_4, zg_5, zg_6, zg_7, zg_8, zg_9, qM_isTable, zb_ne, h, aLaw]
  · have e := zlt_y ht (by decide)
    have ct : (nI t).toNatClampNeg = t := nI_clamp (by omega)
    have h8 := (hT t ht).1.2
    have h6 : t < 6 := by omega
    have iw : ∀ w, zf_M_in [.int w, .int (nI 0), .int (nI 12)] M = some (some (zb (zlt w 13)), M) := fun w => by rw [qM_in, zin0 w (by decide)]
    have iq : ∀ w, zf_M_in [.int w, .int (nI 0), .int (nI 1)] M = some (some (zb (zlt w 2)), M) := fun w => by rw [qM_in, zin0 w (by decide)]
    rcases z3 w (n := 13) (by decide) with hw | ⟨v, hv, rfl⟩
    · simp [zf_M_law, zmeth, xm_en, zret, zretz, zretv, zseq, zst, zinc, zkl, zskip, zk, zi, za, zbin, zdiv, zrem, zgi, zgr, zld, zldr, zlen, zn, zc, zcall, zcallv, zrcv, zdo, zdov, zpf, zpfc, zas, zasc, zmin, zmax, zcmp, zcz, zand_e, zor_e, zite_e, zbite_e, zif_e, znot_e, z_add, z_sub, z_mul, z_and, z_or, z_xor, z_shl, z_shr, zcpy, -List.getElem?_cons_succ, zg_0, zg_1, zg_2, zg_3, zg_4, zg_5, zg_6, zg_7, zg_8, zg_9, qM_isTable, iw, zb_ne, e, hw, aLaw]
    · have ew := zlt_y hv (by decide)
      have cv : (nI v).toNatClampNeg = v := nI_clamp (by omega)
      cases hq : zlt q 2 with
      | false => simp [zf_M_law, zmeth, xm_en, zret, zretz, zretv, zseq, zst, zinc, zkl, zskip, zk, zi, za, zbin, zdiv, zrem, zgi, zgr, zld, zldr, zlen, zn, zc, zcall, zcallv, zrcv, zdo, zdov, zpf, zpfc, zas, zasc, zmin, zmax, zcmp, zcz, zand_e, zor_e, zite_e, zbite_e, zif_e, znot_e, z_add, z_sub, z_mul, z_and, z_or, z_xor, z_shl, z_shr, zcpy, -List.getElem?_cons_succ, zg_0, zg_1, zg_2, zg_3, zg_4, zg_5, zg_6, zg_7, zg_8, zg_9, qM_isTable, iw, iq, zb_ne, e, ew, hq, aLaw]
      | true =>
        cases hb : tB (T t).1 (T t).2 with
        | false => simp (disch := omega) [zf_M_law, zmeth, xm_en, zret, zretz, zretv, zseq, zst, zinc, zkl, zskip, zk, zi, za, zbin, zdiv, zrem, zgi, zgr, zld, zldr, zlen, zn, zc, zcall, zcallv, zrcv, zdo, zdov, zpf, zpfc, zas, zasc, zmin, zmax, zcmp, zcz, zand_e, zor_e, zite_e, zbite_e, zif_e, znot_e, z_add, z_sub, z_mul, z_and, z_or, z_xor, z_shl, z_shr, zcpy, -List.getElem?_cons_succ, zg_0, zg_1, zg_2, zg_3, zg_4, zg_5, zg_6, zg_7, zg_8, zg_9, zt_0, zt_12, zt_20, zt_26, zt_32, zf_0_0, zf_0_1, zf_0_2, zf_0_3, zf_0_4, zf_12_0, zf_12_1, zf_12_2, zf_12_4, zf_12_5, zf_20_1, zf_20_2, zf_20_3, zf_20_4, zf_20_6, zf_26_0, zf_26_1, zf_26_2, zf_26_3, zf_32_0, zf_32_1, zf_32_3, zf_32_4, zf_32_5, zf_32_6, qM_isTable, iw, iq, zb_ne, e, ew, hq, aLaw, ct, hb, qM_isFull h6 (hR t ht) h8]
        | true =>
          have hf := (tB_iff (hT t ht)).mp hb
          have g := qM_law1 (M := M) (q := q) h6 (hR t ht) (hT t ht) hf hv
          have f0 : fsB [] = -4 := rfl
          simp only [lsW, List.length_nil, f0] at g
          have e0 := ze0 q
          cases hz : decide (q = nI 0) with
          | true =>
            rw [hz] at e0
            simp (disch := omega) [zf_M_law, zmeth, xm_en, zret, zretz, zretv, zseq, zst, zinc, zkl, zskip, zk, zi, za, zbin, zdiv, zrem, zgi, zgr, zld, zldr, zlen, zn, zc, zcall, zcallv, zrcv, zdo, zdov, zpf, zpfc, zas, zasc, zmin, zmax, zcmp, zcz, zand_e, zor_e, zite_e, zbite_e, zif_e, znot_e, z_add, z_sub, z_mul, z_and, z_or, z_xor, z_shl, z_shr, zcpy, -List.getElem?_cons_succ, zg_0, zg_1, zg_2, zg_3, zg_4, zg_5, zg_6, zg_7, zg_8, zg_9, zt_0, zt_12, zt_20, zt_26, zt_32, zf_0_0, zf_0_1, zf_0_2, zf_0_3, zf_0_4, zf_12_0, zf_12_1, zf_12_2, zf_12_4, zf_12_5, zf_20_1, zf_20_2, zf_20_3, zf_20_4, zf_20_6, zf_26_0, zf_26_1, zf_26_2, zf_26_3, zf_32_0, zf_32_1, zf_32_3, zf_32_4, zf_32_5, zf_32_6, qM_isTable, iw, iq, zb_ne, e, ew, hq, aLaw, ct, cv, hb, qM_isFull h6 (hR t ht) h8, zi_33, (hR t ht).1, g, e0, hz]
          | false =>
            rw [hz] at e0
            simp (disch := omega) [zf_M_law, zmeth, xm_en, zret, zretz, zretv, zseq, zst, zinc, zkl, zskip, zk, zi, za, zbin, zdiv, zrem, zgi, zgr, zld, zldr, zlen, zn, zc, zcall, zcallv, zrcv, zdo, zdov, zpf, zpfc, zas, zasc, zmin, zmax, zcmp, zcz, zand_e, zor_e, zite_e, zbite_e, zif_e, znot_e, z_add, z_sub, z_mul, z_and, z_or, z_xor, z_shl, z_shr, zcpy, -List.getElem?_cons_succ, zg_0, zg_1, zg_2, zg_3, zg_4, zg_5, zg_6, zg_7, zg_8, zg_9, zt_0, zt_12, zt_20, zt_26, zt_32, zf_0_0, zf_0_1, zf_0_2, zf_0_3, zf_0_4, zf_12_0, zf_12_1, zf_12_2, zf_12_4, zf_12_5, zf_20_1, zf_20_2, zf_20_3, zf_20_4, zf_20_6, zf_26_0, zf_26_1, zf_26_2, zf_26_3, zf_32_0, zf_32_1, zf_32_3, zf_32_4, zf_32_5, zf_32_6, qM_isTable, iw, iq, zb_ne, e, ew, hq, aLaw, ct, cv, hb, qM_isFull h6 (hR t ht) h8, zi_33, (hR t ht).1, g, e0, hz]
