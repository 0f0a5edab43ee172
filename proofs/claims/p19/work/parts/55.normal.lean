/-! normal, made, parts -/
theorem tcl_lt {n : Nat} {c : tC} (h : tO n c) (hf : tF n c) : ∀ (k s : Nat), s < 2 ^ n → tcl n c k s < 2 ^ n
  | 0, s, hs => hs
  | k + 1, s, hs => by
    unfold tcl
    split
    · exact hs
    · exact tcl_lt h hf k _ (FS_lt h hf hs)
theorem tCl_lt {n s : Nat} {c : tC} (h : tO n c) (hf : tF n c) (hs : s < 2 ^ n) : tCl n c s < 2 ^ n := tcl_lt h hf _ _ (or1_lt h.1.1 hs)
theorem p31 {n : Nat} (h8 : n ≤ 8) : 2 ^ n < 2 ^ 31 := Nat.lt_of_le_of_lt (p8 h8) (by decide)
theorem qL_isSet {T : tS} {M : zM} {t : Nat} {x : Int32} (hC : CS T M) (hT : TO T) (ht : t < 4) : zf_L_isSet [.ref 0, .int (nI t), .int x] M = some (some (zb (zlt x (2 ^ (T t).1))), M) := by
  have h8 := (hT t ht).1.2
  have s := nI_shl1 (v := (T t).1) (by omega)
  simp (disch := omega) [zf_L_isSet, zmeth, xm_en, zret, zretz, zretv, zseq, zst, zinc, zkl, zskip, zk, zi, za, zbin, zdiv, zrem, zgi, zgr, zld, zldr, zlen, zn, zc, zcall, zcallv, zrcv, zdo, zdov, zpf, zpfc, zas, zasc, zmin, zmax, zcmp, zcz, zand_e, zor_e, zite_e, zbite_e, zif_e, znot_e, z_add, z_sub, z_mul, z_and, z_or, z_xor, z_shl, z_shr, zcpy, -List.getElem?_cons_succ, zg_0, zg_1, zg_2, zg_3, zg_4, zg_5, zg_6, zg_7, zg_8, zg_9, zt_0, zt_12, zt_20, zt_26, zt_32, zf_0_0, zf_0_1, zf_0_2, zf_0_3, zf_0_4, zf_12_0, zf_12_1, zf_12_2, zf_12_4, zf_12_5, zf_20_1, zf_20_2, zf_20_3, zf_20_4, zf_20_6, zf_26_0, zf_26_1, zf_26_2, zf_26_3, zf_32_0, zf_32_1, zf_32_3, zf_32_4, zf_32_5, zf_32_6, zi_1, zf_1, nI_clamp, ztb_tag (tb4 ht), (hC t ht).1, s, qL_isBelow, zb_01]
theorem qM_isSet {T : tS} {M : zM} {t : Nat} {x : Int32} (hR : RS T M) (hT : TO T) (ht : t < 4) : zf_M_isSet [.ref 32, .int (nI t), .int x] M = some (some (zb (zlt x (2 ^ (T t).1))), M) := by
  have h8 := (hT t ht).1.2
  have s := nI_shl1 (v := (T t).1) (by omega)
  have hp := p8 h8
  have h1 : 1 ≤ 2 ^ (T t).1 := Nat.two_pow_pos _
  have e : 2 ^ (T t).1 - 1 + 1 = 2 ^ (T t).1 := by omega
  have z := zin0 x (m := 2 ^ (T t).1 - 1) (by omega)
  rw [e] at z
  simp (disch := omega) [zf_M_isSet, zmeth, xm_en, zret, zretz, zretv, zseq, zst, zinc, zkl, zskip, zk, zi, za, zbin, zdiv, zrem, zgi, zgr, zld, zldr, zlen, zn, zc, zcall, zcallv, zrcv, zdo, zdov, zpf, zpfc, zas, zasc, zmin, zmax, zcmp, zcz, zand_e, zor_e, zite_e, zbite_e, zif_e, znot_e, z_add, z_sub, z_mul, z_and, z_or, z_xor, z_shl, z_shr, zcpy, -List.getElem?_cons_succ, zg_0, zg_1, zg_2, zg_3, zg_4, zg_5, zg_6, zg_7, zg_8, zg_9, zt_0, zt_12, zt_20, zt_26, zt_32, zf_0_0, zf_0_1, zf_0_2, zf_0_3, zf_0_4, zf_12_0, zf_12_1, zf_12_2, zf_12_4, zf_12_5, zf_20_1, zf_20_2, zf_20_3, zf_20_4, zf_20_6, zf_26_0, zf_26_1, zf_26_2, zf_26_3, zf_32_0, zf_32_1, zf_32_3, zf_32_4, zf_32_5, zf_32_6, zi_33, nI_clamp, (hR t ht).1, s, nI_m1, qM_in, z, zb_01]
def aFault (n : Nat) (c : tC) (x : Int32) : Int32 := bif zlt x (2 ^ n) then (bif tB n c then (bif isP n c x.toNatClampNeg then nI 0 else -1) else -2) else -1
theorem qL_fault {T : tS} {M : zM} {t : Nat} {x : Int32} (hC : CS T M) (hT : TO T) (ht : t < 4) : zf_L_faultOfPart [.ref 0, .int (nI t), .int x] M = some (some (aFault (T t).1 (T t).2 x), M) := by
  have h8 := (hT t ht).1.2
  have hp := p31 h8
  have i1 := qL_isSet (x := x) hC hT ht
  unfold aFault
  cases hs : zlt x (2 ^ (T t).1) with
  | false =>
    rw [hs] at i1
    simp (disch := omega) [zf_L_faultOfPart, zmeth, xm_en, zret, zretz, zretv, zseq, zst, zinc, zkl, zskip, zk, zi, za, zbin, zdiv, zrem, zgi, zgr, zld, zldr, zlen, zn, zc, zcall, zcallv, zrcv, zdo, zdov, zpf, zpfc, zas, zasc, zmin, zmax, zcmp, zcz, zand_e, zor_e, zite_e, zbite_e, zif_e, znot_e, z_add, z_sub, z_mul, z_and, z_or, z_xor, z_shl, z_shr, zcpy, -List.getElem?_cons_succ, zg_0, zg_1, zg_2, zg_3, zg_4, zg_5, zg_6, zg_7, zg_8, zg_9, zt_0, zt_12, zt_20, zt_26, zt_32, zf_0_0, zf_0_1, zf_0_2, zf_0_3, zf_0_4, zf_12_0, zf_12_1, zf_12_2, zf_12_4, zf_12_5, zf_20_1, zf_20_2, zf_20_3, zf_20_4, zf_20_6, zf_26_0, zf_26_1, zf_26_2, zf_26_3, zf_32_0, zf_32_1, zf_32_3, zf_32_4, zf_32_5, zf_32_6, i1, zb_ne]
  | true =>
    rw [hs] at i1
    obtain ⟨s, hs2, rfl⟩ := zlt_t hp hs
    have cs : (nI s).toNatClampNeg = s := nI_clamp (by omega)
    cases hb : tB (T t).1 (T t).2 with
    | false => simp (disch := omega) [zf_L_faultOfPart, zmeth, xm_en, zret, zretz, zretv, zseq, zst, zinc, zkl, zskip, zk, zi, za, zbin, zdiv, zrem, zgi, zgr, zld, zldr, zlen, zn, zc, zcall, zcallv, zrcv, zdo, zdov, zpf, zpfc, zas, zasc, zmin, zmax, zcmp, zcz, zand_e, zor_e, zite_e, zbite_e, zif_e, znot_e, z_add, z_sub, z_mul, z_and, z_or, z_xor, z_shl, z_shr, zcpy, -List.getElem?_cons_succ, zg_0, zg_1, zg_2, zg_3, zg_4, zg_5, zg_6, zg_7, zg_8, zg_9, zt_0, zt_12, zt_20, zt_26, zt_32, zf_0_0, zf_0_1, zf_0_2, zf_0_3, zf_0_4, zf_12_0, zf_12_1, zf_12_2, zf_12_4, zf_12_5, zf_20_1, zf_20_2, zf_20_3, zf_20_4, zf_20_6, zf_26_0, zf_26_1, zf_26_2, zf_26_3, zf_32_0, zf_32_1, zf_32_3, zf_32_4, zf_32_5, zf_32_6, i1, zb_ne, zi_1, zf_1, nI_clamp, ztb_tag (tb4 ht), qT_isFull (tb4 ht) (hC t ht) (hT t ht), hb]
    | true =>
      have hf := (tB_iff (hT t ht)).mp hb
      have ip := qP_isPart (tb4 ht) (hC t ht) h8 hf hs2
      cases hi : isP (T t).1 (T t).2 s with
      | false => simp (disch := omega) [zf_L_faultOfPart, zmeth, xm_en, zret, zretz, zretv, zseq, zst, zinc, zkl, zskip, zk, zi, za, zbin, zdiv, zrem, zgi, zgr, zld, zldr, zlen, zn, zc, zcall, zcallv, zrcv, zdo, zdov, zpf, zpfc, zas, zasc, zmin, zmax, zcmp, zcz, zand_e, zor_e, zite_e, zbite_e, zif_e, znot_e, z_add, z_sub, z_mul, z_and, z_or, z_xor, z_shl, z_shr, zcpy, -List.getElem?_cons_succ, zg_0, zg_1, zg_2, zg_3, zg_4, zg_5, zg_6, zg_7, zg_8, zg_9, zt_0, zt_12, zt_20, zt_26, zt_32, zf_0_0, zf_0_1, zf_0_2, zf_0_3, zf_0_4, zf_12_0, zf_12_1, zf_12_2, zf_12_4, zf_12_5, zf_20_1, zf_20_2, zf_20_3, zf_20_4, zf_20_6, zf_26_0, zf_26_1, zf_26_2, zf_26_3, zf_32_0, zf_32_1, zf_32_3, zf_32_4, zf_32_5, zf_32_6, i1, zb_ne, zi_1, zf_1, nI_clamp, ztb_tag (tb4 ht), qT_isFull (tb4 ht) (hC t ht) (hT t ht), hb, ip, hi]
      | true => simp (disch := omega) [zf_L_faultOfPart, zmeth, xm_en, zret, zretz, zretv, zseq, zst, zinc, zkl, zskip, zk, zi, za, zbin, zdiv, zrem, zgi, zgr, zld, zldr, zlen, zn, zc, zcall, zcallv, zrcv, zdo, zdov, zpf, zpfc, zas, zasc, zmin, zmax, zcmp, zcz, zand_e, zor_e, zite_e, zbite_e, zif_e, znot_e, z_add, z_sub, z_mul, z_and, z_or, z_xor, z_shl, z_shr, zcpy, -List.getElem?_cons_succ, zg_0, zg_1, zg_2, zg_3, zg_4, zg_5, zg_6, zg_7, zg_8, zg_9, zt_0, zt_12, zt_20, zt_26, zt_32, zf_0_0, zf_0_1, zf_0_2, zf_0_3, zf_0_4, zf_12_0, zf_12_1, zf_12_2, zf_12_4, zf_12_5, zf_20_1, zf_20_2, zf_20_3, zf_20_4, zf_20_6, zf_26_0, zf_26_1, zf_26_2, zf_26_3, zf_32_0, zf_32_1, zf_32_3, zf_32_4, zf_32_5, zf_32_6, i1, zb_ne, zi_1, zf_1, nI_clamp, ztb_tag (tb4 ht), qT_isFull (tb4 ht) (hC t ht) (hT t ht), hb, ip, hi]
/-- the argument is a part of a full table -/
def okP (T : tS) (x y : Int32) : Bool := zlt x 4 && (zlt y (2 ^ (T x.toNatClampNeg).1) && (tB (T x.toNatClampNeg).1 (T x.toNatClampNeg).2 && isP (T x.toNatClampNeg).1 (T x.toNatClampNeg).2 y.toNatClampNeg))
def aNormal (T : tS) (x y : Int32) : Int32 := bif zlt x 4 then (bif okP T x y then zb (tNm (T x.toNatClampNeg).1 (T x.toNatClampNeg).2 y.toNatClampNeg) else aFault (T x.toNatClampNeg).1 (T x.toNatClampNeg).2 y) else -1
theorem aFault_0 {n : Nat} {c : tC} {y : Int32} : xe_cd .ne (aFault n c y) 0 = !(zlt y (2 ^ n) && (tB n c && isP n c y.toNatClampNeg)) := by
  unfold aFault
  cases zlt y (2 ^ n) with
  | false =>
    show xe_cd .ne (-1) 0 = true
    decide
  | true =>
    cases tB n c with
    | false =>
      show xe_cd .ne (-2) 0 = true
      decide
    | true =>
      cases isP n c y.toNatClampNeg with
      | false => decide
      | true => decide
theorem qL_normal {T : tS} {M : zM} (x y : Int32) (hC : CS T M) (hT : TO T) : zf_L_normal [.ref 0, .int x, .int y] M = some (some (aNormal T x y), M) := by
  rcases z3 x (n := 4) (by decide) with h | ⟨t, ht, rfl⟩
  · simp [zf_L_normal, zmeth, xm_en, zret, zretz, zretv, zseq, zst, zinc, zkl, zskip, zk, zi, za, zbin, zdiv, zrem, zgi, zgr, zld, zldr, zlen, zn, zc, zcall, zcallv, zrcv, zdo, zdov, zpf, zpfc, zas, zasc, zmin, zmax, zcmp, zcz, zand_e, zor_e, zite_e, zbite_e, zif_e, znot_e, z_add, z_sub, z_mul, z_and, z_or, z_xor, z_shl, z_shr, zcpy, -List.getElem?_cons_succ, zg_0, zg_1, zg_2, zg_3, zg_4, zg_5, zg_6, zg_7, zg_8, zg_9, qL_isTable, zb_ne, h, aNormal]
  · have e := zlt_y ht (by decide)
    have ct : (nI t).toNatClampNeg = t := nI_clamp (by omega)
    have h8 := (hT t ht).1.2
    have hp := p31 h8
    have fa := qL_fault (x := y) hC hT ht
    have f0 := aFault_0 (n := (T t).1) (c := (T t).2) (y := y)
    cases hk : zlt y (2 ^ (T t).1) && (tB (T t).1 (T t).2 && isP (T t).1 (T t).2 y.toNatClampNeg) with
    | false =>
      rw [hk] at f0
      have hok : okP T (nI t) y = false := by unfold okP; rw [ct, hk, Bool.and_false]
      simp (disch := omega) [zf_L_normal, zmeth, xm_en, zret, zretz, zretv, zseq, zst, zinc, zkl, zskip, zk, zi, za, zbin, zdiv, zrem, zgi, zgr, zld, zldr, zlen, zn, zc, zcall, zcallv, zrcv, zdo, zdov, zpf, zpfc, zas, zasc, zmin, zmax, zcmp, zcz, zand_e, zor_e, zite_e, zbite_e, zif_e, znot_e, z_add, z_sub, z_mul, z_and, z_or, z_xor, z_shl, z_shr, zcpy, -List.getElem?_cons_succ, zg_0, zg_1, zg_2, zg_3, zg_4, zg_5, zg_6, zg_7, zg_8, zg_9, zt_0, zt_12, zt_20, zt_26, zt_32, zf_0_0, zf_0_1, zf_0_2, zf_0_3, zf_0_4, zf_12_0, zf_12_1, zf_12_2, zf_12_4, zf_12_5, zf_20_1, zf_20_2, zf_20_3, zf_20_4, zf_20_6, zf_26_0, zf_26_1, zf_26_2, zf_26_3, zf_32_0, zf_32_1, zf_32_3, zf_32_4, zf_32_5, zf_32_6, qL_isTable, zb_ne, e, aNormal, hok, ct, fa, f0]
    | true =>
      rw [hk] at f0
      have hok : okP T (nI t) y = true := by unfold okP; rw [ct, hk, e]; rfl
      simp only [Bool.and_eq_true] at hk
      obtain ⟨s, hs2, rfl⟩ := zlt_t hp hk.1
      have cs : (nI s).toNatClampNeg = s := nI_clamp (by omega)
      have hf := (tB_iff (hT t ht)).mp hk.2.1
      have nn := qP_isNormal (tb4 ht) (hC t ht) h8 hf (show s < 2 ^ 31 by omega)
      simp (disch := omega) [zf_L_normal, zmeth, xm_en, zret, zretz, zretv, zseq, zst, zinc, zkl, zskip, zk, zi, za, zbin, zdiv, zrem, zgi, zgr, zld, zldr, zlen, zn, zc, zcall, zcallv, zrcv, zdo, zdov, zpf, zpfc, zas, zasc, zmin, zmax, zcmp, zcz, zand_e, zor_e, zite_e, zbite_e, zif_e, znot_e, z_add, z_sub, z_mul, z_and, z_or, z_xor, z_shl, z_shr, zcpy, -List.getElem?_cons_succ, zg_0, zg_1, zg_2, zg_3, zg_4, zg_5, zg_6, zg_7, zg_8, zg_9, zt_0, zt_12, zt_20, zt_26, zt_32, zf_0_0, zf_0_1, zf_0_2, zf_0_3, zf_0_4, zf_12_0, zf_12_1, zf_12_2, zf_12_4, zf_12_5, zf_20_1, zf_20_2, zf_20_3, zf_20_4, zf_20_6, zf_26_0, zf_26_1, zf_26_2, zf_26_3, zf_32_0, zf_32_1, zf_32_3, zf_32_4, zf_32_5, zf_32_6, qL_isTable, zb_ne, e, aNormal, hok, ct, cs, fa, f0, zi_1, zf_1, nI_clamp, nn, zbm3, zbm4, zb_f]
theorem qM_normal {T : tS} {M : zM} (x y : Int32) (hR : RS T M) (hT : TO T) : zf_M_normal [.ref 32, .int x, .int y] M = some (some (aNormal T x y), M) := by
  rcases z3 x (n := 4) (by decide) with h | ⟨t, ht, rfl⟩
  · simp [zf_M_normal, zmeth, xm_en, zret, zretz, zretv, zseq, zst, zinc, zkl, zskip, zk, zi, za, zbin, zdiv, zrem, zgi, zgr, zld, zldr, zlen, zn, zc, zcall, zcallv, zrcv, zdo, zdov, zpf, zpfc, zas, zasc, zmin, zmax, zcmp, zcz, zand_e, zor_e, zite_e, zbite_e, zif_e, znot_e, z_add, z_sub, z_mul, z_and, z_or, z_xor, z_shl, z_shr, zcpy, -List.getElem?_cons_succ, zg_0, zg_1, zg_2, zg_3, zg_4, zg_5, zg_6, zg_7, zg_8, zg_9, qM_isTable, zb_ne, h, aNormal]
  · have e := zlt_y ht (by decide)
    have ct : (nI t).toNatClampNeg = t := nI_clamp (by omega)
    have h8 := (hT t ht).1.2
    have h6 : t < 6 := by omega
    have hp := p31 h8
    have i1 := qM_isSet (x := y) hR hT ht
    cases hs : zlt y (2 ^ (T t).1) with
    | false =>
      rw [hs] at i1
      simp (disch := omega) [zf_M_normal, zmeth, xm_en, zret, zretz, zretv, zseq, zst, zinc, zkl, zskip, zk, zi, za, zbin, zdiv, zrem, zgi, zgr, zld, zldr, zlen, zn, zc, zcall, zcallv, zrcv, zdo, zdov, zpf, zpfc, zas, zasc, zmin, zmax, zcmp, zcz, zand_e, zor_e, zite_e, zbite_e, zif_e, znot_e, z_add, z_sub, z_mul, z_and, z_or, z_xor, z_shl, z_shr, zcpy, -List.getElem?_cons_succ, zg_0, zg_1, zg_2, zg_3, zg_4, zg_5, zg_6, zg_7, zg_8, zg_9, zt_0, zt_12, zt_20, zt_26, zt_32, zf_0_0, zf_0_1, zf_0_2, zf_0_3, zf_0_4, zf_12_0, zf_12_1, zf_12_2, zf_12_4, zf_12_5, zf_20_1, zf_20_2, zf_20_3, zf_20_4, zf_20_6, zf_26_0, zf_26_1, zf_26_2, zf_26_3, zf_32_0, zf_32_1, zf_32_3, zf_32_4, zf_32_5, zf_32_6, qM_isTable, zb_ne, e, aNormal, okP, aFault, ct, hs, i1]
    | true =>
      rw [hs] at i1
      obtain ⟨s, hs2, rfl⟩ := zlt_t hp hs
      have cs : (nI s).toNatClampNeg = s := nI_clamp (by omega)
      cases hb : tB (T t).1 (T t).2 with
      | false => simp (disch := omega) [zf_M_normal, zmeth, xm_en, zret, zretz, zretv, zseq, zst, zinc, zkl, zskip, zk, zi, za, zbin, zdiv, zrem, zgi, zgr, zld, zldr, zlen, zn, zc, zcall, zcallv, zrcv, zdo, zdov, zpf, zpfc, zas, zasc, zmin, zmax, zcmp, zcz, zand_e, zor_e, zite_e, zbite_e, zif_e, znot_e, z_add, z_sub, z_mul, z_and, z_or, z_xor, z_shl, z_shr, zcpy, -List.getElem?_cons_succ, zg_0, zg_1, zg_2, zg_3, zg_4, zg_5, zg_6, zg_7, zg_8, zg_9, zt_0, zt_12, zt_20, zt_26, zt_32, zf_0_0, zf_0_1, zf_0_2, zf_0_3, zf_0_4, zf_12_0, zf_12_1, zf_12_2, zf_12_4, zf_12_5, zf_20_1, zf_20_2, zf_20_3, zf_20_4, zf_20_6, zf_26_0, zf_26_1, zf_26_2, zf_26_3, zf_32_0, zf_32_1, zf_32_3, zf_32_4, zf_32_5, zf_32_6, qM_isTable, zb_ne, e, aNormal, okP, aFault, ct, cs, hs, i1, qM_isFull h6 (hR t ht) h8, hb]
      | true =>
        have hf := (tB_iff (hT t ht)).mp hb
        obtain ⟨c1, c2⟩ := qM_closed h6 (hR t ht) (hT t ht) hf hs2
        have c3 := isP_iff (hT t ht) hf c2
        have c4 := tCl_lt (hT t ht) hf hs2
        have nn := qM_isNormal h6 (hR t ht) h8 hf (show s < 2 ^ 31 by omega)
        have c5 : xe_cd .ne (nI (tCl (T t).1 (T t).2 s)) (nI s) = !isP (T t).1 (T t).2 s := by rw [zc_ne (by omega) (by omega), c3]
        cases hi : isP (T t).1 (T t).2 s with
        | false =>
          rw [hi] at c5
          simp (disch := omega) [zf_M_normal, zmeth, xm_en, zret, zretz, zretv, zseq, zst, zinc, zkl, zskip, zk, zi, za, zbin, zdiv, zrem, zgi, zgr, zld, zldr, zlen, zn, zc, zcall, zcallv, zrcv, zdo, zdov, zpf, zpfc, zas, zasc, zmin, zmax, zcmp, zcz, zand_e, zor_e, zite_e, zbite_e, zif_e, znot_e, z_add, z_sub, z_mul, z_and, z_or, z_xor, z_shl, z_shr, zcpy, -List.getElem?_cons_succ, zg_0, zg_1, zg_2, zg_3, zg_4, zg_5, zg_6, zg_7, zg_8, zg_9, zt_0, zt_12, zt_20, zt_26, zt_32, zf_0_0, zf_0_1, zf_0_2, zf_0_3, zf_0_4, zf_12_0, zf_12_1, zf_12_2, zf_12_4, zf_12_5, zf_20_1, zf_20_2, zf_20_3, zf_20_4, zf_20_6, zf_26_0, zf_26_1, zf_26_2, zf_26_3, zf_32_0, zf_32_1, zf_32_3, zf_32_4, zf_32_5, zf_32_6, qM_isTable, zb_ne, e, aNormal, okP, aFault, ct, cs, hs, i1, qM_isFull h6 (hR t ht) h8, hb, c1, c5, hi]
        | true =>
          rw [hi] at c5
          simp (disch := omega) [zf_M_normal, zmeth, xm_en, zret, zretz, zretv, zseq, zst, zinc, zkl, zskip, zk, zi, za, zbin, zdiv, zrem, zgi, zgr, zld, zldr, zlen, zn, zc, zcall, zcallv, zrcv, zdo, zdov, zpf, zpfc, zas, zasc, zmin, zmax, zcmp, zcz, zand_e, zor_e, zite_e, zbite_e, zif_e, znot_e, z_add, z_sub, z_mul, z_and, z_or, z_xor, z_shl, z_shr, zcpy, -List.getElem?_cons_succ, zg_0, zg_1, zg_2, zg_3, zg_4, zg_5, zg_6, zg_7, zg_8, zg_9, zt_0, zt_12, zt_20, zt_26, zt_32, zf_0_0, zf_0_1, zf_0_2, zf_0_3, zf_0_4, zf_12_0, zf_12_1, zf_12_2, zf_12_4, zf_12_5, zf_20_1, zf_20_2, zf_20_3, zf_20_4, zf_20_6, zf_26_0, zf_26_1, zf_26_2, zf_26_3, zf_32_0, zf_32_1, zf_32_3, zf_32_4, zf_32_5, zf_32_6, qM_isTable, zb_ne, e, aNormal, okP, aFault, ct, cs, hs, i1, qM_isFull h6 (hR t ht) h8, hb, c1, c5, hi, nn, zbm3, zbm4, zb_f]
