/-! ways, end -/
theorem comps_ok {n : Nat} : ∀ (hs : List Nat) (c : tC), tO n c → hOK n hs c → ∀ d ∈ comps n hs c, tO n d
  | [], c, h, _, d, hd => by
    rw [List.mem_singleton.mp hd]
    exact h
  | h :: hs, c, ho, hh, d, hd => by
    have h8 := ho.1.2
    obtain ⟨a, b, eh, ha, hb, hc⟩ := hh.2 h List.mem_cons_self
    have key : ∀ (e i : Nat), i + e = n → ∀ d ∈ sgs (cg n hs h c) i e, ∃ v, v < n ∧ d ∈ cg n hs h c v := by
      intro e
      induction e with
      | zero => intro i _ d hd; simp [sgs] at hd
      | succ e ih =>
        intro i hi d hd
        rcases List.mem_append.mp hd with q | q
        · exact ⟨i, by omega, q⟩
        · exact ih (i + 1) (by omega) d q
    obtain ⟨v, hv, hd⟩ := key n 0 (by omega) d hd
    unfold cg at hd
    cases hok : okv n c h v with
    | false => rw [hok] at hd; simp at hd
    | true =>
      rw [hok, cond_true] at hd
      have e1 : h / 8 = a := by omega
      have e2 : h % 8 = b := by omega
      rw [e1, e2] at hd
      have a1 : 1 ≤ a := by
        rcases Nat.eq_zero_or_pos a with g | g
        · subst g; have := (ho.2.1 b hb).1; omega
        · exact g
      have b1 : 1 ≤ b := by
        rcases Nat.eq_zero_or_pos b with g | g
        · subst g; have := (ho.2.1 a ha).2; omega
        · exact g
      unfold okv at hok
      rw [zall_t, e1, e2] at hok
      refine comps_ok hs _ (tO_cset ho ⟨a1, ha⟩ ⟨b1, hb⟩ (Or.inr ⟨hv, fun x hx => ?_⟩)) (hOK_c h8 hh eh hb) d hd
      have := hok x hx
      simp only [Bool.and_eq_true, Bool.not_eq_true', decide_eq_false_iff_not] at this
      exact this
theorem holes25 {n : Nat} {c : tC} (h : tO n c) (h6 : n ≤ 6) : (holes n c).length ≤ 25 := by
  have := hrows_len h h6 n (Nat.le_refl n)
  have := h.1.1
  unfold holes
  omega
theorem qE_count {M : zM} {k n most : Nat} {c : tC} (hk : ztb k) (h : kT M k n c) (ho : tO n c) (h6 : n ≤ 6) (hm : most < 2 ^ 30) (hm1 : 1 ≤ most) : ∃ M', zf_Endings_count [.ref 12, .ref k, .int (nI most)] M = some (some (nI (min most (comps n (holes n c) c).length)), M') ∧ zsc M M' ∧ (comps n (holes n c) c ≠ [] → kT M' 13 n ((comps n (holes n c) c).getD 0 c)) := by
  have h8 := ho.1.2
  have to := qT_takeOver (M := M) tb15 hk
  have k15 := kT_to (k := 15) tb15 hk h8 h
  have k15b : kT (zup (zup (zto M 15 k) 12 7 (nI most)) 12 6 (nI 0)) 15 n c := k15.same (fun j => by rw [zup_e, if_neg (by omega), zup_e, if_neg (by omega)]) (fun j => by rw [zup_e, if_neg (by omega), zup_e, if_neg (by omega)])
  obtain ⟨M1, l1, l2, l3, l4, l5⟩ := qE_look ho h6 k15b
  have kf : KF M1 n (holes n c) (holes n c) c most 0 := by
    refine ⟨?_, l4, ⟨l2, l3⟩, fun a b ha hb _ => ?_, ?_, ?_⟩
    · rw [l5 _ _ (by omega) (by omega) (by omega) (by omega)]; exact k15b.1
    · rw [l5 _ _ (by omega) (by omega) (by omega) (by omega)]; exact k15b.2 a b ha hb
    · rw [l5 _ _ (by omega) (by omega) (by omega) (by omega), zup_e, if_pos ⟨rfl, rfl⟩]
    · rw [l5 _ _ (by omega) (by omega) (by omega) (by omega), zup_e, if_neg (by omega), zup_e, if_pos ⟨rfl, rfl⟩]
  have h25 := holes25 ho h6
  obtain ⟨M2, f1, f2, f3, f4⟩ := fl_all h8 hm h25 (holes n c) 0 c M1 0 30 rfl (by omega) kf (holes_ok ho) (by omega) (by omega)
  rw [Nat.zero_add] at f2
  refine ⟨M2, ?_, fun q j hq => ?_, fun hR => f4.1 rfl hR⟩
  · simp (disch := omega) [zf_Endings_count, zmeth, xm_en, zret, zretz, zretv, zseq, zst, zinc, zkl, zskip, zk, zi, za, zbin, zdiv, zrem, zgi, zgr, zld, zldr, zlen, zn, zc, zcall, zcallv, zrcv, zdo, zdov, zpf, zpfc, zas, zasc, zmin, zmax, zcmp, zcz, zand_e, zor_e, zite_e, zbite_e, zif_e, znot_e, z_add, z_sub, z_mul, z_and, z_or, z_xor, z_shl, z_shr, zcpy, -List.getElem?_cons_succ, zg_0, zg_1, zg_2, zg_3, zg_4, zg_5, zg_6, zg_7, zg_8, zg_9, zt_0, zt_12, zt_20, zt_26, zt_32, zf_0_0, zf_0_1, zf_0_2, zf_0_3, zf_0_4, zf_12_0, zf_12_1, zf_12_2, zf_12_4, zf_12_5, zf_20_1, zf_20_2, zf_20_3, zf_20_4, zf_20_6, zf_26_0, zf_26_1, zf_26_2, zf_26_3, zf_32_0, zf_32_1, zf_32_3, zf_32_4, zf_32_5, zf_32_6, ztb_tag tb15, to, l1, f1, f2.2.2.2.2.1]
  · rw [f3 q j (by omega) (by omega) (by omega) (by omega) (by omega) (by omega), l5 q j (by omega) (by omega) (by omega) (by omega), zup_e, if_neg (by omega), zup_e, if_neg (by omega)]
    unfold zto
    rw [if_neg (by omega), if_neg (by omega)]
/-! ways -/
def okW (T : tS) (x y : Int32) : Bool := zlt x 4 && (zlt y 10001 && !decide (y = nI 0))
def aWays (T : tS) (x y : Int32) : Int32 := bif okW T x y then (bif decide (6 < (T x.toNatClampNeg).1) then -2 else nI (min y.toNatClampNeg (comps (T x.toNatClampNeg).1 (holes (T x.toNatClampNeg).1 (T x.toNatClampNeg).2) (T x.toNatClampNeg).2).length)) else -1
theorem okw (y : Int32) : (xe_cd .lt y (nI 1) || xe_cd .gt y (nI 10000)) = !(zlt y 10001 && !decide (y = nI 0)) := by
  rw [zlt1_i y (by decide), zgt_i y (by decide), zlt_i y (by decide), z0_i, Bool.eq_iff_iff]
  simp only [Bool.or_eq_true, Bool.not_eq_true', Bool.and_eq_false_iff, decide_eq_true_eq, decide_eq_false_iff_not, Bool.not_eq_false', decide_eq_true_eq]
  omega
theorem nI_min {a b : Nat} : nI (min a b) = nI (min a b) := rfl
theorem ywd {y : Int32} (h : (zlt y 10001 && !decide (y = nI 0)) = true) : ∃ m, y = nI m ∧ 1 ≤ m ∧ m ≤ 10000 := by
  simp only [Bool.and_eq_true, Bool.not_eq_true', decide_eq_false_iff_not] at h
  obtain ⟨m, hm, rfl⟩ := zlt_t (by decide) h.1
  refine ⟨m, rfl, ?_, by omega⟩
  rcases Nat.eq_zero_or_pos m with g | g
  · exact absurd (by rw [g]) h.2
  · exact g
theorem qL_ways {T : tS} {M : zM} (x y : Int32) (hC : CS T M) (hT : TO T) : ∃ M', zf_L_ways [.ref 0, .int x, .int y] M = some (some (aWays T x y), M') ∧ zsc M M' := by
  rcases z3 x (n := 4) (by decide) with h | ⟨t, ht, rfl⟩
  · refine ⟨M, ?_, zsc.refl M⟩
    simp [zf_L_ways, zmeth, xm_en, zret, zretz, zretv, zseq, zst, zinc, zkl, zskip, zk, zi, za, zbin, zdiv, zrem, zgi, zgr, zld, zldr, zlen, zn, zc, zcall, zcallv, zrcv, zdo, zdov, zpf, zpfc, zas, zasc, zmin, zmax, zcmp, zcz, zand_e, zor_e, zite_e, zbite_e, zif_e, znot_e, z_add, z_sub, z_mul, z_and, z_or, z_xor, z_shl, z_shr, zcpy, -List.getElem?_cons_succ, zg_0, zg_1, zg_2, zg_3, zg_4, zg_5, zg_6, zg_7, zg_8, zg_9, qL_isTable, zb_ne, h, aWays, okW]
  · have e := zlt_y ht (by decide)
    have ct : (nI t).toNatClampNeg = t := nI_clamp (by omega)
    have h8 := (hT t ht).1.2
    have ow := okw y
    cases hy : zlt y 10001 && !decide (y = nI 0) with
    | false =>
      rw [hy] at ow
      have hok : okW T (nI t) y = false := by unfold okW; rw [hy, Bool.and_false]
      refine ⟨M, ?_, zsc.refl M⟩
      cases h1 : xe_cd .lt y (nI 1) with
      | true => simp [zf_L_ways, zmeth, xm_en, zret, zretz, zretv, zseq, zst, zinc, zkl, zskip, zk, zi, za, zbin, zdiv, zrem, zgi, zgr, zld, zldr, zlen, zn, zc, zcall, zcallv, zrcv, zdo, zdov, zpf, zpfc, zas, zasc, zmin, zmax, zcmp, zcz, zand_e, zor_e, zite_e, zbite_e, zif_e, znot_e, z_add, z_sub, z_mul, z_and, z_or, z_xor, z_shl, z_shr, zcpy, -List.getElem?_cons_succ, zg_0, zg_1, zg_2, zg_3, zg_4, zg_5, zg_6, zg_7, zg_8, zg_9, qL_isTable, zb_ne, e, h1, aWays, hok]
      | false =>
        have h2 : xe_cd .gt y (nI 10000) = true := by simpa [h1] using ow
        simp [zf_L_ways, zmeth, xm_en, zret, zretz, zretv, zseq, zst, zinc, zkl, zskip, zk, zi, za, zbin, zdiv, zrem, zgi, zgr, zld, zldr, zlen, zn, zc, zcall, zcallv, zrcv, zdo, zdov, zpf, zpfc, zas, zasc, zmin, zmax, zcmp, zcz, zand_e, zor_e, zite_e, zbite_e, zif_e, znot_e, z_add, z_sub, z_mul, z_and, z_or, z_xor, z_shl, z_shr, zcpy, -List.getElem?_cons_succ, zg_0, zg_1, zg_2, zg_3, zg_4, zg_5, zg_6, zg_7, zg_8, zg_9, qL_isTable, zb_ne, e, h1, h2, aWays, hok]
    | true =>
      rw [hy] at ow
      have hok : okW T (nI t) y = true := by unfold okW; rw [hy, e]; rfl
      simp only [Bool.not_true, Bool.or_eq_false_iff] at ow
      obtain ⟨m, rfl, hm1, hm2⟩ := ywd hy
      have cm : (nI m).toNatClampNeg = m := nI_clamp (by omega)
      by_cases h6 : 6 < (T t).1
      · refine ⟨M, ?_, zsc.refl M⟩
        simp (disch := omega) [zf_L_ways, zmeth, xm_en, zret, zretz, zretv, zseq, zst, zinc, zkl, zskip, zk, zi, za, zbin, zdiv, zrem, zgi, zgr, zld, zldr, zlen, zn, zc, zcall, zcallv, zrcv, zdo, zdov, zpf, zpfc, zas, zasc, zmin, zmax, zcmp, zcz, zand_e, zor_e, zite_e, zbite_e, zif_e, znot_e, z_add, z_sub, z_mul, z_and, z_or, z_xor, z_shl, z_shr, zcpy, -List.getElem?_cons_succ, zg_0, zg_1, zg_2, zg_3, zg_4, zg_5, zg_6, zg_7, zg_8, zg_9, zt_0, zt_12, zt_20, zt_26, zt_32, zf_0_0, zf_0_1, zf_0_2, zf_0_3, zf_0_4, zf_12_0, zf_12_1, zf_12_2, zf_12_4, zf_12_5, zf_20_1, zf_20_2, zf_20_3, zf_20_4, zf_20_6, zf_26_0, zf_26_1, zf_26_2, zf_26_3, zf_32_0, zf_32_1, zf_32_3, zf_32_4, zf_32_5, zf_32_6, qL_isTable, zb_ne, e, ow.1, ow.2, aWays, hok, ct, zi_1, zf_1, nI_clamp, ztb_tag (tb4 ht), (hC t ht).1, zc_gt, h6]
      · obtain ⟨M', g1, g2, -⟩ := qE_count (tb4 ht) (hC t ht) (hT t ht) (by omega) (show m < 2 ^ 30 by omega) hm1
        refine ⟨M', ?_, g2⟩
        simp (disch := omega) [zf_L_ways, zmeth, xm_en, zret, zretz, zretv, zseq, zst, zinc, zkl, zskip, zk, zi, za, zbin, zdiv, zrem, zgi, zgr, zld, zldr, zlen, zn, zc, zcall, zcallv, zrcv, zdo, zdov, zpf, zpfc, zas, zasc, zmin, zmax, zcmp, zcz, zand_e, zor_e, zite_e, zbite_e, zif_e, znot_e, z_add, z_sub, z_mul, z_and, z_or, z_xor, z_shl, z_shr, zcpy, -List.getElem?_cons_succ, zg_0, zg_1, zg_2, zg_3, zg_4, zg_5, zg_6, zg_7, zg_8, zg_9, zt_0, zt_12, zt_20, zt_26, zt_32, zf_0_0, zf_0_1, zf_0_2, zf_0_3, zf_0_4, zf_12_0, zf_12_1, zf_12_2, zf_12_4, zf_12_5, zf_20_1, zf_20_2, zf_20_3, zf_20_4, zf_20_6, zf_26_0, zf_26_1, zf_26_2, zf_26_3, zf_32_0, zf_32_1, zf_32_3, zf_32_4, zf_32_5, zf_32_6, qL_isTable, zb_ne, e, ow.1, ow.2, aWays, hok, ct, cm, zi_1, zf_1, nI_clamp, ztb_tag (tb4 ht), (hC t ht).1, zc_gt, h6, g1]
theorem zin_w (x : Int32) : (xe_cd .ge x (nI 1) && xe_cd .le x (nI 10000)) = (zlt x 10001 && !decide (x = nI 0)) := zin1 x (by decide)
theorem qM_ways {T : tS} {M : zM} (x y : Int32) (hR : RS T M) (hT : TO T) : ∃ M', zf_M_ways [.ref 32, .int x, .int y] M = some (some (aWays T x y), M') ∧ zsr M M' := by
  rcases z3 x (n := 4) (by decide) with h | ⟨t, ht, rfl⟩
  · refine ⟨M, ?_, zsr.refl M⟩
    simp [zf_M_ways, zmeth, xm_en, zret, zretz, zretv, zseq, zst, zinc, zkl, zskip, zk, zi, za, zbin, zdiv, zrem, zgi, zgr, zld, zldr, zlen, zn, zc, zcall, zcallv, zrcv, zdo, zdov, zpf, zpfc, zas, zasc, zmin, zmax, zcmp, zcz, zand_e, zor_e, zite_e, zbite_e, zif_e, znot_e, z_add, z_sub, z_mul, z_and, z_or, z_xor, z_shl, z_shr, zcpy, -List.getElem?_cons_succ, zg_0, zg_1, zg_2, zg_3, zg_4, zg_5, zg_6, zg_7, zg_8, zg_9, qM_isTable, zb_ne, h, aWays, okW]
  · have e := zlt_y ht (by decide)
    have ct : (nI t).toNatClampNeg = t := nI_clamp (by omega)
    have h8 := (hT t ht).1.2
    cases hy : zlt y 10001 && !decide (y = nI 0) with
    | false =>
      have hok : okW T (nI t) y = false := by unfold okW; rw [hy, Bool.and_false]
      refine ⟨M, ?_, zsr.refl M⟩
      simp [zf_M_ways, zmeth, xm_en, zret, zretz, zretv, zseq, zst, zinc, zkl, zskip, zk, zi, za, zbin, zdiv, zrem, zgi, zgr, zld, zldr, zlen, zn, zc, zcall, zcallv, zrcv, zdo, zdov, zpf, zpfc, zas, zasc, zmin, zmax, zcmp, zcz, zand_e, zor_e, zite_e, zbite_e, zif_e, znot_e, z_add, z_sub, z_mul, z_and, z_or, z_xor, z_shl, z_shr, zcpy, -List.getElem?_cons_succ, zg_0, zg_1, zg_2, zg_3, zg_4, zg_5, zg_6, zg_7, zg_8, zg_9, qM_isTable, qM_in, zin_w, hy, zb_ne, e, aWays, hok]
    | true =>
      have hok : okW T (nI t) y = true := by unfold okW; rw [hy, e]; rfl
      obtain ⟨m, rfl, hm1, hm2⟩ := ywd hy
      have cm : (nI m).toNatClampNeg = m := nI_clamp (by omega)
      by_cases h6 : 6 < (T t).1
      · refine ⟨M, ?_, zsr.refl M⟩
        simp (disch := omega) [zf_M_ways, zmeth, xm_en, zret, zretz, zretv, zseq, zst, zinc, zkl, zskip, zk, zi, za, zbin, zdiv, zrem, zgi, zgr, zld, zldr, zlen, zn, zc, zcall, zcallv, zrcv, zdo, zdov, zpf, zpfc, zas, zasc, zmin, zmax, zcmp, zcz, zand_e, zor_e, zite_e, zbite_e, zif_e, znot_e, z_add, z_sub, z_mul, z_and, z_or, z_xor, z_shl, z_shr, zcpy, -List.getElem?_cons_succ, zg_0, zg_1, zg_2, zg_3, zg_4, zg_5, zg_6, zg_7, zg_8, zg_9, zt_0, zt_12, zt_20, zt_26, zt_32, zf_0_0, zf_0_1, zf_0_2, zf_0_3, zf_0_4, zf_12_0, zf_12_1, zf_12_2, zf_12_4, zf_12_5, zf_20_1, zf_20_2, zf_20_3, zf_20_4, zf_20_6, zf_26_0, zf_26_1, zf_26_2, zf_26_3, zf_32_0, zf_32_1, zf_32_3, zf_32_4, zf_32_5, zf_32_6, qM_isTable, qM_in, zin_w, hy, zb_ne, e, aWays, hok, ct, zi_33, nI_clamp, (hR t ht).1, zc_gt, h6]
      · obtain ⟨M', g1, g2, -⟩ := qM_ends ht (hR t ht) (hT t ht) (by omega) (show m < 2 ^ 30 by omega) hm1
        refine ⟨M', ?_, g2⟩
        simp (disch := omega) [zf_M_ways, zmeth, xm_en, zret, zretz, zretv, zseq, zst, zinc, zkl, zskip, zk, zi, za, zbin, zdiv, zrem, zgi, zgr, zld, zldr, zlen, zn, zc, zcall, zcallv, zrcv, zdo, zdov, zpf, zpfc, zas, zasc, zmin, zmax, zcmp, zcz, zand_e, zor_e, zite_e, zbite_e, zif_e, znot_e, z_add, z_sub, z_mul, z_and, z_or, z_xor, z_shl, z_shr, zcpy, -List.getElem?_cons_succ, zg_0, zg_1, zg_2, zg_3, zg_4, zg_5, zg_6, zg_7, zg_8, zg_9, zt_0, zt_12, zt_20, zt_26, zt_32, zf_0_0, zf_0_1, zf_0_2, zf_0_3, zf_0_4, zf_12_0, zf_12_1, zf_12_2, zf_12_4, zf_12_5, zf_20_1, zf_20_2, zf_20_3, zf_20_4, zf_20_6, zf_26_0, zf_26_1, zf_26_2, zf_26_3, zf_32_0, zf_32_1, zf_32_3, zf_32_4, zf_32_5, zf_32_6, qM_isTable, qM_in, zin_w, hy, zb_ne, e, aWays, hok, ct, cm, zi_33, nI_clamp, (hR t ht).1, zc_gt, h6, g1]
/-! end -/
def cpl (T : tS) (y : Int32) : List tC := comps (T y.toNatClampNeg).1 (holes (T y.toNatClampNeg).1 (T y.toNatClampNeg).2) (T y.toNatClampNeg).2
def okE (T : tS) (x y : Int32) : Bool := zlt x 4 && zlt y 4 && (!decide (6 < (T y.toNatClampNeg).1) && !(cpl T y).isEmpty)
def sE (T : tS) (x y : Int32) : tS := bif okE T x y then tset T x.toNatClampNeg (T y.toNatClampNeg).1 ((cpl T y).getD 0 (T y.toNatClampNeg).2) else T
def aE (T : tS) (x y : Int32) : Int32 := bif zlt x 4 && zlt y 4 then (bif decide (6 < (T y.toNatClampNeg).1) then -2 else zb (okE T x y)) else -1
theorem qL_end {T : tS} {M : zM} (x y : Int32) (hC : CS T M) (hT : TO T) : ∃ M', zf_L_end [.ref 0, .int x, .int y] M = some (some (aE T x y), M') ∧ CS (sE T x y) M' ∧ zhi M M' := by
  rcases z3 x (n := 4) (by decide) with h | ⟨s, hs, rfl⟩
  · refine ⟨M, ?_, by simpa [sE, okE, h] using hC, zhi.refl M⟩
    simp [zf_L_end, zmeth, xm_en, zret, zretz, zretv, zseq, zst, zinc, zkl, zskip, zk, zi, za, zbin, zdiv, zrem, zgi, zgr, zld, zldr, zlen, zn, zc, zcall, zcallv, zrcv, zdo, zdov, zpf, zpfc, zas, zasc, zmin, zmax, zcmp, zcz, zand_e, zor_e, zite_e, zbite_e, zif_e, znot_e, z_add, z_sub, z_mul, z_and, z_or, z_xor, z_shl, z_shr, zcpy, -List.getElem?_cons_succ, zg_0, zg_1, zg_2, zg_3, zg_4, zg_5, zg_6, zg_7, zg_8, zg_9, qL_isTable, zb_ne, h, aE]
  · have e := zlt_y hs (by decide)
    rcases z3 y (n := 4) (by decide) with h | ⟨t, ht, rfl⟩
    · refine ⟨M, ?_, by simpa [sE, okE, h] using hC, zhi.refl M⟩
      simp [zf_L_end, zmeth, xm_en, zret, zretz, zretv, zseq, zst, zinc, zkl, zskip, zk, zi, za, zbin, zdiv, zrem, zgi, zgr, zld, zldr, zlen, zn, zc, zcall, zcallv, zrcv, zdo, zdov, zpf, zpfc, zas, zasc, zmin, zmax, zcmp, zcz, zand_e, zor_e, zite_e, zbite_e, zif_e, znot_e, z_add, z_sub, z_mul, z_and, z_or, z_xor, z_shl, z_shr, zcpy, -List.getElem?_cons_succ, zg_0, zg_1, zg_2, zg_3, zg_4, zg_5, zg_6, zg_7, zg_8, zg_9, qL_isTable, zb_ne, e, h, aE]
    · have e2 := zlt_y ht (by decide)
      have ct : (nI t).toNatClampNeg = t := nI_clamp (by omega)
      have cs : (nI s).toNatClampNeg = s := nI_clamp (by omega)
      have h8 := (hT t ht).1.2
      by_cases h6 : 6 < (T t).1
      · refine ⟨M, ?_, by simpa [sE, okE, ct, h6] using hC, zhi.refl M⟩
        simp (disch := omega) [zf_L_end, zmeth, xm_en, zret, zretz, zretv, zseq, zst, zinc, zkl, zskip, zk, zi, za, zbin, zdiv, zrem, zgi, zgr, zld, zldr, zlen, zn, zc, zcall, zcallv, zrcv, zdo, zdov, zpf, zpfc, zas, zasc, zmin, zmax, zcmp, zcz, zand_e, zor_e, zite_e, zbite_e, zif_e, znot_e, z_add, z_sub, z_mul, z_and, z_or, z_xor, z_shl, z_shr, zcpy, -List.getElem?_cons_succ, zg_0, zg_1, zg_2, zg_3, zg_4, zg_5, zg_6, zg_7, zg_8, zg_9, zt_0, zt_12, zt_20, zt_26, zt_32, zf_0_0, zf_0_1, zf_0_2, zf_0_3, zf_0_4, zf_12_0, zf_12_1, zf_12_2, zf_12_4, zf_12_5, zf_20_1, zf_20_2, zf_20_3, zf_20_4, zf_20_6, zf_26_0, zf_26_1, zf_26_2, zf_26_3, zf_32_0, zf_32_1, zf_32_3, zf_32_4, zf_32_5, zf_32_6, qL_isTable, zb_ne, e, e2, aE, ct, zi_1, zf_1, nI_clamp, ztb_tag (tb4 ht), (hC t ht).1, zc_gt, h6]
      · obtain ⟨M', g1, g2, g3⟩ := qE_count (most := 1) (tb4 ht) (hC t ht) (hT t ht) (by omega) (by decide) (by decide)
        have ec : comps (T t).1 (holes (T t).1 (T t).2) (T t).2 = cpl T (nI t) := by unfold cpl; rw [ct]
        rw [ec] at g1 g3
        cases hl : cpl T (nI t) with
        | nil =>
          rw [hl] at g1
          have hok : okE T (nI s) (nI t) = false := by simp [okE, hl]
          refine ⟨M', ?_, by simpa [sE, hok] using hC.sc g2, g2.hi⟩
          have e0 : xe_cd .eq (nI 0) 0 = true := by decide
          simp only [List.length_nil, Nat.min_zero] at g1
          simp (disch := omega) [zf_L_end, zmeth, xm_en, zret, zretz, zretv, zseq, zst, zinc, zkl, zskip, zk, zi, za, zbin, zdiv, zrem, zgi, zgr, zld, zldr, zlen, zn, zc, zcall, zcallv, zrcv, zdo, zdov, zpf, zpfc, zas, zasc, zmin, zmax, zcmp, zcz, zand_e, zor_e, zite_e, zbite_e, zif_e, znot_e, z_add, z_sub, z_mul, z_and, z_or, z_xor, z_shl, z_shr, zcpy, -List.getElem?_cons_succ, zg_0, zg_1, zg_2, zg_3, zg_4, zg_5, zg_6, zg_7, zg_8, zg_9, zt_0, zt_12, zt_20, zt_26, zt_32, zf_0_0, zf_0_1, zf_0_2, zf_0_3, zf_0_4, zf_12_0, zf_12_1, zf_12_2, zf_12_4, zf_12_5, zf_20_1, zf_20_2, zf_20_3, zf_20_4, zf_20_6, zf_26_0, zf_26_1, zf_26_2, zf_26_3, zf_32_0, zf_32_1, zf_32_3, zf_32_4, zf_32_5, zf_32_6, qL_isTable, zb_ne, e, e2, aE, ct, hok, zi_1, zf_1, nI_clamp, ztb_tag (tb4 ht), (hC t ht).1, zc_gt, h6, g1, e0, zb_F]
        | cons d l =>
          have hok : okE T (nI s) (nI t) = true := by simp [okE, hl, e, e2, ct, h6]
          have em : min 1 (cpl T (nI t)).length = 1 := by rw [hl, List.length_cons]; omega
          rw [em] at g1
          have k13 := g3 (by rw [hl]; simp)
          have e0 : xe_cd .eq (nI 1) 0 = false := by decide
          refine ⟨zto M' (2 + 2 * s) 13, ?_, ?_, zhi.trans g2.hi (zhi_to hs)⟩
          · simp (disch := omega) [zf_L_end, zmeth, xm_en, zret, zretz, zretv, zseq, zst, zinc, zkl, zskip, zk, zi, za, zbin, zdiv, zrem, zgi, zgr, zld, zldr, zlen, zn, zc, zcall, zcallv, zrcv, zdo, zdov, zpf, zpfc, zas, zasc, zmin, zmax, zcmp, zcz, zand_e, zor_e, zite_e, zbite_e, zif_e, znot_e, z_add, z_sub, z_mul, z_and, z_or, z_xor, z_shl, z_shr, zcpy, -List.getElem?_cons_succ, zg_0, zg_1, zg_2, zg_3, zg_4, zg_5, zg_6, zg_7, zg_8, zg_9, zt_0, zt_12, zt_20, zt_26, zt_32, zf_0_0, zf_0_1, zf_0_2, zf_0_3, zf_0_4, zf_12_0, zf_12_1, zf_12_2, zf_12_4, zf_12_5, zf_20_1, zf_20_2, zf_20_3, zf_20_4, zf_20_6, zf_26_0, zf_26_1, zf_26_2, zf_26_3, zf_32_0, zf_32_1, zf_32_3, zf_32_4, zf_32_5, zf_32_6, qL_isTable, zb_ne, e, e2, aE, ct, hok, zi_1, zf_1, nI_clamp, ztb_tag (tb4 ht), ztb_tag (tb4 hs), (hC t ht).1, zc_gt, h6, g1, e0, qT_takeOver (tb4 hs) tb13, zb_T, zc_ne0]
          · simp only [sE, hok, cond_true, ct, cs]
            exact CS_to hs tb13 h8 (hC.sc g2) k13
theorem qM_end {T : tS} {M : zM} (x y : Int32) (hR : RS T M) (hT : TO T) : ∃ M', zf_M_end [.ref 32, .int x, .int y] M = some (some (aE T x y), M') ∧ RS (sE T x y) M' ∧ TO (sE T x y) ∧ zlo M M' := by
  rcases z3 x (n := 4) (by decide) with h | ⟨s, hs, rfl⟩
  · refine ⟨M, ?_, by simpa [sE, okE, h] using hR, by simpa [sE, okE, h] using hT, zlo.refl M⟩
    simp [zf_M_end, zmeth, xm_en, zret, zretz, zretv, zseq, zst, zinc, zkl, zskip, zk, zi, za, zbin, zdiv, zrem, zgi, zgr, zld, zldr, zlen, zn, zc, zcall, zcallv, zrcv, zdo, zdov, zpf, zpfc, zas, zasc, zmin, zmax, zcmp, zcz, zand_e, zor_e, zite_e, zbite_e, zif_e, znot_e, z_add, z_sub, z_mul, z_and, z_or, z_xor, z_shl, z_shr, zcpy, -List.getElem?_cons_succ, zg_0, zg_1, zg_2, zg_3, zg_4, zg_5, zg_6, zg_7, zg_8, zg_9, qM_isTable, zb_ne, h, aE]
  · have e := zlt_y hs (by decide)
    rcases z3 y (n := 4) (by decide) with h | ⟨t, ht, rfl⟩
    · refine ⟨M, ?_, by simpa [sE, okE, h] using hR, by simpa [sE, okE, h] using hT, zlo.refl M⟩
      simp [zf_M_end, zmeth, xm_en, zret, zretz, zretv, zseq, zst, zinc, zkl, zskip, zk, zi, za, zbin, zdiv, zrem, zgi, zgr, zld, zldr, zlen, zn, zc, zcall, zcallv, zrcv, zdo, zdov, zpf, zpfc, zas, zasc, zmin, zmax, zcmp, zcz, zand_e, zor_e, zite_e, zbite_e, zif_e, znot_e, z_add, z_sub, z_mul, z_and, z_or, z_xor, z_shl, z_shr, zcpy, -List.getElem?_cons_succ, zg_0, zg_1, zg_2, zg_3, zg_4, zg_5, zg_6, zg_7, zg_8, zg_9, qM_isTable, zb_ne, e, h, aE]
    · have e2 := zlt_y ht (by decide)
      have ct : (nI t).toNatClampNeg = t := nI_clamp (by omega)
      have cs : (nI s).toNatClampNeg = s := nI_clamp (by omega)
      have h8 := (hT t ht).1.2
      by_cases h6 : 6 < (T t).1
      · refine ⟨M, ?_, by simpa [sE, okE, ct, h6] using hR, by simpa [sE, okE, ct, h6] using hT, zlo.refl M⟩
        simp (disch := omega) [zf_M_end, zmeth, xm_en, zret, zretz, zretv, zseq, zst, zinc, zkl, zskip, zk, zi, za, zbin, zdiv, zrem, zgi, zgr, zld, zldr, zlen, zn, zc, zcall, zcallv, zrcv, zdo, zdov, zpf, zpfc, zas, zasc, zmin, zmax, zcmp, zcz, zand_e, zor_e, zite_e, zbite_e, zif_e, znot_e, z_add, z_sub, z_mul, z_and, z_or, z_xor, z_shl, z_shr, zcpy, -List.getElem?_cons_succ, zg_0, zg_1, zg_2, zg_3, zg_4, zg_5, zg_6, zg_7, zg_8, zg_9, zt_0, zt_12, zt_20, zt_26, zt_32, zf_0_0, zf_0_1, zf_0_2, zf_0_3, zf_0_4, zf_12_0, zf_12_1, zf_12_2, zf_12_4, zf_12_5, zf_20_1, zf_20_2, zf_20_3, zf_20_4, zf_20_6, zf_26_0, zf_26_1, zf_26_2, zf_26_3, zf_32_0, zf_32_1, zf_32_3, zf_32_4, zf_32_5, zf_32_6, qM_isTable, zb_ne, e, e2, aE, ct, zi_33, nI_clamp, (hR t ht).1, zc_gt, h6]
      · obtain ⟨M', g1, g2, g3⟩ := qM_ends (most := 1) ht (hR t ht) (hT t ht) (by omega) (by decide) (by decide)
        have ec : comps (T t).1 (holes (T t).1 (T t).2) (T t).2 = cpl T (nI t) := by unfold cpl; rw [ct]
        rw [ec] at g1 g3
        cases hl : cpl T (nI t) with
        | nil =>
          rw [hl] at g1
          have hok : okE T (nI s) (nI t) = false := by simp [okE, hl]
          refine ⟨M', ?_, by simpa [sE, hok] using hR.sr hT g2, by simpa [sE, hok] using hT, g2.lo⟩
          have e0 : xe_cd .eq (nI 0) (nI 1) = false := by decide
          simp only [List.length_nil, Nat.min_zero] at g1
          simp (disch := omega) [zf_M_end, zmeth, xm_en, zret, zretz, zretv, zseq, zst, zinc, zkl, zskip, zk, zi, za, zbin, zdiv, zrem, zgi, zgr, zld, zldr, zlen, zn, zc, zcall, zcallv, zrcv, zdo, zdov, zpf, zpfc, zas, zasc, zmin, zmax, zcmp, zcz, zand_e, zor_e, zite_e, zbite_e, zif_e, znot_e, z_add, z_sub, z_mul, z_and, z_or, z_xor, z_shl, z_shr, zcpy, -List.getElem?_cons_succ, zg_0, zg_1, zg_2, zg_3, zg_4, zg_5, zg_6, zg_7, zg_8, zg_9, zt_0, zt_12, zt_20, zt_26, zt_32, zf_0_0, zf_0_1, zf_0_2, zf_0_3, zf_0_4, zf_12_0, zf_12_1, zf_12_2, zf_12_4, zf_12_5, zf_20_1, zf_20_2, zf_20_3, zf_20_4, zf_20_6, zf_26_0, zf_26_1, zf_26_2, zf_26_3, zf_32_0, zf_32_1, zf_32_3, zf_32_4, zf_32_5, zf_32_6, qM_isTable, zb_ne, e, e2, aE, ct, hok, zi_33, nI_clamp, (hR t ht).1, zc_gt, h6, g1, e0, zb_F]
        | cons d l =>
          have hok : okE T (nI s) (nI t) = true := by simp [okE, hl, e, e2, ct, h6]
          have em : min 1 (cpl T (nI t)).length = 1 := by rw [hl, List.length_cons]; omega
          rw [em] at g1
          have r4 := g3 (by rw [hl, List.length_cons]; omega)
          have e0 : xe_cd .eq (nI 1) (nI 1) = true := by decide
          have hin : (cpl T (nI t)).getD (1 - 1) (T t).2 ∈ comps (T t).1 (holes (T t).1 (T t).2) (T t).2 := by
            rw [ec, hl]
            exact List.mem_cons_self
          refine ⟨zcp M' s 4 64, ?_, ?_, ?_, zlo.trans g2.lo zlo_cp⟩
          · simp (disch := omega) [zf_M_end, zmeth, xm_en, zret, zretz, zretv, zseq, zst, zinc, zkl, zskip, zk, zi, za, zbin, zdiv, zrem, zgi, zgr, zld, zldr, zlen, zn, zc, zcall, zcallv, zrcv, zdo, zdov, zpf, zpfc, zas, zasc, zmin, zmax, zcmp, zcz, zand_e, zor_e, zite_e, zbite_e, zif_e, znot_e, z_add, z_sub, z_mul, z_and, z_or, z_xor, z_shl, z_shr, zcpy, -List.getElem?_cons_succ, zg_0, zg_1, zg_2, zg_3, zg_4, zg_5, zg_6, zg_7, zg_8, zg_9, zt_0, zt_12, zt_20, zt_26, zt_32, zf_0_0, zf_0_1, zf_0_2, zf_0_3, zf_0_4, zf_12_0, zf_12_1, zf_12_2, zf_12_4, zf_12_5, zf_20_1, zf_20_2, zf_20_3, zf_20_4, zf_20_6, zf_26_0, zf_26_1, zf_26_2, zf_26_3, zf_32_0, zf_32_1, zf_32_3, zf_32_4, zf_32_5, zf_32_6, qM_isTable, zb_ne, e, e2, aE, ct, hok, zi_33, nI_clamp, (hR t ht).1, zc_gt, h6, g1, e0, qM_copies, zb_T, zc_ne0]
          · simp only [sE, hok, cond_true, ct, cs]
            exact RS_cp4 hT hs h8 hR g2 r4
          · simp only [sE, hok, cond_true, ct, cs]
            exact TO_set hT (comps_ok _ _ (hT t ht) (holes_ok (hT t ht)) _ hin)
