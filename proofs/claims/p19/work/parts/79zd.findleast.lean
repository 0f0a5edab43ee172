/-! name: the class -/
theorem gd_rg : ∀ {n i : Nat}, i < n → gd (List.range n) i = i
  | 0, i, h => absurd h (Nat.not_lt_zero i)
  | n + 1, i, h => by
    rw [List.range_succ]
    by_cases e : i = n
    · subst e
      have := gd_new (l := List.range i) (m := []) (x := i)
      rw [List.length_range] at this
      exact this
    · rw [gd_app (by rw [List.length_range]; omega)]
      exact gd_rg (by omega)
theorem PL_rg {n : Nat} (h : 1 ≤ n) : PL n (List.range n) := ⟨List.length_range, List.nodup_range, fun x hx => List.mem_range.mp hx, gd_rg (by omega)⟩
theorem rn_rg {n : Nat} {c : tC} (hf : tF n c) : tq n c (rn c (List.range n)) := fun i j hi hj => by
  have b := hf i j hi hj
  show c i j = px (List.range n) (c (gd (List.range n) i) (gd (List.range n) j))
  rw [gd_rg hi, gd_rg hj]
  have := px_get (l := List.range n) (i := c i j) List.nodup_range (by rw [List.length_range]; exact b)
  rw [gd_rg b] at this
  exact this.symm
theorem PP_0 {n : Nat} (h : 1 ≤ n) : PP n [0] := ⟨⟨Nat.le_refl 1, h⟩, List.nodup_cons.mpr ⟨List.not_mem_nil, List.nodup_nil⟩, fun x hx => by rw [List.mem_singleton.mp hx]; omega, rfl⟩
theorem PL_ex0 {n : Nat} (h : 1 ≤ n) {l : List Nat} (hl : PL n l) : ex [0] l := by
  match l, hl with
  | [], hl => exact absurd hl.1 (by simp only [List.length_nil]; omega)
  | a :: m, hl =>
    have : a = 0 := hl.2.2.2
    subst this
    exact ⟨m, rfl⟩
theorem qR_findLeast {M : zM} {k n : Nat} {c : tC} (hk : ztb k) (hk2 : k + 1 < 10) (ht : kT M k n c) (hO : tO n c) (hf : tF n c) : ∃ B M', zf_Renamings_findLeast [.ref 26, .ref k] M = some (some (nI ((cmps n (n - 1) [0]).countP (fun v => tqb n (rn c v) B))), M') ∧ LEA n c B ∧ kT M' 27 n B ∧ zsc M M' := by
  have h8 := hO.1.2
  have h1 := hO.1.1
  have k27 := kT_to tb27 hk h8 ht
  have st : ∀ q j, q ≠ 26 → q ≠ 30 → q ≠ 31 → (zup (zup (zfl (zup (zto M 27 k) 26 4 (nI 0)) 31 8 (-1)) 30 0 (nI 0)) 31 0 (nI 0)) q j = zto M 27 k q j := fun q j a b d => by
    rw [zup_e, if_neg (by omega), zup_e, if_neg (by omega)]
    unfold zfl
    rw [if_neg (by omega), zup_e, if_neg (by omega)]
  have d0 : DS M n c [] c [0] (zup (zup (zfl (zup (zto M 27 k) 26 4 (nI 0)) 31 8 (-1)) 30 0 (nI 0)) 31 0 (nI 0)) := by
    refine ⟨k27.same (fun j => st _ _ (by decide) (by decide) (by decide)) (fun j => st _ _ (by decide) (by decide) (by decide)), ⟨fun i hi => ?_, fun x hx => ?_⟩, ?_, ⟨List.range n, PL_rg h1, rn_rg hf⟩, fun v hv => absurd hv List.not_mem_nil, fun q j hq => ?_⟩
    · have : i = 0 := by simp only [List.length_singleton] at hi; omega
      subst this
      rw [zup_e, if_neg (by omega), zup_e, if_pos ⟨rfl, rfl⟩]
      rfl
    · rw [zup_e]
      by_cases e : x = 0
      · subst e
        rw [if_pos ⟨rfl, rfl⟩, if_pos (List.mem_singleton.mpr rfl)]
        rfl
      · rw [if_neg (fun z => e z.2), zup_e, if_neg (by omega), if_neg (fun z => e (List.mem_singleton.mp z))]
        unfold zfl
        rw [if_pos ⟨rfl, hx⟩]
    · rw [zup_e, if_neg (by omega), zup_e, if_neg (by omega)]
      unfold zfl
      rw [if_neg (by omega), zup_e, if_pos ⟨rfl, rfl⟩]
      rfl
    · rw [st q j (by omega) (by omega) (by omega)]
      unfold zto
      rw [if_neg (by omega), if_neg (by omega)]
  have s0 : [0].length = n → ¬ tl n c (rn c [0]) := fun e z => tl_ne z (fun i j hi hj => by
    have e1 : n = 1 := e.symm
    subst e1
    have o := rn_O hO hf ((PP_0 h1).full e)
    have : i = 0 := by omega
    subst this
    rw [(o.2.1 j hj).1, (hO.2.1 j hj).1])
  obtain ⟨B, M', w1, w2⟩ := qR_give hk hk2 ht hO hf (n - 1) 10 [0] [] c _ (by omega) (by rw [List.length_singleton]; omega) (PP_0 h1) d0 s0
  rw [List.nil_append] at w2
  rw [List.length_singleton] at w1
  refine ⟨B, M', ?_, ⟨w2.2.2.2.1, fun l hl => w2.2.2.2.2.1 l (cmps_all (n - 1) [0] l (PP_0 h1) (by rw [List.length_singleton]; omega) hl (PL_ex0 h1 hl))⟩, w2.1, w2.2.2.2.2.2⟩
  have fl := qA_fill (M := zup (zto M 27 k) 26 4 (nI 0)) (k := 31) (N := 8) (v := -1) rfl (by decide)
  simp (disch := omega) [zf_Renamings_findLeast, zmeth, xm_en, zret, zretz, zretv, zseq, zst, zinc, zkl, zskip, zk, zi, za, zbin, zdiv, zrem, zgi, zgr, zld, zldr, zlen, zn, zc, zcall, zcallv, zrcv, zdo, zdov, zpf, zpfc, zas, zasc, zmin, zmax, zcmp, zcz, zand_e, zor_e, zite_e, zbite_e, zif_e, znot_e, z_add, z_sub, z_mul, z_and, z_or, z_xor, z_shl, z_shr, zcpy, -List.getElem?_cons_succ, zg_0, zg_1, zg_2, zg_3, zg_4, zg_5, zg_6, zg_7, zg_8, zg_9, zt_0, zt_12, zt_20, zt_26, zt_32, zf_0_0, zf_0_1, zf_0_2, zf_0_3, zf_0_4, zf_12_0, zf_12_1, zf_12_2, zf_12_4, zf_12_5, zf_20_1, zf_20_2, zf_20_3, zf_20_4, zf_20_6, zf_26_0, zf_26_1, zf_26_2, zf_26_3, zf_32_0, zf_32_1, zf_32_3, zf_32_4, zf_32_5, zf_32_6, nI_clamp, ztb_tag tb27, zi_30, zi_31, qT_takeOver tb27 hk, fl, w1, w2.2.2.1]
/-- how many renamings lead to the name -/
noncomputable def nmA (n : Nat) (c : tC) : Nat := (cmps n (n - 1) [0]).countP (fun v => tqb n (rn c v) (nmN n c))
theorem tqb_r {n : Nat} {A B C : tC} (h : tq n B C) : tqb n A B = tqb n A C := by
  rw [Bool.eq_iff_iff, tqb_t, tqb_t]
  exact ⟨fun q => q.trans h, fun q => q.trans h.symm⟩
def okN (T : tS) (x y : Int32) : Bool := zlt x 4 && (zlt y 4 && tB (T y.toNatClampNeg).1 (T y.toNatClampNeg).2)
noncomputable def sN (T : tS) (x y : Int32) : tS := bif okN T x y then tset T x.toNatClampNeg (T y.toNatClampNeg).1 (nmN (T y.toNatClampNeg).1 (T y.toNatClampNeg).2) else T
noncomputable def aN (T : tS) (x y : Int32) : Int32 := bif zlt x 4 && zlt y 4 then (bif okN T x y then nI (nmA (T y.toNatClampNeg).1 (T y.toNatClampNeg).2) else -2) else -1
theorem kT_q {M : zM} {k n : Nat} {A B : tC} (h : kT M k n A) (q : tq n A B) : kT M k n B := ⟨h.1, fun a b ha hb => by rw [← q a b ha hb]; exact h.2 a b ha hb⟩
theorem rT_q {M : zM} {k n : Nat} {A B : tC} (h : rT M k n A) (q : tq n A B) : rT M k n B := ⟨h.1, fun a b ha hb => by rw [← q a b ha hb]; exact h.2 a b ha hb⟩
theorem qL_name {T : tS} {M : zM} (x y : Int32) (hC : CS T M) (hT : TO T) : ∃ M', zf_L_name [.ref 0, .int x, .int y] M = some (some (aN T x y), M') ∧ CS (sN T x y) M' ∧ zhi M M' := by
  rcases z3 x (n := 4) (by decide) with h | ⟨s, hs, rfl⟩
  · refine ⟨M, ?_, by simpa [sN, okN, h] using hC, zhi.refl M⟩
    simp [zf_L_name, zmeth, xm_en, zret, zretz, zretv, zseq, zst, zinc, zkl, zskip, zk, zi, za, zbin, zdiv, zrem, zgi, zgr, zld, zldr, zlen, zn, zc, zcall, zcallv, zrcv, zdo, zdov, zpf, zpfc, zas, zasc, zmin, zmax, zcmp, zcz, zand_e, zor_e, zite_e, zbite_e, zif_e, znot_e, z_add, z_sub, z_mul, z_and, z_or, z_xor, z_shl, z_shr, zcpy, -List.getElem?_cons_succ, zg_0, zg_1, zg_2, zg_3, zg_4, zg_5, zg_6, zg_7, zg_8, zg_9, qL_isTable, zb_ne, h, aN]
  · have e := zlt_y hs (by decide)
    rcases z3 y (n := 4) (by decide) with h | ⟨t, ht, rfl⟩
    · refine ⟨M, ?_, by simpa [sN, okN, h] using hC, zhi.refl M⟩
      simp [zf_L_name, zmeth, xm_en, zret, zretz, zretv, zseq, zst, zinc, zkl, zskip, zk, zi, za, zbin, zdiv, zrem, zgi, zgr, zld, zldr, zlen, zn, zc, zcall, zcallv, zrcv, zdo, zdov, zpf, zpfc, zas, zasc, zmin, zmax, zcmp, zcz, zand_e, zor_e, zite_e, zbite_e, zif_e, znot_e, z_add, z_sub, z_mul, z_and, z_or, z_xor, z_shl, z_shr, zcpy, -List.getElem?_cons_succ, zg_0, zg_1, zg_2, zg_3, zg_4, zg_5, zg_6, zg_7, zg_8, zg_9, qL_isTable, zb_ne, e, h, aN]
    · have e2 := zlt_y ht (by decide)
      have ct : (nI t).toNatClampNeg = t := nI_clamp (by omega)
      have cs : (nI s).toNatClampNeg = s := nI_clamp (by omega)
      have ft := qT_isFull (tb4 ht) (hC t ht) (hT t ht)
      cases hb : tB (T t).1 (T t).2 with
      | false =>
        rw [hb] at ft
        have hok : okN T (nI s) (nI t) = false := by simp [okN, ct, hb]
        refine ⟨M, ?_, by simpa [sN, hok] using hC, zhi.refl M⟩
        simp (disch := omega) [zf_L_name, zmeth, xm_en, zret, zretz, zretv, zseq, zst, zinc, zkl, zskip, zk, zi, za, zbin, zdiv, zrem, zgi, zgr, zld, zldr, zlen, zn, zc, zcall, zcallv, zrcv, zdo, zdov, zpf, zpfc, zas, zasc, zmin, zmax, zcmp, zcz, zand_e, zor_e, zite_e, zbite_e, zif_e, znot_e, z_add, z_sub, z_mul, z_and, z_or, z_xor, z_shl, z_shr, zcpy, -List.getElem?_cons_succ, zg_0, zg_1, zg_2, zg_3, zg_4, zg_5, zg_6, zg_7, zg_8, zg_9, zt_0, zt_12, zt_20, zt_26, zt_32, zf_0_0, zf_0_1, zf_0_2, zf_0_3, zf_0_4, zf_12_0, zf_12_1, zf_12_2, zf_12_4, zf_12_5, zf_20_1, zf_20_2, zf_20_3, zf_20_4, zf_20_6, zf_26_0, zf_26_1, zf_26_2, zf_26_3, zf_32_0, zf_32_1, zf_32_3, zf_32_4, zf_32_5, zf_32_6, qL_isTable, zb_ne, e, e2, zi_1, zf_1, ct, cs, ztb_tag (tb4 ht), ft, aN, hok]
      | true =>
        rw [hb] at ft
        have hok : okN T (nI s) (nI t) = true := by simp [okN, ct, hb, e, e2]
        have hf := (tB_iff (hT t ht)).mp hb
        have h8 := (hT t ht).1.2
        obtain ⟨B, M1, w1, w2, w3, w4⟩ := qR_findLeast (tb4 ht) (by omega) (hC t ht) (hT t ht) hf
        have qN := nmN_q h8 w2
        have ea : (cmps (T t).1 ((T t).1 - 1) [0]).countP (fun v => tqb (T t).1 (rn (T t).2 v) B) = nmA (T t).1 (T t).2 := by
          unfold nmA
          congr 1
          funext v
          exact tqb_r qN
        rw [ea] at w1
        refine ⟨zto M1 (2 + 2 * s) 27, ?_, ?_, zhi.trans w4.hi (zhi_to hs)⟩
        · simp (disch := omega) [zf_L_name, zmeth, xm_en, zret, zretz, zretv, zseq, zst, zinc, zkl, zskip, zk, zi, za, zbin, zdiv, zrem, zgi, zgr, zld, zldr, zlen, zn, zc, zcall, zcallv, zrcv, zdo, zdov, zpf, zpfc, zas, zasc, zmin, zmax, zcmp, zcz, zand_e, zor_e, zite_e, zbite_e, zif_e, znot_e, z_add, z_sub, z_mul, z_and, z_or, z_xor, z_shl, z_shr, zcpy, -List.getElem?_cons_succ, zg_0, zg_1, zg_2, zg_3, zg_4, zg_5, zg_6, zg_7, zg_8, zg_9, zt_0, zt_12, zt_20, zt_26, zt_32, zf_0_0, zf_0_1, zf_0_2, zf_0_3, zf_0_4, zf_12_0, zf_12_1, zf_12_2, zf_12_4, zf_12_5, zf_20_1, zf_20_2, zf_20_3, zf_20_4, zf_20_6, zf_26_0, zf_26_1, zf_26_2, zf_26_3, zf_32_0, zf_32_1, zf_32_3, zf_32_4, zf_32_5, zf_32_6, qL_isTable, zb_ne, e, e2, zi_1, zf_1, ct, cs, ztb_tag (tb4 ht), ztb_tag (tb4 hs), ft, aN, hok, w1, qT_takeOver (tb4 hs) tb27]
        · simp only [sN, hok, cond_true, ct, cs]
          exact CS_to hs tb27 h8 (hC.sc w4) (kT_q w3 qN)
