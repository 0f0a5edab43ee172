/-! the class's endings: what it looks over first -/
def mRow (n : Nat) (c : tC) (a : Nat) : Nat := zim (fun y => c a y) (fun y => decide (c a y < 8)) n
def mCol (n : Nat) (c : tC) (b : Nat) : Nat := zim (fun x => c x b) (fun x => decide (c x b < 8)) n
def lkP (n : Nat) (c : tC) (a b : Nat) : List Nat := segs (hrow n c) 0 a ++ segs (hg c a) 0 b
/-- rows below a, and of row a the columns below b, are looked over -/
def LK (M0 : zM) (n : Nat) (c : tC) (a b : Nat) (M : zM) : Prop := (∀ x, x < n → M 18 x = nI (if x < a then mRow n c x else if x = a then mRow b c a else 0)) ∧ (∀ y, y < n → M 19 y = nI (mCol (if y < b then a + 1 else a) c y)) ∧ (M 12 3 = nI (lkP n c a b).length ∧ ∀ i, i < (lkP n c a b).length → M 17 i = nI ((lkP n c a b).getD i 0)) ∧ ∀ q j, q ≠ 17 → q ≠ 18 → q ≠ 19 → ¬ (q = 12 ∧ j = 3) → M q j = M0 q j
theorem mRow_lt {n j a : Nat} {c : tC} (h : tO n c) (ha : a < n) (hj : j ≤ n) : mRow j c a < 2 ^ 8 := zim_lt (fun i hi hp => by simpa using hp)
theorem mCol_lt {j b : Nat} {c : tC} : mCol j c b < 2 ^ 8 := zim_lt (fun i hi hp => by simpa using hp)
theorem hg0 {n a : Nat} {c : tC} (h : tO n c) (ha : a < n) : hg c a 0 = [] := by
  have h8 := h.1.2
  unfold hg
  rw [(h.2.1 a ha).2, decide_eq_false (by omega)]
  rfl
theorem hgl (c : tC) (a b : Nat) : (hg c a b).length ≤ 1 := by unfold hg; cases decide (8 ≤ c a b) <;> simp
theorem hseg_len {n a : Nat} {c : tC} (h : tO n c) (ha : a < n) : ∀ b, (segs (hg c a) 0 b).length ≤ b - 1
  | 0 => by simp [segs]
  | b + 1 => by
    rw [segs_snoc, Nat.zero_add, List.length_append]
    have := hseg_len h ha b
    rcases Nat.eq_zero_or_pos b with g | g
    · subst g
      rw [hg0 h ha]
      simp [segs]
    · have := hgl c a b
      omega
theorem hrow0 {n : Nat} {c : tC} (h : tO n c) : hrow n c 0 = [] := by
  have h8 := h.1.2
  cases hq : hrow n c 0 with
  | nil => rfl
  | cons v l =>
    obtain ⟨b, b1, b2, b3⟩ := hrow_mem (v := v) (by rw [hq]; exact List.mem_cons_self)
    rw [(h.2.1 b b1).1] at b3
    omega
theorem hrows_len {n : Nat} {c : tC} (h : tO n c) (h6 : n ≤ 6) : ∀ a, a ≤ n → (segs (hrow n c) 0 a).length ≤ 5 * (a - 1)
  | 0, _ => by simp [segs]
  | a + 1, ha => by
    rw [segs_snoc, Nat.zero_add, List.length_append]
    have := hrows_len h h6 a (by omega)
    rcases Nat.eq_zero_or_pos a with g | g
    · subst g
      rw [hrow0 h]
      simp [segs]
    · have : (hrow n c a).length ≤ n - 1 := hseg_len h (show a < n by omega) n
      omega
theorem lkP_len {n a b : Nat} {c : tC} (h : tO n c) (h6 : n ≤ 6) (ha : a < n) (hb : b < n) (hc : 8 ≤ c a b) : (lkP n c a b).length < 25 := by
  have h1 := hrows_len h h6 a (by omega)
  have h2 := hseg_len h ha b
  have h8 := h.1.2
  unfold lkP
  rw [List.length_append]
  have a1 : 1 ≤ a := by
    rcases Nat.eq_zero_or_pos a with g | g
    · subst g
      rw [(h.2.1 b hb).1] at hc
      omega
    · exact g
  have b1 : 1 ≤ b := by
    rcases Nat.eq_zero_or_pos b with g | g
    · subst g
      rw [(h.2.1 a ha).2] at hc
      omega
    · exact g
  omega
theorem lkP_s (n : Nat) (c : tC) (a b : Nat) : lkP n c a (b + 1) = lkP n c a b ++ hg c a b := by
  unfold lkP
  rw [segs_snoc, Nat.zero_add, List.append_assoc]
theorem mRow_s (c : tC) (a b : Nat) : mRow (b + 1) c a = mRow b c a ||| (bif decide (c a b < 8) then 2 ^ c a b else 0) := rfl
theorem mCol_s (c : tC) (a b : Nat) : mCol (a + 1) c b = mCol a c b ||| (bif decide (c a b < 8) then 2 ^ c a b else 0) := rfl
theorem zcl_nm (v : Nat) : xe_cd .ne (zcl (-1) v) (-1) = !decide (8 ≤ v) := by
  have := zcl_m1 v
  show (!decide (zcl (-1) v = -1)) = _
  rw [show decide (zcl (-1) v = -1) = decide (8 ≤ v) from this]
theorem qE_look2 {M0 M : zM} {n a : Nat} {c : tC} (ho : tO n c) (h6 : n ≤ 6) (hT : kT M0 15 n c) (ha : a < n) (hL : LK M0 n c a 0 M) : zwp (zwh zc_Endings_lookOver_2 zs_Endings_lookOver_2) [some (Value.ref (12)), some (Value.int (nI a)), some (Value.int (nI 0)), none] M (fun r ls M' => r = none ∧ ls = [some (Value.ref (12)), some (Value.int (nI a)), some (Value.int (nI n)), none] ∧ LK M0 n c a n M') := by
  have h8 := ho.1.2
  have kt : ∀ {b : Nat} {M : zM}, LK M0 n c a b M → kT M 15 n c := fun g => hT.same (fun j => g.2.2.2 _ _ (by omega) (by omega) (by omega) (by omega)) (fun j => g.2.2.2 _ _ (by omega) (by omega) (by omega) (by omega))
  refine zwh_inv (fun j ls M => ls = [some (Value.ref (12)), some (Value.int (nI a)), some (Value.int (nI j)), none] ∧ LK M0 n c a j M) (n := n) ?_ n 0 (by omega) ?_ _ _ ⟨rfl, hL⟩
  · rintro ls M ⟨rfl, g⟩
    refine ⟨?_, rfl, rfl, g⟩
    simp (disch := omega) [zc_Endings_lookOver_2, zmeth, xm_en, zret, zretz, zretv, zseq, zst, zinc, zkl, zskip, zk, zi, za, zbin, zdiv, zrem, zgi, zgr, zld, zldr, zlen, zn, zc, zcall, zcallv, zrcv, zdo, zdov, zpf, zpfc, zas, zasc, zmin, zmax, zcmp, zcz, zand_e, zor_e, zite_e, zbite_e, zif_e, znot_e, z_add, z_sub, z_mul, z_and, z_or, z_xor, z_shl, z_shr, zcpy, -List.getElem?_cons_succ, zg_0, zg_1, zg_2, zg_3, zg_4, zg_5, zg_6, zg_7, zg_8, zg_9, zc_lt, zc_le, zc_gt, zc_ge, zc_eq, zc_ne, zc_lt0, zc_ge0, zc_gt0, zc_eq0, zc_ne0, zb_ne, zb_eq, zb_01, z_00, z_01, z_11, zb_f, zb_T, zb_F, zbm1, zbm2, zbm5, zbm6, zbm3, zbm4, nI_clamp, zmod_n, pk_div, nI_ne0, pk_mul, nI_add, nI_1, zt_0, zt_12, zt_20, zt_26, zt_32, zf_0_0, zf_0_1, zf_0_2, zf_0_3, zf_0_4, zf_12_0, zf_12_1, zf_12_2, zf_12_4, zf_12_5, zf_20_1, zf_20_2, zf_20_3, zf_20_4, zf_20_6, zf_26_0, zf_26_1, zf_26_2, zf_26_3, zf_32_0, zf_32_1, zf_32_3, zf_32_4, zf_32_5, zf_32_6, ztb_tag tb15, (kt g).1]
  · rintro j ls M _ hj ⟨rfl, g⟩
    refine ⟨?_, ?_⟩
    · simp (disch := omega) [zc_Endings_lookOver_2, zmeth, xm_en, zret, zretz, zretv, zseq, zst, zinc, zkl, zskip, zk, zi, za, zbin, zdiv, zrem, zgi, zgr, zld, zldr, zlen, zn, zc, zcall, zcallv, zrcv, zdo, zdov, zpf, zpfc, zas, zasc, zmin, zmax, zcmp, zcz, zand_e, zor_e, zite_e, zbite_e, zif_e, znot_e, z_add, z_sub, z_mul, z_and, z_or, z_xor, z_shl, z_shr, zcpy, -List.getElem?_cons_succ, zg_0, zg_1, zg_2, zg_3, zg_4, zg_5, zg_6, zg_7, zg_8, zg_9, zc_lt, zc_le, zc_gt, zc_ge, zc_eq, zc_ne, zc_lt0, zc_ge0, zc_gt0, zc_eq0, zc_ne0, zb_ne, zb_eq, zb_01, z_00, z_01, z_11, zb_f, zb_T, zb_F, zbm1, zbm2, zbm5, zbm6, zbm3, zbm4, nI_clamp, zmod_n, pk_div, nI_ne0, pk_mul, nI_add, nI_1, zt_0, zt_12, zt_20, zt_26, zt_32, zf_0_0, zf_0_1, zf_0_2, zf_0_3, zf_0_4, zf_12_0, zf_12_1, zf_12_2, zf_12_4, zf_12_5, zf_20_1, zf_20_2, zf_20_3, zf_20_4, zf_20_6, zf_26_0, zf_26_1, zf_26_2, zf_26_3, zf_32_0, zf_32_1, zf_32_3, zf_32_4, zf_32_5, zf_32_6, ztb_tag tb15, (kt g).1, hj]
    · have cell := qT_cell tb15 (kt g) h8 ha hj
      obtain ⟨g1, g2, ⟨g3, g4⟩, g5⟩ := g
      by_cases hc : 8 ≤ c a j
      · have hl := lkP_len ho h6 ha hj hc
        have eg : hg c a j = [8 * a + j] := by unfold hg; rw [decide_eq_true hc]; rfl
        have dz : decide (c a j < 8) = false := decide_eq_false (by omega)
        refine ⟨none, [some (Value.ref (12)), some (Value.int (nI a)), some (Value.int (nI (j + 1))), none], zup (zup M 17 (lkP n c a j).length (nI (8 * a + j))) 12 3 (nI ((lkP n c a j).length + 1)), ?_, rfl, ?_, ?_, ⟨?_, ?_⟩, ?_⟩
        · have v3 : zup M 17 (lkP n c a j).length (nI (8 * a + j)) 12 3 = nI (lkP n c a j).length := by rw [zup_e, if_neg (by omega)]; exact g3
          simp (disch := omega) [zs_Endings_lookOver_2, zmeth, xm_en, zret, zretz, zretv, zseq, zst, zinc, zkl, zskip, zk, zi, za, zbin, zdiv, zrem, zgi, zgr, zld, zldr, zlen, zn, zc, zcall, zcallv, zrcv, zdo, zdov, zpf, zpfc, zas, zasc, zmin, zmax, zcmp, zcz, zand_e, zor_e, zite_e, zbite_e, zif_e, znot_e, z_add, z_sub, z_mul, z_and, z_or, z_xor, z_shl, z_shr, zcpy, -List.getElem?_cons_succ, zg_0, zg_1, zg_2, zg_3, zg_4, zg_5, zg_6, zg_7, zg_8, zg_9, zc_lt, zc_le, zc_gt, zc_ge, zc_eq, zc_ne, zc_lt0, zc_ge0, zc_gt0, zc_eq0, zc_ne0, zb_ne, zb_eq, zb_01, z_00, z_01, z_11, zb_f, zb_T, zb_F, zbm1, zbm2, zbm5, zbm6, zbm3, zbm4, nI_clamp, zmod_n, pk_div, nI_ne0, pk_mul, nI_add, nI_1, zt_0, zt_12, zt_20, zt_26, zt_32, zf_0_0, zf_0_1, zf_0_2, zf_0_3, zf_0_4, zf_12_0, zf_12_1, zf_12_2, zf_12_4, zf_12_5, zf_20_1, zf_20_2, zf_20_3, zf_20_4, zf_20_6, zf_26_0, zf_26_1, zf_26_2, zf_26_3, zf_32_0, zf_32_1, zf_32_3, zf_32_4, zf_32_5, zf_32_6, ztb_tag tb15, cell, zcl_nm, hc, g3, hl, zi_17, v3]
        · intro x hx
          rw [zup_e, if_neg (by omega), zup_e, if_neg (by omega), g1 x hx, mRow_s, dz]
          simp
        · intro y hy
          rw [zup_e, if_neg (by omega), zup_e, if_neg (by omega), g2 y hy]
          congr 1
          by_cases q : y = j
          · subst q
            rw [if_neg (by omega), if_pos (by omega), mCol_s, dz]
            simp
          · have : y < j + 1 ↔ y < j := by omega
            simp only [this]
        · rw [zup_e, if_pos ⟨rfl, rfl⟩, lkP_s, eg, List.length_append]
          rfl
        · intro i hi
          rw [lkP_s, eg, List.length_append, List.length_singleton] at hi
          rw [zup_e, if_neg (by omega), zup_e, lkP_s, eg]
          by_cases q : i = (lkP n c a j).length
          · rw [if_pos ⟨rfl, q⟩, q, getD_r (Nat.le_refl _), Nat.sub_self]
            rfl
          · rw [if_neg (by omega), getD_l (by omega)]
            exact g4 i (by omega)
        · intro q i q1 q2 q3 q4
          rw [zup_e, if_neg (by omega), zup_e, if_neg (by omega)]
          exact g5 q i q1 q2 q3 q4
      · have hv : c a j < 8 := by omega
        have eg : hg c a j = [] := by unfold hg; rw [decide_eq_false hc]; rfl
        have dz : decide (c a j < 8) = true := decide_eq_true hv
        have s1 := nI_shl1 (v := c a j) (by omega)
        have ez : zcl (-1) (c a j) = nI (c a j) := zcl_lt hv
        have r18 := g1 a ha
        rw [if_neg (by omega), if_pos rfl] at r18
        have r19 := g2 j hj
        rw [if_neg (by omega)] at r19
        rw [ez] at cell
        have en : xe_cd .ne (nI (c a j)) (-1) = true := by rw [← ez, zcl_nm]; simp [hc]
        have r19' : zup M 18 a (nI (mRow j c a ||| 2 ^ c a j)) 19 j = nI (mCol a c j) := by rw [zup_e, if_neg (by omega)]; exact r19
        refine ⟨none, [some (Value.ref (12)), some (Value.int (nI a)), some (Value.int (nI (j + 1))), none], zup (zup M 18 a (nI (mRow j c a ||| 2 ^ c a j))) 19 j (nI (mCol a c j ||| 2 ^ c a j)), ?_, rfl, ?_, ?_, ⟨?_, ?_⟩, ?_⟩
        · simp (disch := omega) [zs_Endings_lookOver_2, zmeth, xm_en, zret, zretz, zretv, zseq, zst, zinc, zkl, zskip, zk, zi, za, zbin, zdiv, zrem, zgi, zgr, zld, zldr, zlen, zn, zc, zcall, zcallv, zrcv, zdo, zdov, zpf, zpfc, zas, zasc, zmin, zmax, zcmp, zcz, zand_e, zor_e, zite_e, zbite_e, zif_e, znot_e, z_add, z_sub, z_mul, z_and, z_or, z_xor, z_shl, z_shr, zcpy, -List.getElem?_cons_succ, zg_0, zg_1, zg_2, zg_3, zg_4, zg_5, zg_6, zg_7, zg_8, zg_9, zc_lt, zc_le, zc_gt, zc_ge, zc_eq, zc_ne, zc_lt0, zc_ge0, zc_gt0, zc_eq0, zc_ne0, zb_ne, zb_eq, zb_01, z_00, z_01, z_11, zb_f, zb_T, zb_F, zbm1, zbm2, zbm5, zbm6, zbm3, zbm4, nI_clamp, zmod_n, pk_div, nI_ne0, pk_mul, nI_add, nI_1, zt_0, zt_12, zt_20, zt_26, zt_32, zf_0_0, zf_0_1, zf_0_2, zf_0_3, zf_0_4, zf_12_0, zf_12_1, zf_12_2, zf_12_4, zf_12_5, zf_20_1, zf_20_2, zf_20_3, zf_20_4, zf_20_6, zf_26_0, zf_26_1, zf_26_2, zf_26_3, zf_32_0, zf_32_1, zf_32_3, zf_32_4, zf_32_5, zf_32_6, ztb_tag tb15, cell, en, s1, nI_or, zi_18, zi_19, r18, r19']
        · intro x hx
          rw [zup_e, if_neg (by omega), zup_e]
          by_cases q : x = a
          · rw [if_pos ⟨rfl, q⟩, if_neg (by omega), if_pos q, mRow_s, dz]
            rfl
          · rw [if_neg (by omega), g1 x hx, if_neg q, if_neg q]
        · intro y hy
          rw [zup_e]
          by_cases q : y = j
          · rw [if_pos ⟨rfl, q⟩, q, if_pos (by omega), mCol_s, dz]
            rfl
          · rw [if_neg (by omega), zup_e, if_neg (by omega), g2 y hy]
            have : y < j + 1 ↔ y < j := by omega
            simp only [this]
        · rw [zup_e, if_neg (by omega), zup_e, if_neg (by omega), g3, lkP_s, eg, List.append_nil]
        · intro i hi
          rw [lkP_s, eg, List.append_nil] at hi ⊢
          rw [zup_e, if_neg (by omega), zup_e, if_neg (by omega)]
          exact g4 i hi
        · intro q i q1 q2 q3 q4
          rw [zup_e, if_neg (by omega), zup_e, if_neg (by omega)]
          exact g5 q i q1 q2 q3 q4
theorem LK_r {M0 M : zM} {n a : Nat} {c : tC} (h : LK M0 n c a n M) : LK M0 n c (a + 1) 0 M := by
  obtain ⟨g1, g2, ⟨g3, g4⟩, g5⟩ := h
  have e : lkP n c (a + 1) 0 = lkP n c a n := by
    unfold lkP
    rw [segs_snoc, Nat.zero_add]
    simp [segs, hrow]
  refine ⟨fun x hx => ?_, fun y hy => ?_, ⟨by rw [e]; exact g3, fun i hi => by rw [e] at hi ⊢; exact g4 i hi⟩, g5⟩
  · rw [g1 x hx]
    congr 1
    by_cases q : x < a
    · rw [if_pos q, if_pos (by omega)]
    · rw [if_neg q]
      by_cases q2 : x = a
      · rw [if_pos q2, if_pos (by omega), q2]
      · rw [if_neg q2, if_neg (by omega)]
        split
        · rfl
        · rfl
  · rw [g2 y hy, if_pos hy, if_neg (by omega)]
theorem qE_look {M : zM} {n : Nat} {c : tC} (ho : tO n c) (h6 : n ≤ 6) (hT : kT M 15 n c) : ∃ M', zf_Endings_lookOver [.ref 12] M = some (none, M') ∧ (∀ a, a < n → M' 18 a = nI (mRow n c a)) ∧ (∀ b, b < n → M' 19 b = nI (mCol n c b)) ∧ (M' 12 3 = nI (holes n c).length ∧ ∀ i, i < (holes n c).length → M' 17 i = nI ((holes n c).getD i 0)) ∧ ∀ q j, q ≠ 17 → q ≠ 18 → q ≠ 19 → ¬ (q = 12 ∧ j = 3) → M' q j = M q j := by
  have h8 := ho.1.2
  have f1 := qA_fill (M := M) (k := 18) (N := 8) (v := nI 0) rfl (by decide)
  have f2 := qA_fill (M := zfl M 18 8 (nI 0)) (k := 19) (N := 8) (v := nI 0) rfl (by decide)
  have L0 : LK M n c 0 0 (zup (zfl (zfl M 18 8 (nI 0)) 19 8 (nI 0)) 12 3 (nI 0)) := by
    refine ⟨fun x hx => ?_, fun y hy => ?_, ⟨?_, fun i hi => ?_⟩, fun q j q1 q2 q3 q4 => ?_⟩
    · rw [zup_e, if_neg (by omega)]
      unfold zfl
      rw [if_neg (by omega), if_pos (by omega), if_neg (by omega)]
      split
      · rfl
      · rfl
    · rw [zup_e, if_neg (by omega)]
      unfold zfl
      rw [if_pos (by omega), if_neg (by omega)]
      rfl
    · rw [zup_e, if_pos ⟨rfl, rfl⟩]
      rfl
    · simp [lkP, segs] at hi
    · rw [zup_e, if_neg q4]
      unfold zfl
      rw [if_neg (by omega), if_neg (by omega)]
  have W := zwh_inv (c := zc_Endings_lookOver_1) (s := zs_Endings_lookOver_1) (fun j ls M' => ls = [some (Value.ref (12)), some (Value.int (nI j)), none, none] ∧ LK M n c j 0 M') (Q := fun r ls M' => r = none ∧ ls = [some (Value.ref (12)), some (Value.int (nI n)), none, none] ∧ LK M n c n 0 M') (n := n) ?_ n 0 (by omega) ?_ _ _ ⟨rfl, L0⟩
  · obtain ⟨r, ls, M', g, rfl, rfl, g1, g2, g3, g5⟩ := W
    have e : lkP n c n 0 = holes n c := by
      unfold lkP holes
      simp [segs]
    rw [e] at g3
    refine ⟨M', ?_, fun a ha => ?_, fun b hb => ?_, g3, g5⟩
    · simp (disch := omega) [zf_Endings_lookOver, zmeth, xm_en, zret, zretz, zretv, zseq, zst, zinc, zkl, zskip, zk, zi, za, zbin, zdiv, zrem, zgi, zgr, zld, zldr, zlen, zn, zc, zcall, zcallv, zrcv, zdo, zdov, zpf, zpfc, zas, zasc, zmin, zmax, zcmp, zcz, zand_e, zor_e, zite_e, zbite_e, zif_e, znot_e, z_add, z_sub, z_mul, z_and, z_or, z_xor, z_shl, z_shr, zcpy, -List.getElem?_cons_succ, zg_0, zg_1, zg_2, zg_3, zg_4, zg_5, zg_6, zg_7, zg_8, zg_9, zt_0, zt_12, zt_20, zt_26, zt_32, zf_0_0, zf_0_1, zf_0_2, zf_0_3, zf_0_4, zf_12_0, zf_12_1, zf_12_2, zf_12_4, zf_12_5, zf_20_1, zf_20_2, zf_20_3, zf_20_4, zf_20_6, zf_26_0, zf_26_1, zf_26_2, zf_26_3, zf_32_0, zf_32_1, zf_32_3, zf_32_4, zf_32_5, zf_32_6, f1, f2, g]
    · rw [g1 a ha, if_pos ha]
    · rw [g2 b hb, if_neg (by omega)]
  · rintro ls M' ⟨rfl, g⟩
    refine ⟨?_, rfl, rfl, g⟩
    have kt : M' 15 0 = nI n := (g.2.2.2 _ _ (by omega) (by omega) (by omega) (by omega)).trans hT.1
    simp (disch := omega) [zc_Endings_lookOver_1, zmeth, xm_en, zret, zretz, zretv, zseq, zst, zinc, zkl, zskip, zk, zi, za, zbin, zdiv, zrem, zgi, zgr, zld, zldr, zlen, zn, zc, zcall, zcallv, zrcv, zdo, zdov, zpf, zpfc, zas, zasc, zmin, zmax, zcmp, zcz, zand_e, zor_e, zite_e, zbite_e, zif_e, znot_e, z_add, z_sub, z_mul, z_and, z_or, z_xor, z_shl, z_shr, zcpy, -List.getElem?_cons_succ, zg_0, zg_1, zg_2, zg_3, zg_4, zg_5, zg_6, zg_7, zg_8, zg_9, zc_lt, zc_le, zc_gt, zc_ge, zc_eq, zc_ne, zc_lt0, zc_ge0, zc_gt0, zc_eq0, zc_ne0, zb_ne, zb_eq, zb_01, z_00, z_01, z_11, zb_f, zb_T, zb_F, zbm1, zbm2, zbm5, zbm6, zbm3, zbm4, nI_clamp, zmod_n, pk_div, nI_ne0, pk_mul, nI_add, nI_1, zt_0, zt_12, zt_20, zt_26, zt_32, zf_0_0, zf_0_1, zf_0_2, zf_0_3, zf_0_4, zf_12_0, zf_12_1, zf_12_2, zf_12_4, zf_12_5, zf_20_1, zf_20_2, zf_20_3, zf_20_4, zf_20_6, zf_26_0, zf_26_1, zf_26_2, zf_26_3, zf_32_0, zf_32_1, zf_32_3, zf_32_4, zf_32_5, zf_32_6, ztb_tag tb15, kt]
  · rintro j ls M' _ hj ⟨rfl, g⟩
    have kt : M' 15 0 = nI n := (g.2.2.2 _ _ (by omega) (by omega) (by omega) (by omega)).trans hT.1
    refine ⟨?_, ?_⟩
    · simp (disch := omega) [zc_Endings_lookOver_1, zmeth, xm_en, zret, zretz, zretv, zseq, zst, zinc, zkl, zskip, zk, zi, za, zbin, zdiv, zrem, zgi, zgr, zld, zldr, zlen, zn, zc, zcall, zcallv, zrcv, zdo, zdov, zpf, zpfc, zas, zasc, zmin, zmax, zcmp, zcz, zand_e, zor_e, zite_e, zbite_e, zif_e, znot_e, z_add, z_sub, z_mul, z_and, z_or, z_xor, z_shl, z_shr, zcpy, -List.getElem?_cons_succ, zg_0, zg_1, zg_2, zg_3, zg_4, zg_5, zg_6, zg_7, zg_8, zg_9, zc_lt, zc_le, zc_gt, zc_ge, zc_eq, zc_ne, zc_lt0, zc_ge0, zc_gt0, zc_eq0, zc_ne0, zb_ne, zb_eq, zb_01, z_00, z_01, z_11, zb_f, zb_T, zb_F, zbm1, zbm2, zbm5, zbm6, zbm3, zbm4, nI_clamp, zmod_n, pk_div, nI_ne0, pk_mul, nI_add, nI_1, zt_0, zt_12, zt_20, zt_26, zt_32, zf_0_0, zf_0_1, zf_0_2, zf_0_3, zf_0_4, zf_12_0, zf_12_1, zf_12_2, zf_12_4, zf_12_5, zf_20_1, zf_20_2, zf_20_3, zf_20_4, zf_20_6, zf_26_0, zf_26_1, zf_26_2, zf_26_3, zf_32_0, zf_32_1, zf_32_3, zf_32_4, zf_32_5, zf_32_6, ztb_tag tb15, kt, hj]
    · obtain ⟨r, ls2, M2, e1, rfl, rfl, e2⟩ := qE_look2 ho h6 hT hj g
      refine ⟨none, [some (Value.ref (12)), some (Value.int (nI (j + 1))), none, none], M2, ?_, rfl, LK_r e2⟩
      simp (disch := omega) [zs_Endings_lookOver_1, zmeth, xm_en, zret, zretz, zretv, zseq, zst, zinc, zkl, zskip, zk, zi, za, zbin, zdiv, zrem, zgi, zgr, zld, zldr, zlen, zn, zc, zcall, zcallv, zrcv, zdo, zdov, zpf, zpfc, zas, zasc, zmin, zmax, zcmp, zcz, zand_e, zor_e, zite_e, zbite_e, zif_e, znot_e, z_add, z_sub, z_mul, z_and, z_or, z_xor, z_shl, z_shr, zcpy, -List.getElem?_cons_succ, zg_0, zg_1, zg_2, zg_3, zg_4, zg_5, zg_6, zg_7, zg_8, zg_9, zc_lt, zc_le, zc_gt, zc_ge, zc_eq, zc_ne, zc_lt0, zc_ge0, zc_gt0, zc_eq0, zc_ne0, zb_ne, zb_eq, zb_01, z_00, z_01, z_11, zb_f, zb_T, zb_F, zbm1, zbm2, zbm5, zbm6, zbm3, zbm4, nI_clamp, zmod_n, pk_div, nI_ne0, pk_mul, nI_add, nI_1, e1]
