/-! TABLES: cells as numbers, 8 is an empty one -/
def zcl (e : Int32) (v : Nat) : Int32 := if v < 8 then nI v else e
abbrev tC : Type := Nat → Nat → Nat
def kT (M : zM) (k n : Nat) (c : tC) : Prop := M k 0 = nI n ∧ ∀ a b, a < n → b < n → M (k + 1) (8 * a + b) = zcl (-1) (c a b)
def rT (M : zM) (t n : Nat) (c : tC) : Prop := M 33 t = nI n ∧ ∀ a b, a < n → b < n → M 34 (64 * t + 8 * a + b) = zcl (-4) (c a b)
/-- a latin table with a unit, cells may be empty -/
def tO (n : Nat) (c : tC) : Prop := (1 ≤ n ∧ n ≤ 8) ∧ (∀ a, a < n → c 0 a = a ∧ c a 0 = a) ∧ (∀ a b, a < n → b < n → c a b < n ∨ c a b = 8) ∧ (∀ a b d, a < n → b < n → d < n → c a b = c a d → c a b < 8 → b = d) ∧ (∀ a b d, a < n → b < n → d < n → c a d = c b d → c a d < 8 → a = b)
def tF (n : Nat) (c : tC) : Prop := ∀ a b, a < n → b < n → c a b < n
def tE (c : tC) (n : Nat) (a : Nat) : Nat := zsum (fun b => if 8 ≤ c a b then 1 else 0) n
theorem tE_le (c : tC) (n a : Nat) : tE c n a ≤ n := zsum_b (fun i => by split <;> omega)
theorem zcl_lt {e : Int32} {v : Nat} (h : v < 8) : zcl e v = nI v := if_pos h
theorem zcl_ge {e : Int32} {v : Nat} (h : ¬ v < 8) : zcl e v = e := if_neg h
theorem zcl_m1 (v : Nat) : xe_cd .eq (zcl (-1) v) (-1) = decide (8 ≤ v) := by
  unfold zcl
  by_cases h : v < 8
  · rw [if_pos h]
    have : ¬ 8 ≤ v := by omega
    rw [decide_eq_false this]
    match v, h with
    | 0, _ => decide
    | 1, _ => decide
    | 2, _ => decide
    | 3, _ => decide
    | 4, _ => decide
    | 5, _ => decide
    | 6, _ => decide
    | 7, _ => decide
    | n + 8, h => omega
  · rw [if_neg h]
    have : 8 ≤ v := by omega
    rw [decide_eq_true this]
    decide
theorem zcl_m4 (v : Nat) : xe_cd .lt (zcl (-4) v) 0 = decide (8 ≤ v) := by
  unfold zcl
  by_cases h : v < 8
  · rw [if_pos h, zc_lt0 (by omega)]
    have : ¬ 8 ≤ v := by omega
    rw [decide_eq_false this]
  · rw [if_neg h]
    have : 8 ≤ v := by omega
    rw [decide_eq_true this]
    decide
theorem qT_cell {M : zM} {k n a b : Nat} {c : tC} (hk : ztb k) (h : kT M k n c) (h8 : n ≤ 8) (ha : a < n) (hb : b < n) : zf_Table_times [.ref k, .int (nI a), .int (nI b)] M = some (some (zcl (-1) (c a b)), M) := by
  rw [qT_times hk h.1 h8 ha hb, h.2 a b ha hb]
theorem qM_rcell {M : zM} {t n a b : Nat} {c : tC} (ht : t < 6) (h : rT M t n c) (h8 : n ≤ 8) (ha : a < n) (hb : b < n) : zf_M_cell [.ref 32, .int (nI t), .int (nI a), .int (nI b)] M = some (some (zcl (-4) (c a b)), M) := by
  rw [qM_cell (by omega), h.2 a b ha hb]
theorem qT_countEmpty2 {M : zM} {k n a x : Nat} {c : tC} (hk : ztb k) (h : kT M k n c) (h8 : n ≤ 8) (h0 : ∀ a, a < n → c a 0 = a) (ha : a < n) (hx : x ≤ 100) : zwh zc_Table_countEmpty_2 zs_Table_countEmpty_2 [some (Value.ref (k)), some (Value.int (nI x)), some (Value.int (nI a)), some (Value.int (nI 1))] M = some (none, [some (Value.ref (k)), some (Value.int (nI (x + tE c n a))), some (Value.int (nI a)), some (Value.int (nI n))], M) := by
  have e1 : tE c 1 a = 0 := by
    have := h0 a ha
    simp only [tE, zsum, this]
    rw [if_neg (by omega)]
  have hle : ∀ j, j ≤ n → tE c j a ≤ 8 := fun j hj => Nat.le_trans (tE_le c j a) (by omega)
  have R := zwh_up (c := zc_Table_countEmpty_2) (s := zs_Table_countEmpty_2) (fun j => [some (Value.ref (k)), some (Value.int (nI (x + tE c j a))), some (Value.int (nI a)), some (Value.int (nI j))]) (fun _ => M) (n := n) (n - 1) 1 (by omega) ?_ ?_ ?_
  · rw [e1] at R
    exact R
  · intro j h1 h2
    simp (disch := omega) [zc_Table_countEmpty_2, zmeth, xm_en, zret, zretz, zretv, zseq, zst, zinc, zkl, zskip, zk, zi, za, zbin, zdiv, zrem, zgi, zgr, zld, zldr, zlen, zn, zc, zcall, zcallv, zrcv, zdo, zdov, zpf, zpfc, zas, zasc, zmin, zmax, zcmp, zcz, zand_e, zor_e, zite_e, zbite_e, zif_e, znot_e, z_add, z_sub, z_mul, z_and, z_or, z_xor, z_shl, z_shr, zcpy, -List.getElem?_cons_succ, zg_0, zg_1, zg_2, zg_3, zg_4, zg_5, zg_6, zg_7, zg_8, zg_9, zc_lt, zc_le, zc_gt, zc_ge, zc_eq, zc_ne, zc_lt0, zc_ge0, zc_gt0, zc_eq0, zc_ne0, zb_ne, zb_eq, zb_01, z_00, z_01, z_11, zb_f, zb_T, zb_F, zbm1, zbm2, zbm5, zbm6, zbm3, zbm4, nI_clamp, zmod_n, pk_div, nI_ne0, pk_mul, nI_add, nI_1, ztb_tag hk, h.1, h2]
  · intro j h1 h2
    have e2 : tE c (j + 1) a = tE c j a + if 8 ≤ c a j then 1 else 0 := rfl
    by_cases hc : 8 ≤ c a j
    · simp (disch := omega) [zs_Table_countEmpty_2, zmeth, xm_en, zret, zretz, zretv, zseq, zst, zinc, zkl, zskip, zk, zi, za, zbin, zdiv, zrem, zgi, zgr, zld, zldr, zlen, zn, zc, zcall, zcallv, zrcv, zdo, zdov, zpf, zpfc, zas, zasc, zmin, zmax, zcmp, zcz, zand_e, zor_e, zite_e, zbite_e, zif_e, znot_e, z_add, z_sub, z_mul, z_and, z_or, z_xor, z_shl, z_shr, zcpy, -List.getElem?_cons_succ, zg_0, zg_1, zg_2, zg_3, zg_4, zg_5, zg_6, zg_7, zg_8, zg_9, zc_lt, zc_le, zc_gt, zc_ge, zc_eq, zc_ne, zc_lt0, zc_ge0, zc_gt0, zc_eq0, zc_ne0, zb_ne, zb_eq, zb_01, z_00, z_01, z_11, zb_f, zb_T, zb_F, zbm1, zbm2, zbm5, zbm6, zbm3, zbm4, nI_clamp, zmod_n, pk_div, nI_ne0, pk_mul, nI_add, nI_1, ztb_tag hk, qT_cell hk h h8 ha h2, zcl_m1, hc, e2, Nat.add_assoc]
    · simp (disch := omega) [zs_Table_countEmpty_2, zmeth, xm_en, zret, zretz, zretv, zseq, zst, zinc, zkl, zskip, zk, zi, za, zbin, zdiv, zrem, zgi, zgr, zld, zldr, zlen, zn, zc, zcall, zcallv, zrcv, zdo, zdov, zpf, zpfc, zas, zasc, zmin, zmax, zcmp, zcz, zand_e, zor_e, zite_e, zbite_e, zif_e, znot_e, z_add, z_sub, z_mul, z_and, z_or, z_xor, z_shl, z_shr, zcpy, -List.getElem?_cons_succ, zg_0, zg_1, zg_2, zg_3, zg_4, zg_5, zg_6, zg_7, zg_8, zg_9, zc_lt, zc_le, zc_gt, zc_ge, zc_eq, zc_ne, zc_lt0, zc_ge0, zc_gt0, zc_eq0, zc_ne0, zb_ne, zb_eq, zb_01, z_00, z_01, z_11, zb_f, zb_T, zb_F, zbm1, zbm2, zbm5, zbm6, zbm3, zbm4, nI_clamp, zmod_n, pk_div, nI_ne0, pk_mul, nI_add, nI_1, ztb_tag hk, qT_cell hk h h8 ha h2, zcl_m1, hc, e2]
  · simp (disch := omega) [zc_Table_countEmpty_2, zmeth, xm_en, zret, zretz, zretv, zseq, zst, zinc, zkl, zskip, zk, zi, za, zbin, zdiv, zrem, zgi, zgr, zld, zldr, zlen, zn, zc, zcall, zcallv, zrcv, zdo, zdov, zpf, zpfc, zas, zasc, zmin, zmax, zcmp, zcz, zand_e, zor_e, zite_e, zbite_e, zif_e, znot_e, z_add, z_sub, z_mul, z_and, z_or, z_xor, z_shl, z_shr, zcpy, -List.getElem?_cons_succ, zg_0, zg_1, zg_2, zg_3, zg_4, zg_5, zg_6, zg_7, zg_8, zg_9, zc_lt, zc_le, zc_gt, zc_ge, zc_eq, zc_ne, zc_lt0, zc_ge0, zc_gt0, zc_eq0, zc_ne0, zb_ne, zb_eq, zb_01, z_00, z_01, z_11, zb_f, zb_T, zb_F, zbm1, zbm2, zbm5, zbm6, zbm3, zbm4, nI_clamp, zmod_n, pk_div, nI_ne0, pk_mul, nI_add, nI_1, ztb_tag hk, h.1]
theorem tE_0 {n : Nat} {c : tC} (h : tO n c) : tE c n 0 = 0 := by
  refine zsum_0.mpr (fun i hi => ?_)
  rw [(h.2.1 i hi).1, if_neg (by have := h.1.2; omega)]
def tN (n : Nat) (c : tC) : Nat := zsum (tE c n) n
theorem tN_le {n : Nat} {c : tC} (h8 : n ≤ 8) {j : Nat} (hj : j ≤ 8) : zsum (tE c n) j ≤ 64 := by
  have := zsum_le (f := tE c n) (b := 8) (n := j) (fun i _ => Nat.le_trans (tE_le c n i) h8)
  omega
theorem qT_countEmpty {M : zM} {k n : Nat} {c : tC} (hk : ztb k) (h : kT M k n c) (ho : tO n c) : zf_Table_countEmpty [.ref k] M = some (some (nI (tN n c)), M) := by
  have h8 := ho.1.2
  have h1 := ho.1.1
  have R := zwh_up (c := zc_Table_countEmpty_1) (s := zs_Table_countEmpty_1) (fun j => [some (Value.ref (k)), some (Value.int (nI (zsum (tE c n) j))), some (Value.int (nI j)), none]) (fun _ => M) (n := n) (n - 1) 1 (by omega) ?_ ?_ ?_
  · have e1 : zsum (tE c n) 1 = 0 := by simp [zsum, tE_0 ho]
    rw [e1] at R
    simp (disch := omega) [zf_Table_countEmpty, zmeth, xm_en, zret, zretz, zretv, zseq, zst, zinc, zkl, zskip, zk, zi, za, zbin, zdiv, zrem, zgi, zgr, zld, zldr, zlen, zn, zc, zcall, zcallv, zrcv, zdo, zdov, zpf, zpfc, zas, zasc, zmin, zmax, zcmp, zcz, zand_e, zor_e, zite_e, zbite_e, zif_e, znot_e, z_add, z_sub, z_mul, z_and, z_or, z_xor, z_shl, z_shr, zcpy, -List.getElem?_cons_succ, zg_0, zg_1, zg_2, zg_3, zg_4, zg_5, zg_6, zg_7, zg_8, zg_9, R, tN]
  · intro j h1 h2
    simp (disch := omega) [zc_Table_countEmpty_1, zmeth, xm_en, zret, zretz, zretv, zseq, zst, zinc, zkl, zskip, zk, zi, za, zbin, zdiv, zrem, zgi, zgr, zld, zldr, zlen, zn, zc, zcall, zcallv, zrcv, zdo, zdov, zpf, zpfc, zas, zasc, zmin, zmax, zcmp, zcz, zand_e, zor_e, zite_e, zbite_e, zif_e, znot_e, z_add, z_sub, z_mul, z_and, z_or, z_xor, z_shl, z_shr, zcpy, -List.getElem?_cons_succ, zg_0, zg_1, zg_2, zg_3, zg_4, zg_5, zg_6, zg_7, zg_8, zg_9, zc_lt, zc_le, zc_gt, zc_ge, zc_eq, zc_ne, zc_lt0, zc_ge0, zc_gt0, zc_eq0, zc_ne0, zb_ne, zb_eq, zb_01, z_00, z_01, z_11, zb_f, zb_T, zb_F, zbm1, zbm2, zbm5, zbm6, zbm3, zbm4, nI_clamp, zmod_n, pk_div, nI_ne0, pk_mul, nI_add, nI_1, ztb_tag hk, h.1, h2]
  · intro j h3 h4
    have h5 := tN_le (c := c) h8 (j := j) (by omega)
    have R2 := qT_countEmpty2 (x := zsum (tE c n) j) hk h h8 (fun a ha => (ho.2.1 a ha).2) h4 (by omega)
    simp (disch := omega) [zs_Table_countEmpty_1, zmeth, xm_en, zret, zretz, zretv, zseq, zst, zinc, zkl, zskip, zk, zi, za, zbin, zdiv, zrem, zgi, zgr, zld, zldr, zlen, zn, zc, zcall, zcallv, zrcv, zdo, zdov, zpf, zpfc, zas, zasc, zmin, zmax, zcmp, zcz, zand_e, zor_e, zite_e, zbite_e, zif_e, znot_e, z_add, z_sub, z_mul, z_and, z_or, z_xor, z_shl, z_shr, zcpy, -List.getElem?_cons_succ, zg_0, zg_1, zg_2, zg_3, zg_4, zg_5, zg_6, zg_7, zg_8, zg_9, zc_lt, zc_le, zc_gt, zc_ge, zc_eq, zc_ne, zc_lt0, zc_ge0, zc_gt0, zc_eq0, zc_ne0, zb_ne, zb_eq, zb_01, z_00, z_01, z_11, zb_f, zb_T, zb_F, zbm1, zbm2, zbm5, zbm6, zbm3, zbm4, nI_clamp, zmod_n, pk_div, nI_ne0, pk_mul, nI_add, nI_1, R2, zsum]
  · simp (disch := omega) [zc_Table_countEmpty_1, zmeth, xm_en, zret, zretz, zretv, zseq, zst, zinc, zkl, zskip, zk, zi, za, zbin, zdiv, zrem, zgi, zgr, zld, zldr, zlen, zn, zc, zcall, zcallv, zrcv, zdo, zdov, zpf, zpfc, zas, zasc, zmin, zmax, zcmp, zcz, zand_e, zor_e, zite_e, zbite_e, zif_e, znot_e, z_add, z_sub, z_mul, z_and, z_or, z_xor, z_shl, z_shr, zcpy, -List.getElem?_cons_succ, zg_0, zg_1, zg_2, zg_3, zg_4, zg_5, zg_6, zg_7, zg_8, zg_9, zc_lt, zc_le, zc_gt, zc_ge, zc_eq, zc_ne, zc_lt0, zc_ge0, zc_gt0, zc_eq0, zc_ne0, zb_ne, zb_eq, zb_01, z_00, z_01, z_11, zb_f, zb_T, zb_F, zbm1, zbm2, zbm5, zbm6, zbm3, zbm4, nI_clamp, zmod_n, pk_div, nI_ne0, pk_mul, nI_add, nI_1, ztb_tag hk, h.1]
def tB (n : Nat) (c : tC) : Bool := decide (tN n c = 0)
theorem tB_iff {n : Nat} {c : tC} (h : tO n c) : tB n c = true ↔ tF n c := by
  unfold tB tN
  rw [decide_eq_true_eq, zsum_0]
  constructor
  · intro g a b ha hb
    have g1 := zsum_0.mp (g a ha) b hb
    rcases h.2.2.1 a b ha hb with q | q
    · exact q
    · rw [q] at g1
      simp at g1
  · intro g a ha
    refine zsum_0.mpr (fun b hb => ?_)
    have := g a b ha hb
    rw [if_neg (by have := h.1.2; omega)]
theorem qT_isFull {M : zM} {k n : Nat} {c : tC} (hk : ztb k) (h : kT M k n c) (ho : tO n c) : zf_Table_isFull [.ref k] M = some (some (zb (tB n c)), M) := by
  have h5 := tN_le (c := c) ho.1.2 ho.1.2
  have h6 : tN n c < 2 ^ 31 := by unfold tN; omega
  simp (disch := omega) [zf_Table_isFull, zmeth, xm_en, zret, zretz, zretv, zseq, zst, zinc, zkl, zskip, zk, zi, za, zbin, zdiv, zrem, zgi, zgr, zld, zldr, zlen, zn, zc, zcall, zcallv, zrcv, zdo, zdov, zpf, zpfc, zas, zasc, zmin, zmax, zcmp, zcz, zand_e, zor_e, zite_e, zbite_e, zif_e, znot_e, z_add, z_sub, z_mul, z_and, z_or, z_xor, z_shl, z_shr, zcpy, -List.getElem?_cons_succ, zg_0, zg_1, zg_2, zg_3, zg_4, zg_5, zg_6, zg_7, zg_8, zg_9, zc_lt, zc_le, zc_gt, zc_ge, zc_eq, zc_ne, zc_lt0, zc_ge0, zc_gt0, zc_eq0, zc_ne0, zb_ne, zb_eq, zb_01, z_00, z_01, z_11, zb_f, zb_T, zb_F, zbm1, zbm2, zbm5, zbm6, zbm3, zbm4, nI_clamp, zmod_n, pk_div, nI_ne0, pk_mul, nI_add, nI_1, ztb_tag hk, qT_countEmpty hk h ho, tB]
theorem zcl_eq {e : Int32} {v w : Nat} (hw : w < 8) (he : e < 0) : xe_cd .eq (zcl e v) (nI w) = decide (v = w) := by
  unfold zcl
  by_cases h : v < 8
  · rw [if_pos h, zc_eq (by omega) (by omega)]
  · rw [if_neg h]
    have h2 : ¬ v = w := by omega
    rw [decide_eq_false h2]
    show decide (e = nI w) = false
    refine decide_eq_false (fun h3 => ?_)
    rw [h3] at he
    exact nI_pos (by omega) he
theorem zcl_eq1 {v w : Nat} (hw : w < 8) : xe_cd .eq (zcl (-1) v) (nI w) = decide (v = w) := zcl_eq hw (by decide)
theorem zcl_eq4 {v w : Nat} (hw : w < 8) : xe_cd .eq (zcl (-4) v) (nI w) = decide (v = w) := zcl_eq hw (by decide)
theorem qT_hasInLines {M : zM} {k n a b w : Nat} {c : tC} (hk : ztb k) (h : kT M k n c) (h8 : n ≤ 8) (ha : a < n) (hb : b < n) (hw : w < 8) : zf_Table_hasInLines [.ref k, .int (nI a), .int (nI b), .int (nI w)] M = some (some (zb (decide (zidx (fun x => decide (c a x = w) || decide (c x b = w)) 0 n < n))), M) := by
  have R := zwh_find (c := zc_Table_hasInLines_1) (s := zs_Table_hasInLines_1) (fun j => [some (Value.ref (k)), some (Value.int (nI a)), some (Value.int (nI b)), some (Value.int (nI w)), some (Value.int (nI j))]) M (fun x => decide (c a x = w) || decide (c x b = w)) (fun _ => some (nI 1)) (fun j => [some (Value.ref (k)), some (Value.int (nI a)), some (Value.int (nI b)), some (Value.int (nI w)), some (Value.int (nI j))]) (n := n) ?_ n 0 (by omega) ?_ ?_ ?_
  · by_cases hz : zidx (fun x => decide (c a x = w) || decide (c x b = w)) 0 n < n
    · rw [if_pos hz] at R
      simp (disch := omega) [zf_Table_hasInLines, zmeth, xm_en, zret, zretz, zretv, zseq, zst, zinc, zkl, zskip, zk, zi, za, zbin, zdiv, zrem, zgi, zgr, zld, zldr, zlen, zn, zc, zcall, zcallv, zrcv, zdo, zdov, zpf, zpfc, zas, zasc, zmin, zmax, zcmp, zcz, zand_e, zor_e, zite_e, zbite_e, zif_e, znot_e, z_add, z_sub, z_mul, z_and, z_or, z_xor, z_shl, z_shr, zcpy, -List.getElem?_cons_succ, zg_0, zg_1, zg_2, zg_3, zg_4, zg_5, zg_6, zg_7, zg_8, zg_9, R, hz, zb, z_00]
    · rw [if_neg hz] at R
      simp (disch := omega) [zf_Table_hasInLines, zmeth, xm_en, zret, zretz, zretv, zseq, zst, zinc, zkl, zskip, zk, zi, za, zbin, zdiv, zrem, zgi, zgr, zld, zldr, zlen, zn, zc, zcall, zcallv, zrcv, zdo, zdov, zpf, zpfc, zas, zasc, zmin, zmax, zcmp, zcz, zand_e, zor_e, zite_e, zbite_e, zif_e, znot_e, z_add, z_sub, z_mul, z_and, z_or, z_xor, z_shl, z_shr, zcpy, -List.getElem?_cons_succ, zg_0, zg_1, zg_2, zg_3, zg_4, zg_5, zg_6, zg_7, zg_8, zg_9, R, hz, zb, z_00]
  · simp (disch := omega) [zc_Table_hasInLines_1, zmeth, xm_en, zret, zretz, zretv, zseq, zst, zinc, zkl, zskip, zk, zi, za, zbin, zdiv, zrem, zgi, zgr, zld, zldr, zlen, zn, zc, zcall, zcallv, zrcv, zdo, zdov, zpf, zpfc, zas, zasc, zmin, zmax, zcmp, zcz, zand_e, zor_e, zite_e, zbite_e, zif_e, znot_e, z_add, z_sub, z_mul, z_and, z_or, z_xor, z_shl, z_shr, zcpy, -List.getElem?_cons_succ, zg_0, zg_1, zg_2, zg_3, zg_4, zg_5, zg_6, zg_7, zg_8, zg_9, zc_lt, zc_le, zc_gt, zc_ge, zc_eq, zc_ne, zc_lt0, zc_ge0, zc_gt0, zc_eq0, zc_ne0, zb_ne, zb_eq, zb_01, z_00, z_01, z_11, zb_f, zb_T, zb_F, zbm1, zbm2, zbm5, zbm6, zbm3, zbm4, nI_clamp, zmod_n, pk_div, nI_ne0, pk_mul, nI_add, nI_1, ztb_tag hk, h.1]
  · intro j _ h2
    simp (disch := omega) [zc_Table_hasInLines_1, zmeth, xm_en, zret, zretz, zretv, zseq, zst, zinc, zkl, zskip, zk, zi, za, zbin, zdiv, zrem, zgi, zgr, zld, zldr, zlen, zn, zc, zcall, zcallv, zrcv, zdo, zdov, zpf, zpfc, zas, zasc, zmin, zmax, zcmp, zcz, zand_e, zor_e, zite_e, zbite_e, zif_e, znot_e, z_add, z_sub, z_mul, z_and, z_or, z_xor, z_shl, z_shr, zcpy, -List.getElem?_cons_succ, zg_0, zg_1, zg_2, zg_3, zg_4, zg_5, zg_6, zg_7, zg_8, zg_9, zc_lt, zc_le, zc_gt, zc_ge, zc_eq, zc_ne, zc_lt0, zc_ge0, zc_gt0, zc_eq0, zc_ne0, zb_ne, zb_eq, zb_01, z_00, z_01, z_11, zb_f, zb_T, zb_F, zbm1, zbm2, zbm5, zbm6, zbm3, zbm4, nI_clamp, zmod_n, pk_div, nI_ne0, pk_mul, nI_add, nI_1, ztb_tag hk, h.1, h2]
  · intro j _ h2 hp
    simp only [Bool.or_eq_false_iff, decide_eq_false_iff_not] at hp
    simp (disch := omega) [zs_Table_hasInLines_1, zmeth, xm_en, zret, zretz, zretv, zseq, zst, zinc, zkl, zskip, zk, zi, za, zbin, zdiv, zrem, zgi, zgr, zld, zldr, zlen, zn, zc, zcall, zcallv, zrcv, zdo, zdov, zpf, zpfc, zas, zasc, zmin, zmax, zcmp, zcz, zand_e, zor_e, zite_e, zbite_e, zif_e, znot_e, z_add, z_sub, z_mul, z_and, z_or, z_xor, z_shl, z_shr, zcpy, -List.getElem?_cons_succ, zg_0, zg_1, zg_2, zg_3, zg_4, zg_5, zg_6, zg_7, zg_8, zg_9, zc_lt, zc_le, zc_gt, zc_ge, zc_eq, zc_ne, zc_lt0, zc_ge0, zc_gt0, zc_eq0, zc_ne0, zb_ne, zb_eq, zb_01, z_00, z_01, z_11, zb_f, zb_T, zb_F, zbm1, zbm2, zbm5, zbm6, zbm3, zbm4, nI_clamp, zmod_n, pk_div, nI_ne0, pk_mul, nI_add, nI_1, ztb_tag hk, qT_cell hk h h8 ha h2, qT_cell hk h h8 h2 hb, zcl_eq1 hw, hp.1, hp.2]
  · intro j _ h2 hp
    simp (disch := omega) [zs_Table_hasInLines_1, zmeth, xm_en, zret, zretz, zretv, zseq, zst, zinc, zkl, zskip, zk, zi, za, zbin, zdiv, zrem, zgi, zgr, zld, zldr, zlen, zn, zc, zcall, zcallv, zrcv, zdo, zdov, zpf, zpfc, zas, zasc, zmin, zmax, zcmp, zcz, zand_e, zor_e, zite_e, zbite_e, zif_e, znot_e, z_add, z_sub, z_mul, z_and, z_or, z_xor, z_shl, z_shr, zcpy, -List.getElem?_cons_succ, zg_0, zg_1, zg_2, zg_3, zg_4, zg_5, zg_6, zg_7, zg_8, zg_9, zc_lt, zc_le, zc_gt, zc_ge, zc_eq, zc_ne, zc_lt0, zc_ge0, zc_gt0, zc_eq0, zc_ne0, zb_ne, zb_eq, zb_01, z_00, z_01, z_11, zb_f, zb_T, zb_F, zbm1, zbm2, zbm5, zbm6, zbm3, zbm4, nI_clamp, zmod_n, pk_div, nI_ne0, pk_mul, nI_add, nI_1, ztb_tag hk, qT_cell hk h h8 ha h2, qT_cell hk h h8 h2 hb, zcl_eq1 hw]
    by_cases h5 : c a j = w
    · simp [h5, z_11]
    · have h6 : c j b = w := by simpa [h5] using hp
      simp [h5, h6, z_11]
theorem qT_under {M : zM} {k n a w : Nat} {c : tC} (hk : ztb k) (h : kT M k n c) (h8 : n ≤ 8) (ha : a < n) (hw : w < 8) (hx : zidx (fun b => decide (c a b = w)) 0 n < n) : zf_Table_under [.ref k, .int (nI a), .int (nI w)] M = some (some (nI (zidx (fun b => decide (c a b = w)) 0 n)), M) := by
  have R := zwh_find (c := zc_Table_under_1) (s := zs_Table_under_1) (fun j => [some (Value.ref (k)), some (Value.int (nI a)), some (Value.int (nI w)), some (Value.int (nI j))]) M (fun b => decide (c a b = w)) (fun j => some (nI j)) (fun j => [some (Value.ref (k)), some (Value.int (nI a)), some (Value.int (nI w)), some (Value.int (nI j))]) (n := n) ?_ n 0 (by omega) ?_ ?_ ?_
  · rw [if_pos hx] at R
    simp (disch := omega) [zf_Table_under, zmeth, xm_en, zret, zretz, zretv, zseq, zst, zinc, zkl, zskip, zk, zi, za, zbin, zdiv, zrem, zgi, zgr, zld, zldr, zlen, zn, zc, zcall, zcallv, zrcv, zdo, zdov, zpf, zpfc, zas, zasc, zmin, zmax, zcmp, zcz, zand_e, zor_e, zite_e, zbite_e, zif_e, znot_e, z_add, z_sub, z_mul, z_and, z_or, z_xor, z_shl, z_shr, zcpy, -List.getElem?_cons_succ, zg_0, zg_1, zg_2, zg_3, zg_4, zg_5, zg_6, zg_7, zg_8, zg_9, R]
  · simp (disch := omega) [zc_Table_under_1, zmeth, xm_en, zret, zretz, zretv, zseq, zst, zinc, zkl, zskip, zk, zi, za, zbin, zdiv, zrem, zgi, zgr, zld, zldr, zlen, zn, zc, zcall, zcallv, zrcv, zdo, zdov, zpf, zpfc, zas, zasc, zmin, zmax, zcmp, zcz, zand_e, zor_e, zite_e, zbite_e, zif_e, znot_e, z_add, z_sub, z_mul, z_and, z_or, z_xor, z_shl, z_shr, zcpy, -List.getElem?_cons_succ, zg_0, zg_1, zg_2, zg_3, zg_4, zg_5, zg_6, zg_7, zg_8, zg_9, zc_lt, zc_le, zc_gt, zc_ge, zc_eq, zc_ne, zc_lt0, zc_ge0, zc_gt0, zc_eq0, zc_ne0, zb_ne, zb_eq, zb_01, z_00, z_01, z_11, zb_f, zb_T, zb_F, zbm1, zbm2, zbm5, zbm6, zbm3, zbm4, nI_clamp, zmod_n, pk_div, nI_ne0, pk_mul, nI_add, nI_1, ztb_tag hk, h.1]
  · intro j _ h2
    simp (disch := omega) [zc_Table_under_1, zmeth, xm_en, zret, zretz, zretv, zseq, zst, zinc, zkl, zskip, zk, zi, za, zbin, zdiv, zrem, zgi, zgr, zld, zldr, zlen, zn, zc, zcall, zcallv, zrcv, zdo, zdov, zpf, zpfc, zas, zasc, zmin, zmax, zcmp, zcz, zand_e, zor_e, zite_e, zbite_e, zif_e, znot_e, z_add, z_sub, z_mul, z_and, z_or, z_xor, z_shl, z_shr, zcpy, -List.getElem?_cons_succ, zg_0, zg_1, zg_2, zg_3, zg_4, zg_5, zg_6, zg_7, zg_8, zg_9, zc_lt, zc_le, zc_gt, zc_ge, zc_eq, zc_ne, zc_lt0, zc_ge0, zc_gt0, zc_eq0, zc_ne0, zb_ne, zb_eq, zb_01, z_00, z_01, z_11, zb_f, zb_T, zb_F, zbm1, zbm2, zbm5, zbm6, zbm3, zbm4, nI_clamp, zmod_n, pk_div, nI_ne0, pk_mul, nI_add, nI_1, ztb_tag hk, h.1, h2]
  · intro j _ h2 hp
    simp (disch := omega) [zs_Table_under_1, zmeth, xm_en, zret, zretz, zretv, zseq, zst, zinc, zkl, zskip, zk, zi, za, zbin, zdiv, zrem, zgi, zgr, zld, zldr, zlen, zn, zc, zcall, zcallv, zrcv, zdo, zdov, zpf, zpfc, zas, zasc, zmin, zmax, zcmp, zcz, zand_e, zor_e, zite_e, zbite_e, zif_e, znot_e, z_add, z_sub, z_mul, z_and, z_or, z_xor, z_shl, z_shr, zcpy, -List.getElem?_cons_succ, zg_0, zg_1, zg_2, zg_3, zg_4, zg_5, zg_6, zg_7, zg_8, zg_9, zc_lt, zc_le, zc_gt, zc_ge, zc_eq, zc_ne, zc_lt0, zc_ge0, zc_gt0, zc_eq0, zc_ne0, zb_ne, zb_eq, zb_01, z_00, z_01, z_11, zb_f, zb_T, zb_F, zbm1, zbm2, zbm5, zbm6, zbm3, zbm4, nI_clamp, zmod_n, pk_div, nI_ne0, pk_mul, nI_add, nI_1, ztb_tag hk, qT_cell hk h h8 ha h2, zcl_eq1 hw, hp]
  · intro j _ h2 hp
    simp (disch := omega) [zs_Table_under_1, zmeth, xm_en, zret, zretz, zretv, zseq, zst, zinc, zkl, zskip, zk, zi, za, zbin, zdiv, zrem, zgi, zgr, zld, zldr, zlen, zn, zc, zcall, zcallv, zrcv, zdo, zdov, zpf, zpfc, zas, zasc, zmin, zmax, zcmp, zcz, zand_e, zor_e, zite_e, zbite_e, zif_e, znot_e, z_add, z_sub, z_mul, z_and, z_or, z_xor, z_shl, z_shr, zcpy, -List.getElem?_cons_succ, zg_0, zg_1, zg_2, zg_3, zg_4, zg_5, zg_6, zg_7, zg_8, zg_9, zc_lt, zc_le, zc_gt, zc_ge, zc_eq, zc_ne, zc_lt0, zc_ge0, zc_gt0, zc_eq0, zc_ne0, zb_ne, zb_eq, zb_01, z_00, z_01, z_11, zb_f, zb_T, zb_F, zbm1, zbm2, zbm5, zbm6, zbm3, zbm4, nI_clamp, zmod_n, pk_div, nI_ne0, pk_mul, nI_add, nI_1, ztb_tag hk, qT_cell hk h h8 ha h2, zcl_eq1 hw, hp]
theorem qT_over {M : zM} {k n b w : Nat} {c : tC} (hk : ztb k) (h : kT M k n c) (h8 : n ≤ 8) (hb : b < n) (hw : w < 8) (hx : zidx (fun a => decide (c a b = w)) 0 n < n) : zf_Table_over [.ref k, .int (nI w), .int (nI b)] M = some (some (nI (zidx (fun a => decide (c a b = w)) 0 n)), M) := by
  have R := zwh_find (c := zc_Table_over_1) (s := zs_Table_over_1) (fun j => [some (Value.ref (k)), some (Value.int (nI w)), some (Value.int (nI b)), some (Value.int (nI j))]) M (fun a => decide (c a b = w)) (fun j => some (nI j)) (fun j => [some (Value.ref (k)), some (Value.int (nI w)), some (Value.int (nI b)), some (Value.int (nI j))]) (n := n) ?_ n 0 (by omega) ?_ ?_ ?_
  · rw [if_pos hx] at R
    simp (disch := omega) [zf_Table_over, zmeth, xm_en, zret, zretz, zretv, zseq, zst, zinc, zkl, zskip, zk, zi, za, zbin, zdiv, zrem, zgi, zgr, zld, zldr, zlen, zn, zc, zcall, zcallv, zrcv, zdo, zdov, zpf, zpfc, zas, zasc, zmin, zmax, zcmp, zcz, zand_e, zor_e, zite_e, zbite_e, zif_e, znot_e, z_add, z_sub, z_mul, z_and, z_or, z_xor, z_shl, z_shr, zcpy, -List.getElem?_cons_succ, zg_0, zg_1, zg_2, zg_3, zg_4, zg_5, zg_6, zg_7, zg_8, zg_9, R]
  · simp (disch := omega) [zc_Table_over_1, zmeth, xm_en, zret, zretz, zretv, zseq, zst, zinc, zkl, zskip, zk, zi, za, zbin, zdiv, zrem, zgi, zgr, zld, zldr, zlen, zn, zc, zcall, zcallv, zrcv, zdo, zdov, zpf, zpfc, zas, zasc, zmin, zmax, zcmp, zcz, zand_e, zor_e, zite_e, zbite_e, zif_e, znot_e, z_add, z_sub, z_mul, z_and, z_or, z_xor, z_shl, z_shr, zcpy, -List.getElem?_cons_succ, zg_0, zg_1, zg_2, zg_3, zg_4, zg_5, zg_6, zg_7, zg_8, zg_9, zc_lt, zc_le, zc_gt, zc_ge, zc_eq, zc_ne, zc_lt0, zc_ge0, zc_gt0, zc_eq0, zc_ne0, zb_ne, zb_eq, zb_01, z_00, z_01, z_11, zb_f, zb_T, zb_F, zbm1, zbm2, zbm5, zbm6, zbm3, zbm4, nI_clamp, zmod_n, pk_div, nI_ne0, pk_mul, nI_add, nI_1, ztb_tag hk, h.1]
  · intro j _ h2
    simp (disch := omega) [zc_Table_over_1, zmeth, xm_en, zret, zretz, zretv, zseq, zst, zinc, zkl, zskip, zk, zi, za, zbin, zdiv, zrem, zgi, zgr, zld, zldr, zlen, zn, zc, zcall, zcallv, zrcv, zdo, zdov, zpf, zpfc, zas, zasc, zmin, zmax, zcmp, zcz, zand_e, zor_e, zite_e, zbite_e, zif_e, znot_e, z_add, z_sub, z_mul, z_and, z_or, z_xor, z_shl, z_shr, zcpy, -List.getElem?_cons_succ, zg_0, zg_1, zg_2, zg_3, zg_4, zg_5, zg_6, zg_7, zg_8, zg_9, zc_lt, zc_le, zc_gt, zc_ge, zc_eq, zc_ne, zc_lt0, zc_ge0, zc_gt0, zc_eq0, zc_ne0, zb_ne, zb_eq, zb_01, z_00, z_01, z_11, zb_f, zb_T, zb_F, zbm1, zbm2, zbm5, zbm6, zbm3, zbm4, nI_clamp, zmod_n, pk_div, nI_ne0, pk_mul, nI_add, nI_1, ztb_tag hk, h.1, h2]
  · intro j _ h2 hp
    simp (disch := omega) [zs_Table_over_1, zmeth, xm_en, zret, zretz, zretv, zseq, zst, zinc, zkl, zskip, zk, zi, za, zbin, zdiv, zrem, zgi, zgr, zld, zldr, zlen, zn, zc, zcall, zcallv, zrcv, zdo, zdov, zpf, zpfc, zas, zasc, zmin, zmax, zcmp, zcz, zand_e, zor_e, zite_e, zbite_e, zif_e, znot_e, z_add, z_sub, z_mul, z_and, z_or, z_xor, z_shl, z_shr, zcpy, -List.getElem?_cons_succ, zg_0, zg_1, zg_2, zg_3, zg_4, zg_5, zg_6, zg_7, zg_8, zg_9, zc_lt, zc_le, zc_gt, zc_ge, zc_eq, zc_ne, zc_lt0, zc_ge0, zc_gt0, zc_eq0, zc_ne0, zb_ne, zb_eq, zb_01, z_00, z_01, z_11, zb_f, zb_T, zb_F, zbm1, zbm2, zbm5, zbm6, zbm3, zbm4, nI_clamp, zmod_n, pk_div, nI_ne0, pk_mul, nI_add, nI_1, ztb_tag hk, qT_cell hk h h8 h2 hb, zcl_eq1 hw, hp]
  · intro j _ h2 hp
    simp (disch := omega) [zs_Table_over_1, zmeth, xm_en, zret, zretz, zretv, zseq, zst, zinc, zkl, zskip, zk, zi, za, zbin, zdiv, zrem, zgi, zgr, zld, zldr, zlen, zn, zc, zcall, zcallv, zrcv, zdo, zdov, zpf, zpfc, zas, zasc, zmin, zmax, zcmp, zcz, zand_e, zor_e, zite_e, zbite_e, zif_e, znot_e, z_add, z_sub, z_mul, z_and, z_or, z_xor, z_shl, z_shr, zcpy, -List.getElem?_cons_succ, zg_0, zg_1, zg_2, zg_3, zg_4, zg_5, zg_6, zg_7, zg_8, zg_9, zc_lt, zc_le, zc_gt, zc_ge, zc_eq, zc_ne, zc_lt0, zc_ge0, zc_gt0, zc_eq0, zc_ne0, zb_ne, zb_eq, zb_01, z_00, z_01, z_11, zb_f, zb_T, zb_F, zbm1, zbm2, zbm5, zbm6, zbm3, zbm4, nI_clamp, zmod_n, pk_div, nI_ne0, pk_mul, nI_add, nI_1, ztb_tag hk, qT_cell hk h h8 h2 hb, zcl_eq1 hw, hp]
/-! a row is filled, a table is begun anew, is taken over -/
def zfl (M : zM) (k N : Nat) (v : Int32) : zM := fun q j => if q = k ∧ j < N then v else M q j
theorem qA_fill {M : zM} {k N : Nat} {v : Int32} (hk : xp_sh[k]? = some (0, N)) (hN : N < 1000) : zf_Arrays_fill [.ref k, .int v] M = some (none, zfl M k N v) := by
  have e0 : zfl M k 0 v = M := by funext q j; simp [zfl]
  have eS : ∀ i, zup (zfl M k i v) k i v = zfl M k (i + 1) v := fun i => by
    funext q j
    rw [zup_e]
    unfold zfl
    by_cases h1 : q = k
    · by_cases h2 : j = i
      · simp [h1, h2]
      · have : j < i + 1 ↔ j < i := by omega
        simp [h1, h2, this]
    · simp [h1]
  have R := zwh_up (c := zc_Arrays_fill_1) (s := zs_Arrays_fill_1) (fun j => [some (Value.ref (k)), some (Value.int (v)), some (Value.int (nI j)), some (Value.int (nI N))]) (fun i => zfl M k i v) (n := N) N 0 (by omega) ?_ ?_ ?_
  · rw [e0] at R
    have hl : Int32.ofNat N = nI N := rfl
    simp (disch := omega) [zf_Arrays_fill, zmeth, xm_en, zret, zretz, zretv, zseq, zst, zinc, zkl, zskip, zk, zi, za, zbin, zdiv, zrem, zgi, zgr, zld, zldr, zlen, zn, zc, zcall, zcallv, zrcv, zdo, zdov, zpf, zpfc, zas, zasc, zmin, zmax, zcmp, zcz, zand_e, zor_e, zite_e, zbite_e, zif_e, znot_e, z_add, z_sub, z_mul, z_and, z_or, z_xor, z_shl, z_shr, zcpy, -List.getElem?_cons_succ, zg_0, zg_1, zg_2, zg_3, zg_4, zg_5, zg_6, zg_7, zg_8, zg_9, hk, hl, R]
  · intro j _ h2
    simp (disch := omega) [zc_Arrays_fill_1, zmeth, xm_en, zret, zretz, zretv, zseq, zst, zinc, zkl, zskip, zk, zi, za, zbin, zdiv, zrem, zgi, zgr, zld, zldr, zlen, zn, zc, zcall, zcallv, zrcv, zdo, zdov, zpf, zpfc, zas, zasc, zmin, zmax, zcmp, zcz, zand_e, zor_e, zite_e, zbite_e, zif_e, znot_e, z_add, z_sub, z_mul, z_and, z_or, z_xor, z_shl, z_shr, zcpy, -List.getElem?_cons_succ, zg_0, zg_1, zg_2, zg_3, zg_4, zg_5, zg_6, zg_7, zg_8, zg_9, zc_lt, zc_le, zc_gt, zc_ge, zc_eq, zc_ne, zc_lt0, zc_ge0, zc_gt0, zc_eq0, zc_ne0, zb_ne, zb_eq, zb_01, z_00, z_01, z_11, zb_f, zb_T, zb_F, zbm1, zbm2, zbm5, zbm6, zbm3, zbm4, nI_clamp, zmod_n, pk_div, nI_ne0, pk_mul, nI_add, nI_1, h2]
  · intro j _ h2
    simp (disch := omega) [zs_Arrays_fill_1, zmeth, xm_en, zret, zretz, zretv, zseq, zst, zinc, zkl, zskip, zk, zi, za, zbin, zdiv, zrem, zgi, zgr, zld, zldr, zlen, zn, zc, zcall, zcallv, zrcv, zdo, zdov, zpf, zpfc, zas, zasc, zmin, zmax, zcmp, zcz, zand_e, zor_e, zite_e, zbite_e, zif_e, znot_e, z_add, z_sub, z_mul, z_and, z_or, z_xor, z_shl, z_shr, zcpy, -List.getElem?_cons_succ, zg_0, zg_1, zg_2, zg_3, zg_4, zg_5, zg_6, zg_7, zg_8, zg_9, zc_lt, zc_le, zc_gt, zc_ge, zc_eq, zc_ne, zc_lt0, zc_ge0, zc_gt0, zc_eq0, zc_ne0, zb_ne, zb_eq, zb_01, z_00, z_01, z_11, zb_f, zb_T, zb_F, zbm1, zbm2, zbm5, zbm6, zbm3, zbm4, nI_clamp, zmod_n, pk_div, nI_ne0, pk_mul, nI_add, nI_1, zin_nI hk h2, eS]
  · simp (disch := omega) [zc_Arrays_fill_1, zmeth, xm_en, zret, zretz, zretv, zseq, zst, zinc, zkl, zskip, zk, zi, za, zbin, zdiv, zrem, zgi, zgr, zld, zldr, zlen, zn, zc, zcall, zcallv, zrcv, zdo, zdov, zpf, zpfc, zas, zasc, zmin, zmax, zcmp, zcz, zand_e, zor_e, zite_e, zbite_e, zif_e, znot_e, z_add, z_sub, z_mul, z_and, z_or, z_xor, z_shl, z_shr, zcpy, -List.getElem?_cons_succ, zg_0, zg_1, zg_2, zg_3, zg_4, zg_5, zg_6, zg_7, zg_8, zg_9, zc_lt, zc_le, zc_gt, zc_ge, zc_eq, zc_ne, zc_lt0, zc_ge0, zc_gt0, zc_eq0, zc_ne0, zb_ne, zb_eq, zb_01, z_00, z_01, z_11, zb_f, zb_T, zb_F, zbm1, zbm2, zbm5, zbm6, zbm3, zbm4, nI_clamp, zmod_n, pk_div, nI_ne0, pk_mul, nI_add, nI_1]
def zrs (M : zM) (k m i : Nat) : zM := fun q j => if q = k ∧ j = 0 then nI m else if q = k + 1 ∧ j < 64 then (if j < i then nI j else if j % 8 = 0 ∧ j / 8 < i then nI (j / 8) else -1) else M q j
theorem qT_restart {M : zM} {k m : Nat} (hk : ztb k) (h1 : 1 ≤ m) (h8 : m ≤ 8) : zf_Table_restart [.ref k, .int (nI m)] M = some (none, zrs M k m m) := by
  have hmin : (if nI 8 < nI m then nI 8 else nI m) = nI m := if_neg (nI_nlt h8 (by omega))
  have hmax : (if nI 1 < nI m then nI m else nI 1) = nI m := by
    by_cases hm : 1 < m
    · rw [if_pos (nI_lt hm (by omega))]
    · have : m = 1 := by omega
      subst this
      rw [if_neg (nI_nlt (by omega) (by omega))]
  have e0 : zfl (zup M k 0 (nI m)) (k + 1) 64 (-1) = zrs M k m 0 := by
    funext q j
    simp only [zfl, zrs, zup_e]
    by_cases h2 : q = k
    · have : ¬ q = k + 1 := by omega
      simp [h2, this]
    · by_cases h3 : q = k + 1
      · simp [h2, h3]
      · simp [h2, h3]
  have hn : ∀ i, (zrs M k m i) k 0 = nI m := fun i => by simp [zrs]
  have eS : ∀ i, i < 8 → zup (zup (zrs M k m i) (k + 1) i (nI i)) (k + 1) (8 * i) (nI i) = zrs M k m (i + 1) := fun i hi => by
    funext q j
    simp only [zrs, zup_e]
    by_cases h2 : q = k
    · have : ¬ q = k + 1 := by omega
      simp [h2, this]
    · by_cases h3 : q = k + 1
      · have hz : ¬ (k + 1 = k ∧ j = 0) := by omega
        simp only [h3, true_and, if_neg hz]
        by_cases h4 : j = 8 * i
        · rw [if_pos h4, if_pos (by omega)]
          by_cases h5 : j < i + 1
          · rw [if_pos h5]; congr 1; omega
          · rw [if_neg h5, if_pos ⟨by omega, by omega⟩]; congr 1; omega
        · rw [if_neg h4]
          by_cases h5 : j = i
          · rw [if_pos h5, if_pos (by omega), if_pos (by omega), h5]
          · rw [if_neg h5]
            have h6 : j < i + 1 ↔ j < i := by omega
            have h7 : (j % 8 = 0 ∧ j / 8 < i + 1) ↔ (j % 8 = 0 ∧ j / 8 < i) := by omega
            simp only [h6, h7]
      · simp [h2, h3]
  have R := zwh_up (c := zc_Table_restart_1) (s := zs_Table_restart_1) (fun j => [some (Value.ref (k)), some (Value.int (nI m)), some (Value.int (nI j))]) (fun i => zrs M k m i) (n := m) m 0 (by omega) ?_ ?_ ?_
  · rw [← e0] at R
    simp (disch := omega) [zf_Table_restart, zmeth, xm_en, zret, zretz, zretv, zseq, zst, zinc, zkl, zskip, zk, zi, za, zbin, zdiv, zrem, zgi, zgr, zld, zldr, zlen, zn, zc, zcall, zcallv, zrcv, zdo, zdov, zpf, zpfc, zas, zasc, zmin, zmax, zcmp, zcz, zand_e, zor_e, zite_e, zbite_e, zif_e, znot_e, z_add, z_sub, z_mul, z_and, z_or, z_xor, z_shl, z_shr, zcpy, -List.getElem?_cons_succ, zg_0, zg_1, zg_2, zg_3, zg_4, zg_5, zg_6, zg_7, zg_8, zg_9, ztb_tag hk, ztb_rf hk, hmin, hmax, qA_fill (ztb_sh hk) (by decide), R]
  · intro j _ h2
    simp (disch := omega) [zc_Table_restart_1, zmeth, xm_en, zret, zretz, zretv, zseq, zst, zinc, zkl, zskip, zk, zi, za, zbin, zdiv, zrem, zgi, zgr, zld, zldr, zlen, zn, zc, zcall, zcallv, zrcv, zdo, zdov, zpf, zpfc, zas, zasc, zmin, zmax, zcmp, zcz, zand_e, zor_e, zite_e, zbite_e, zif_e, znot_e, z_add, z_sub, z_mul, z_and, z_or, z_xor, z_shl, z_shr, zcpy, -List.getElem?_cons_succ, zg_0, zg_1, zg_2, zg_3, zg_4, zg_5, zg_6, zg_7, zg_8, zg_9, zc_lt, zc_le, zc_gt, zc_ge, zc_eq, zc_ne, zc_lt0, zc_ge0, zc_gt0, zc_eq0, zc_ne0, zb_ne, zb_eq, zb_01, z_00, z_01, z_11, zb_f, zb_T, zb_F, zbm1, zbm2, zbm5, zbm6, zbm3, zbm4, nI_clamp, zmod_n, pk_div, nI_ne0, pk_mul, nI_add, nI_1, ztb_tag hk, hn, h2]
  · intro j _ h2
    have p1 := qT_put (M := zrs M k m j) (v := nI j) (a := 0) (b := j) hk (hn j) h8 (by omega) h2
    have p2 := qT_put (M := zup (zrs M k m j) (k + 1) (8 * 0 + j) (nI j)) (v := nI j) (a := j) (b := 0) hk (by rw [zup_e, if_neg (by omega)]; exact hn j) h8 h2 (by omega)
    have e3 := eS j (by omega)
    simp only [Nat.mul_zero, Nat.zero_add, Nat.add_zero] at p1 p2
    simp (disch := omega) [zs_Table_restart_1, zmeth, xm_en, zret, zretz, zretv, zseq, zst, zinc, zkl, zskip, zk, zi, za, zbin, zdiv, zrem, zgi, zgr, zld, zldr, zlen, zn, zc, zcall, zcallv, zrcv, zdo, zdov, zpf, zpfc, zas, zasc, zmin, zmax, zcmp, zcz, zand_e, zor_e, zite_e, zbite_e, zif_e, znot_e, z_add, z_sub, z_mul, z_and, z_or, z_xor, z_shl, z_shr, zcpy, -List.getElem?_cons_succ, zg_0, zg_1, zg_2, zg_3, zg_4, zg_5, zg_6, zg_7, zg_8, zg_9, zc_lt, zc_le, zc_gt, zc_ge, zc_eq, zc_ne, zc_lt0, zc_ge0, zc_gt0, zc_eq0, zc_ne0, zb_ne, zb_eq, zb_01, z_00, z_01, z_11, zb_f, zb_T, zb_F, zbm1, zbm2, zbm5, zbm6, zbm3, zbm4, nI_clamp, zmod_n, pk_div, nI_ne0, pk_mul, nI_add, nI_1, ztb_tag hk, p1, p2, e3]
  · simp (disch := omega) [zc_Table_restart_1, zmeth, xm_en, zret, zretz, zretv, zseq, zst, zinc, zkl, zskip, zk, zi, za, zbin, zdiv, zrem, zgi, zgr, zld, zldr, zlen, zn, zc, zcall, zcallv, zrcv, zdo, zdov, zpf, zpfc, zas, zasc, zmin, zmax, zcmp, zcz, zand_e, zor_e, zite_e, zbite_e, zif_e, znot_e, z_add, z_sub, z_mul, z_and, z_or, z_xor, z_shl, z_shr, zcpy, -List.getElem?_cons_succ, zg_0, zg_1, zg_2, zg_3, zg_4, zg_5, zg_6, zg_7, zg_8, zg_9, zc_lt, zc_le, zc_gt, zc_ge, zc_eq, zc_ne, zc_lt0, zc_ge0, zc_gt0, zc_eq0, zc_ne0, zb_ne, zb_eq, zb_01, z_00, z_01, z_11, zb_f, zb_T, zb_F, zbm1, zbm2, zbm5, zbm6, zbm3, zbm4, nI_clamp, zmod_n, pk_div, nI_ne0, pk_mul, nI_add, nI_1, ztb_tag hk, hn]
def tNew : tC := fun a b => if a = 0 then b else if b = 0 then a else 8
theorem kT_new {M : zM} {k m : Nat} (h8 : m ≤ 8) : kT (zrs M k m m) k m tNew := by
  refine ⟨by simp [zrs], fun a b ha hb => ?_⟩
  have h1 : ¬ (k + 1 = k ∧ 8 * a + b = 0) := by omega
  have h2 : k + 1 = k + 1 ∧ 8 * a + b < 64 := by omega
  unfold zrs
  rw [if_neg h1, if_pos h2]
  unfold tNew
  by_cases h3 : a = 0
  · rw [if_pos (by omega), if_pos h3, zcl_lt (by omega)]
    congr 1
    omega
  · rw [if_neg (by omega), if_neg h3]
    by_cases h4 : b = 0
    · rw [if_pos (by omega), if_pos h4, zcl_lt (by omega)]
      congr 1
      omega
    · rw [if_neg (by omega), if_neg h4, zcl_ge (by omega)]
theorem tO_new {m : Nat} (h1 : 1 ≤ m) (h8 : m ≤ 8) : tO m tNew := by
  refine ⟨⟨h1, h8⟩, fun a ha => ?_, fun a b ha hb => ?_, fun a b d ha hb hd h h9 => ?_, fun a b d ha hb hd h h9 => ?_⟩
  · unfold tNew
    constructor
    · simp
    · split <;> simp [*]
  · unfold tNew
    split
    · omega
    · split <;> omega
  · by_cases ha0 : a = 0
    · simp [tNew, ha0] at h
      exact h
    · by_cases hb0 : b = 0
      · by_cases hd0 : d = 0
        · omega
        · simp [tNew, ha0, hb0, hd0] at h h9
          omega
      · simp [tNew, ha0, hb0] at h9
  · by_cases hd0 : d = 0
    · simp [tNew, hd0] at h
      by_cases ha0 : a = 0
      · simp [ha0] at h
        omega
      · by_cases hb0 : b = 0
        · simp [ha0, hb0] at h
        · simp [ha0, hb0] at h
          exact h
    · by_cases ha0 : a = 0
      · by_cases hb0 : b = 0
        · omega
        · simp [tNew, ha0, hb0, hd0] at h h9
          omega
      · simp [tNew, ha0, hd0] at h9
def zto (M : zM) (k k2 : Nat) : zM := fun q j => if q = k ∧ j = 0 then M k2 0 else if q = k + 1 ∧ j < 64 then M (k2 + 1) j else M q j
theorem ztb_ne {k k2 : Nat} (h : ztb k) (h2 : ztb k2) : k ≠ k2 + 1 := by
  rcases h with h | h | h | h | h | h | h | h <;> rcases h2 with g | g | g | g | g | g | g | g <;> omega
theorem qT_takeOver {M : zM} {k k2 : Nat} (hk : ztb k) (hk2 : ztb k2) : zf_Table_takeOver [.ref k, .ref k2] M = some (none, zto M k k2) := by
  have e : va_up (zup M k 0 (M k2 0)) (k + 1) (va_cpy (zup M k 0 (M k2 0) (k2 + 1)) (zup M k 0 (M k2 0) (k + 1)) 0 0 64) = zto M k k2 := by
    have n1 := ztb_ne hk hk2
    funext q j
    unfold va_up
    by_cases h1 : q = k + 1
    · rw [if_pos h1]
      unfold zto
      rw [if_neg (by omega)]
      by_cases h2 : j < 64
      · rw [pk_cpy_in (by omega) (by omega), zup_e, if_neg (by omega), if_pos ⟨h1, h2⟩]
        congr 1
        omega
      · rw [pk_cpy_out (by omega), zup_e, if_neg (by omega), if_neg (by omega), h1]
    · rw [if_neg h1, zup_e]
      unfold zto
      simp [h1]
  simp (disch := omega) [zf_Table_takeOver, zmeth, xm_en, zret, zretz, zretv, zseq, zst, zinc, zkl, zskip, zk, zi, za, zbin, zdiv, zrem, zgi, zgr, zld, zldr, zlen, zn, zc, zcall, zcallv, zrcv, zdo, zdov, zpf, zpfc, zas, zasc, zmin, zmax, zcmp, zcz, zand_e, zor_e, zite_e, zbite_e, zif_e, znot_e, z_add, z_sub, z_mul, z_and, z_or, z_xor, z_shl, z_shr, zcpy, -List.getElem?_cons_succ, zg_0, zg_1, zg_2, zg_3, zg_4, zg_5, zg_6, zg_7, zg_8, zg_9, ztb_tag hk, ztb_tag hk2, ztb_rf hk, ztb_rf hk2, ztb_in hk, ztb_in hk2, e]
theorem kT_to {M : zM} {k k2 n : Nat} {c : tC} (hk : ztb k) (hk2 : ztb k2) (h8 : n ≤ 8) (h : kT M k2 n c) : kT (zto M k k2) k n c := by
  refine ⟨by simp [zto]; exact h.1, fun a b ha hb => ?_⟩
  unfold zto
  rw [if_neg (by omega), if_pos ⟨rfl, by omega⟩]
  exact h.2 a b ha hb
