/-! doubled, product -/
def zkf (M : zM) (k n : Nat) (c : tC) (a b : Nat) : zM := fun q j => if q = k + 1 ∧ j < 64 ∧ j % 8 < n ∧ (j / 8 < a ∨ (j / 8 = a ∧ j % 8 < b)) then zcl (-1) (c (j / 8) (j % 8)) else M q j
theorem zkf_0 {M : zM} {k n : Nat} {c : tC} : zkf M k n c 0 0 = M := by
  funext q j
  unfold zkf
  rw [if_neg (by omega)]
theorem zkf_r {M : zM} {k n a : Nat} {c : tC} : zkf M k n c a n = zkf M k n c (a + 1) 0 := by
  funext q j
  unfold zkf
  have : (q = k + 1 ∧ j < 64 ∧ j % 8 < n ∧ (j / 8 < a ∨ (j / 8 = a ∧ j % 8 < n))) ↔ (q = k + 1 ∧ j < 64 ∧ j % 8 < n ∧ (j / 8 < a + 1 ∨ (j / 8 = a + 1 ∧ j % 8 < 0))) := by omega
  simp only [this]
theorem zkf_s {M : zM} {k n a b : Nat} {c : tC} (h8 : n ≤ 8) (ha : a < 8) (hb : b < n) : zup (zkf M k n c a b) (k + 1) (8 * a + b) (zcl (-1) (c a b)) = zkf M k n c a (b + 1) := by
  funext q j
  rw [zup_e]
  unfold zkf
  by_cases h : q = k + 1 ∧ j = 8 * a + b
  · rw [if_pos h]
    obtain ⟨h1, h2⟩ := h
    have e1 : j / 8 = a := by omega
    have e2 : j % 8 = b := by omega
    rw [if_pos (by omega), e1, e2]
  · rw [if_neg h]
    have : (q = k + 1 ∧ j < 64 ∧ j % 8 < n ∧ (j / 8 < a ∨ (j / 8 = a ∧ j % 8 < b))) ↔ (q = k + 1 ∧ j < 64 ∧ j % 8 < n ∧ (j / 8 < a ∨ (j / 8 = a ∧ j % 8 < b + 1))) := by omega
    simp only [this]
theorem zkf_out {M : zM} {k n a b : Nat} {c : tC} {q j : Nat} (h : q ≠ k + 1) : zkf M k n c a b q j = M q j := by
  unfold zkf
  rw [if_neg (by omega)]
theorem zkf_kT {M : zM} {k n : Nat} {c : tC} (h8 : n ≤ 8) (h : M k 0 = nI n) : kT (zkf M k n c n 0) k n c := by
  refine ⟨by rw [zkf_out (by omega)]; exact h, fun a b ha hb => ?_⟩
  unfold zkf
  have e1 : (8 * a + b) / 8 = a := by omega
  have e2 : (8 * a + b) % 8 = b := by omega
  rw [e1, e2, if_pos (by omega)]
theorem CS_to {T : tS} {M : zM} {s k n : Nat} {c : tC} (hs : s < 4) (hk : ztb k) (h8 : n ≤ 8) (hC : CS T M) (h : kT M k n c) : CS (tset T s n c) (zto M (2 + 2 * s) k) := by
  intro t ht
  unfold tset
  by_cases h2 : t = s
  · subst h2
    simp only [if_true]
    exact kT_to (tb4 ht) hk h8 h
  · rw [if_neg h2]
    exact (hC t ht).same (fun j => by unfold zto; rw [if_neg (by omega), if_neg (by omega)]) (fun j => by unfold zto; rw [if_neg (by omega), if_neg (by omega)])
theorem zhi_to {M : zM} {s k : Nat} (hs : s < 4) : zhi M (zto M (2 + 2 * s) k) := fun q j hq => by
  unfold zto
  rw [if_neg (by omega), if_neg (by omega)]
theorem qL_keepBuilt {M : zM} {s n : Nat} {c : tC} (hs : s < 4) (h : kT M 10 n c) : zf_L_keepBuilt [.ref 0, .int (nI s)] M = some (some (nI n), zto M (2 + 2 * s) 10) := by
  have e : zto M (2 + 2 * s) 10 10 0 = nI n := by
    unfold zto
    rw [if_neg (by omega), if_neg (by omega)]
    exact h.1
  simp (disch := omega) [zf_L_keepBuilt, zmeth, xm_en, zret, zretz, zretv, zseq, zst, zinc, zkl, zskip, zk, zi, za, zbin, zdiv, zrem, zgi, zgr, zld, zldr, zlen, zn, zc, zcall, zcallv, zrcv, zdo, zdov, zpf, zpfc, zas, zasc, zmin, zmax, zcmp, zcz, zand_e, zor_e, zite_e, zbite_e, zif_e, znot_e, z_add, z_sub, z_mul, z_and, z_or, z_xor, z_shl, z_shr, zcpy, -List.getElem?_cons_succ, zg_0, zg_1, zg_2, zg_3, zg_4, zg_5, zg_6, zg_7, zg_8, zg_9, zt_0, zt_12, zt_20, zt_26, zt_32, zf_0_0, zf_0_1, zf_0_2, zf_0_3, zf_0_4, zf_12_0, zf_12_1, zf_12_2, zf_12_4, zf_12_5, zf_20_1, zf_20_2, zf_20_3, zf_20_4, zf_20_6, zf_26_0, zf_26_1, zf_26_2, zf_26_3, zf_32_0, zf_32_1, zf_32_3, zf_32_4, zf_32_5, zf_32_6, zi_1, zf_1, nI_clamp, ztb_tag (tb4 hs), ztb_tag tb10, qT_takeOver (tb4 hs) tb10, e]
/-- a full table's product -/
theorem qT_mul {M : zM} {k n a b : Nat} {c : tC} (hk : ztb k) (h : kT M k n c) (h8 : n ≤ 8) (hf : tF n c) (ha : a < n) (hb : b < n) : zf_Table_times [.ref k, .int (nI a), .int (nI b)] M = some (some (nI (c a b)), M) := by
  rw [qT_cell hk h h8 ha hb, zcl_lt (by have := hf a b ha hb; omega)]
theorem qM_mul {M : zM} {t n a b : Nat} {c : tC} (ht : t < 6) (h : rT M t n c) (h8 : n ≤ 8) (hf : tF n c) (ha : a < n) (hb : b < n) : zf_M_cell [.ref 32, .int (nI t), .int (nI a), .int (nI b)] M = some (some (nI (c a b)), M) := by
  rw [qM_rcell ht h h8 ha hb, zcl_lt (by have := hf a b ha hb; omega)]
def fb (f : Int32) (i : Nat) : Nat := (f >>> (nI i &&& 31)).toBitVec.toNat % 2
theorem fb_e (f : Int32) (i : Nat) : (f >>> (nI i &&& 31)) &&& nI 1 = nI (fb f i) := by
  rw [pk_and (f >>> (nI i &&& 31)) (m := nI 1) 1 (by decide)]
  rfl
theorem fb_lt (f : Int32) (i : Nat) : fb f i < 2 := Nat.mod_lt _ (by decide)
def sg (f : Int32) (a b : Nat) : Nat := if a = 0 ∨ b = 0 then 0 else fb f (4 * a + b)
theorem sg_lt (f : Int32) (a b : Nat) : sg f a b < 2 := by
  unfold sg
  split
  · omega
  · exact fb_lt f _
def tDb (c : tC) (f : Int32) : tC := fun x y => 2 * c (x / 2) (y / 2) + (x + y + sg f (x / 2) (y / 2)) % 2
theorem tO_db {n : Nat} {c : tC} {f : Int32} (h : tO n c) (hf : tF n c) (h4 : n ≤ 4) : tO (2 * n) (tDb c f) := by
  obtain ⟨h1, h2, h3, h5, h6⟩ := h
  have sl := sg_lt f
  refine ⟨by omega, fun a ha => ?_, fun a b ha hb => ?_, fun a b d ha hb hd g1 g2 => ?_, fun a b d ha hb hd g1 g2 => ?_⟩
  · have := h2 (a / 2) (by omega)
    unfold tDb sg
    simp only [Nat.zero_div, true_or, or_true, if_true, this.1, this.2]
    omega
  · have := hf (a / 2) (b / 2) (by omega) (by omega)
    unfold tDb
    omega
  · unfold tDb at g1
    have e1 : c (a / 2) (b / 2) = c (a / 2) (d / 2) := by omega
    have e2 := h5 (a / 2) (b / 2) (d / 2) (by omega) (by omega) (by omega) e1 (by have := hf (a / 2) (b / 2) (by omega) (by omega); omega)
    rw [e1, e2] at g1
    omega
  · unfold tDb at g1
    have e1 : c (a / 2) (d / 2) = c (b / 2) (d / 2) := by omega
    have e2 := h6 (a / 2) (b / 2) (d / 2) (by omega) (by omega) (by omega) e1 (by have := hf (a / 2) (d / 2) (by omega) (by omega); omega)
    rw [e1, e2] at g1
    omega
theorem tF_db {n : Nat} {c : tC} {f : Int32} (hf : tF n c) : tF (2 * n) (tDb c f) := fun a b ha hb => by
  have := hf (a / 2) (b / 2) (by omega) (by omega)
  unfold tDb
  omega
theorem qG_sign {M : zM} {f : Int32} {a b : Nat} (ha : a < 4) (hb : b < 4) : zf_Larger_signOf [.int f, .int (nI a), .int (nI b)] M = some (some (nI (sg f a b)), M) := by
  by_cases h1 : a = 0
  · simp (disch := omega) [zf_Larger_signOf, zmeth, xm_en, zret, zretz, zretv, zseq, zst, zinc, zkl, zskip, zk, zi, za, zbin, zdiv, zrem, zgi, zgr, zld, zldr, zlen, zn, zc, zcall, zcallv, zrcv, zdo, zdov, zpf, zpfc, zas, zasc, zmin, zmax, zcmp, zcz, zand_e, zor_e, zite_e, zbite_e, zif_e, znot_e, z_add, z_sub, z_mul, z_and, z_or, z_xor, z_shl, z_shr, zcpy, -List.getElem?_cons_succ, zg_0, zg_1, zg_2, zg_3, zg_4, zg_5, zg_6, zg_7, zg_8, zg_9, zc_lt, zc_le, zc_gt, zc_ge, zc_eq, zc_ne, zc_lt0, zc_ge0, zc_gt0, zc_eq0, zc_ne0, zb_ne, zb_eq, zb_01, z_00, z_01, z_11, zb_f, zb_T, zb_F, zbm1, zbm2, zbm5, zbm6, zbm3, zbm4, nI_clamp, zmod_n, pk_div, nI_ne0, pk_mul, nI_add, nI_1, h1, sg]
  · by_cases h2 : b = 0
    · simp (disch := omega) [zf_Larger_signOf, zmeth, xm_en, zret, zretz, zretv, zseq, zst, zinc, zkl, zskip, zk, zi, za, zbin, zdiv, zrem, zgi, zgr, zld, zldr, zlen, zn, zc, zcall, zcallv, zrcv, zdo, zdov, zpf, zpfc, zas, zasc, zmin, zmax, zcmp, zcz, zand_e, zor_e, zite_e, zbite_e, zif_e, znot_e, z_add, z_sub, z_mul, z_and, z_or, z_xor, z_shl, z_shr, zcpy, -List.getElem?_cons_succ, zg_0, zg_1, zg_2, zg_3, zg_4, zg_5, zg_6, zg_7, zg_8, zg_9, zc_lt, zc_le, zc_gt, zc_ge, zc_eq, zc_ne, zc_lt0, zc_ge0, zc_gt0, zc_eq0, zc_ne0, zb_ne, zb_eq, zb_01, z_00, z_01, z_11, zb_f, zb_T, zb_F, zbm1, zbm2, zbm5, zbm6, zbm3, zbm4, nI_clamp, zmod_n, pk_div, nI_ne0, pk_mul, nI_add, nI_1, h1, h2, sg]
    · simp (disch := omega) [zf_Larger_signOf, zmeth, xm_en, zret, zretz, zretv, zseq, zst, zinc, zkl, zskip, zk, zi, za, zbin, zdiv, zrem, zgi, zgr, zld, zldr, zlen, zn, zc, zcall, zcallv, zrcv, zdo, zdov, zpf, zpfc, zas, zasc, zmin, zmax, zcmp, zcz, zand_e, zor_e, zite_e, zbite_e, zif_e, znot_e, z_add, z_sub, z_mul, z_and, z_or, z_xor, z_shl, z_shr, zcpy, -List.getElem?_cons_succ, zg_0, zg_1, zg_2, zg_3, zg_4, zg_5, zg_6, zg_7, zg_8, zg_9, zc_lt, zc_le, zc_gt, zc_ge, zc_eq, zc_ne, zc_lt0, zc_ge0, zc_gt0, zc_eq0, zc_ne0, zb_ne, zb_eq, zb_01, z_00, z_01, z_11, zb_f, zb_T, zb_F, zbm1, zbm2, zbm5, zbm6, zbm3, zbm4, nI_clamp, zmod_n, pk_div, nI_ne0, pk_mul, nI_add, nI_1, h1, h2, sg, fb_e]
theorem kT_kf {M : zM} {k k2 n m : Nat} {c d : tC} {a b : Nat} (hk : ztb k) (hk2 : ztb k2) (hne : k ≠ k2) (h : kT M k n c) : kT (zkf M k2 m d a b) k n c :=
  h.same (fun j => zkf_out (by have := ztb_ne hk hk2; omega)) (fun j => zkf_out (by omega))
theorem kT_rs {M : zM} {k k2 n m i : Nat} {c : tC} (hk : ztb k) (hk2 : ztb k2) (hne : k ≠ k2) (h : kT M k n c) : kT (zrs M k2 m i) k n c :=
  h.same (fun j => by have := ztb_ne hk hk2; unfold zrs; rw [if_neg (by omega), if_neg (by omega)]) (fun j => by have := ztb_ne hk2 hk; unfold zrs; rw [if_neg (by omega), if_neg (by omega)])
theorem qG_doubled2 {M : zM} {k n x : Nat} {c : tC} {f : Int32} (hk : ztb k) (hne : k ≠ 10) (h : kT M k n c) (h10 : M 10 0 = nI (2 * n)) (h4 : n ≤ 4) (hf : tF n c) (hx : x < 2 * n) : zwh zc_Larger_buildDoubled_2 zs_Larger_buildDoubled_2 [some (Value.ref (k)), some (Value.int (f)), some (Value.ref (10)), some (Value.int (nI x)), some (Value.int (nI 0)), none, none, none] (zkf M 10 (2 * n) (tDb c f) x 0) = some (none, [some (Value.ref (k)), some (Value.int (f)), some (Value.ref (10)), some (Value.int (nI x)), some (Value.int (nI (2 * n))), none, none, none], zkf M 10 (2 * n) (tDb c f) (x + 1) 0) := by
  rw [← zkf_r]
  have hn : ∀ a b, zkf M 10 (2 * n) (tDb c f) a b 10 0 = nI (2 * n) := fun a b => by rw [zkf_out (by omega)]; exact h10
  refine zwh_up (c := zc_Larger_buildDoubled_2) (s := zs_Larger_buildDoubled_2) (fun j => [some (Value.ref (k)), some (Value.int (f)), some (Value.ref (10)), some (Value.int (nI x)), some (Value.int (nI j)), none, none, none]) (fun j => zkf M 10 (2 * n) (tDb c f) x j) (n := 2 * n) (2 * n) 0 (by omega) ?_ ?_ ?_
  · intro j h1 h2
    simp (disch := omega) [zc_Larger_buildDoubled_2, zmeth, xm_en, zret, zretz, zretv, zseq, zst, zinc, zkl, zskip, zk, zi, za, zbin, zdiv, zrem, zgi, zgr, zld, zldr, zlen, zn, zc, zcall, zcallv, zrcv, zdo, zdov, zpf, zpfc, zas, zasc, zmin, zmax, zcmp, zcz, zand_e, zor_e, zite_e, zbite_e, zif_e, znot_e, z_add, z_sub, z_mul, z_and, z_or, z_xor, z_shl, z_shr, zcpy, -List.getElem?_cons_succ, zg_0, zg_1, zg_2, zg_3, zg_4, zg_5, zg_6, zg_7, zg_8, zg_9, zc_lt, zc_le, zc_gt, zc_ge, zc_eq, zc_ne, zc_lt0, zc_ge0, zc_gt0, zc_eq0, zc_ne0, zb_ne, zb_eq, zb_01, z_00, z_01, z_11, zb_f, zb_T, zb_F, zbm1, zbm2, zbm5, zbm6, zbm3, zbm4, nI_clamp, zmod_n, pk_div, nI_ne0, pk_mul, nI_add, nI_1, ztb_tag tb10, hn, h2]
  · intro j h1 h2
    have hk' := kT_kf (m := 2 * n) (d := tDb c f) (a := x) (b := j) hk tb10 hne h
    have e1 := zkf_s (M := M) (k := 10) (c := tDb c f) (show 2 * n ≤ 8 by omega) (show x < 8 by omega) h2
    have hcl := hf (x / 2) (j / 2) (by omega) (by omega)
    have hsl := sg_lt f (x / 2) (j / 2)
    have ev : zcl (-1) (tDb c f x j) = nI (2 * c (x / 2) (j / 2) + (x + j + sg f (x / 2) (j / 2)) % 2) := zcl_lt (by unfold tDb; omega)
    rw [ev] at e1
    have p := qT_put (M := zkf M 10 (2 * n) (tDb c f) x j) (v := nI (2 * c (x / 2) (j / 2) + (x + j + sg f (x / 2) (j / 2)) % 2)) tb10 (hn x j) (by omega) hx h2
    have q1 := qT_mul (a := x / 2) (b := j / 2) hk hk' (by omega) hf (by omega) (by omega)
    simp (disch := omega) [zs_Larger_buildDoubled_2, zmeth, xm_en, zret, zretz, zretv, zseq, zst, zinc, zkl, zskip, zk, zi, za, zbin, zdiv, zrem, zgi, zgr, zld, zldr, zlen, zn, zc, zcall, zcallv, zrcv, zdo, zdov, zpf, zpfc, zas, zasc, zmin, zmax, zcmp, zcz, zand_e, zor_e, zite_e, zbite_e, zif_e, znot_e, z_add, z_sub, z_mul, z_and, z_or, z_xor, z_shl, z_shr, zcpy, -List.getElem?_cons_succ, zg_0, zg_1, zg_2, zg_3, zg_4, zg_5, zg_6, zg_7, zg_8, zg_9, zc_lt, zc_le, zc_gt, zc_ge, zc_eq, zc_ne, zc_lt0, zc_ge0, zc_gt0, zc_eq0, zc_ne0, zb_ne, zb_eq, zb_01, z_00, z_01, z_11, zb_f, zb_T, zb_F, zbm1, zbm2, zbm5, zbm6, zbm3, zbm4, nI_clamp, zmod_n, pk_div, nI_ne0, pk_mul, nI_add, nI_1, ztb_tag tb10, ztb_tag hk, qG_sign, q1, p, e1]
  · simp (disch := omega) [zc_Larger_buildDoubled_2, zmeth, xm_en, zret, zretz, zretv, zseq, zst, zinc, zkl, zskip, zk, zi, za, zbin, zdiv, zrem, zgi, zgr, zld, zldr, zlen, zn, zc, zcall, zcallv, zrcv, zdo, zdov, zpf, zpfc, zas, zasc, zmin, zmax, zcmp, zcz, zand_e, zor_e, zite_e, zbite_e, zif_e, znot_e, z_add, z_sub, z_mul, z_and, z_or, z_xor, z_shl, z_shr, zcpy, -List.getElem?_cons_succ, zg_0, zg_1, zg_2, zg_3, zg_4, zg_5, zg_6, zg_7, zg_8, zg_9, zc_lt, zc_le, zc_gt, zc_ge, zc_eq, zc_ne, zc_lt0, zc_ge0, zc_gt0, zc_eq0, zc_ne0, zb_ne, zb_eq, zb_01, z_00, z_01, z_11, zb_f, zb_T, zb_F, zbm1, zbm2, zbm5, zbm6, zbm3, zbm4, nI_clamp, zmod_n, pk_div, nI_ne0, pk_mul, nI_add, nI_1, ztb_tag tb10, hn]
theorem qG_doubled {M : zM} {k n : Nat} {c : tC} {f : Int32} (hk : ztb k) (hne : k ≠ 10) (h : kT M k n c) (h1n : 1 ≤ n) (h4 : n ≤ 4) (hf : tF n c) : ∃ M', zf_Larger_buildDoubled [.ref k, .int f, .ref 10] M = some (none, M') ∧ kT M' 10 (2 * n) (tDb c f) ∧ zsc M M' := by
  have hk2 := kT_rs (m := 2 * n) (i := 2 * n) hk tb10 hne h
  have h10 : zrs M 10 (2 * n) (2 * n) 10 0 = nI (2 * n) := by simp [zrs]
  have hn : ∀ a b, zkf (zrs M 10 (2 * n) (2 * n)) 10 (2 * n) (tDb c f) a b 10 0 = nI (2 * n) := fun a b => by rw [zkf_out (by omega)]; exact h10
  have R := zwh_up (c := zc_Larger_buildDoubled_1) (s := zs_Larger_buildDoubled_1) (fun j => [some (Value.ref (k)), some (Value.int (f)), some (Value.ref (10)), some (Value.int (nI j)), none, none, none, none]) (fun j => zkf (zrs M 10 (2 * n) (2 * n)) 10 (2 * n) (tDb c f) j 0) (n := 2 * n) (2 * n) 0 (by omega) ?_ ?_ ?_
  · rw [zkf_0] at R
    refine ⟨zkf (zrs M 10 (2 * n) (2 * n)) 10 (2 * n) (tDb c f) (2 * n) 0, ?_, zkf_kT (by omega) h10, ?_⟩
    · simp (disch := omega) [zf_Larger_buildDoubled, zmeth, xm_en, zret, zretz, zretv, zseq, zst, zinc, zkl, zskip, zk, zi, za, zbin, zdiv, zrem, zgi, zgr, zld, zldr, zlen, zn, zc, zcall, zcallv, zrcv, zdo, zdov, zpf, zpfc, zas, zasc, zmin, zmax, zcmp, zcz, zand_e, zor_e, zite_e, zbite_e, zif_e, znot_e, z_add, z_sub, z_mul, z_and, z_or, z_xor, z_shl, z_shr, zcpy, -List.getElem?_cons_succ, zg_0, zg_1, zg_2, zg_3, zg_4, zg_5, zg_6, zg_7, zg_8, zg_9, zc_lt, zc_le, zc_gt, zc_ge, zc_eq, zc_ne, zc_lt0, zc_ge0, zc_gt0, zc_eq0, zc_ne0, zb_ne, zb_eq, zb_01, z_00, z_01, z_11, zb_f, zb_T, zb_F, zbm1, zbm2, zbm5, zbm6, zbm3, zbm4, nI_clamp, zmod_n, pk_div, nI_ne0, pk_mul, nI_add, nI_1, ztb_tag tb10, ztb_tag hk, h.1, qT_restart tb10 (show 1 ≤ 2 * n by omega) (by omega), R]
    · intro q j hq
      rw [zkf_out (by omega)]
      unfold zrs
      rw [if_neg (by omega), if_neg (by omega)]
  · intro j h1 h2
    simp (disch := omega) [zc_Larger_buildDoubled_1, zmeth, xm_en, zret, zretz, zretv, zseq, zst, zinc, zkl, zskip, zk, zi, za, zbin, zdiv, zrem, zgi, zgr, zld, zldr, zlen, zn, zc, zcall, zcallv, zrcv, zdo, zdov, zpf, zpfc, zas, zasc, zmin, zmax, zcmp, zcz, zand_e, zor_e, zite_e, zbite_e, zif_e, znot_e, z_add, z_sub, z_mul, z_and, z_or, z_xor, z_shl, z_shr, zcpy, -List.getElem?_cons_succ, zg_0, zg_1, zg_2, zg_3, zg_4, zg_5, zg_6, zg_7, zg_8, zg_9, zc_lt, zc_le, zc_gt, zc_ge, zc_eq, zc_ne, zc_lt0, zc_ge0, zc_gt0, zc_eq0, zc_ne0, zb_ne, zb_eq, zb_01, z_00, z_01, z_11, zb_f, zb_T, zb_F, zbm1, zbm2, zbm5, zbm6, zbm3, zbm4, nI_clamp, zmod_n, pk_div, nI_ne0, pk_mul, nI_add, nI_1, ztb_tag tb10, hn, h2]
  · intro j h3 h5
    have R2 := qG_doubled2 (f := f) hk hne hk2 h10 h4 hf h5
    simp (disch := omega) [zs_Larger_buildDoubled_1, zmeth, xm_en, zret, zretz, zretv, zseq, zst, zinc, zkl, zskip, zk, zi, za, zbin, zdiv, zrem, zgi, zgr, zld, zldr, zlen, zn, zc, zcall, zcallv, zrcv, zdo, zdov, zpf, zpfc, zas, zasc, zmin, zmax, zcmp, zcz, zand_e, zor_e, zite_e, zbite_e, zif_e, znot_e, z_add, z_sub, z_mul, z_and, z_or, z_xor, z_shl, z_shr, zcpy, -List.getElem?_cons_succ, zg_0, zg_1, zg_2, zg_3, zg_4, zg_5, zg_6, zg_7, zg_8, zg_9, zc_lt, zc_le, zc_gt, zc_ge, zc_eq, zc_ne, zc_lt0, zc_ge0, zc_gt0, zc_eq0, zc_ne0, zb_ne, zb_eq, zb_01, z_00, z_01, z_11, zb_f, zb_T, zb_F, zbm1, zbm2, zbm5, zbm6, zbm3, zbm4, nI_clamp, zmod_n, pk_div, nI_ne0, pk_mul, nI_add, nI_1, R2]
  · simp (disch := omega) [zc_Larger_buildDoubled_1, zmeth, xm_en, zret, zretz, zretv, zseq, zst, zinc, zkl, zskip, zk, zi, za, zbin, zdiv, zrem, zgi, zgr, zld, zldr, zlen, zn, zc, zcall, zcallv, zrcv, zdo, zdov, zpf, zpfc, zas, zasc, zmin, zmax, zcmp, zcz, zand_e, zor_e, zite_e, zbite_e, zif_e, znot_e, z_add, z_sub, z_mul, z_and, z_or, z_xor, z_shl, z_shr, zcpy, -List.getElem?_cons_succ, zg_0, zg_1, zg_2, zg_3, zg_4, zg_5, zg_6, zg_7, zg_8, zg_9, zc_lt, zc_le, zc_gt, zc_ge, zc_eq, zc_ne, zc_lt0, zc_ge0, zc_gt0, zc_eq0, zc_ne0, zb_ne, zb_eq, zb_01, z_00, z_01, z_11, zb_f, zb_T, zb_F, zbm1, zbm2, zbm5, zbm6, zbm3, zbm4, nI_clamp, zmod_n, pk_div, nI_ne0, pk_mul, nI_add, nI_1, ztb_tag tb10, hn]
def okDb (T : tS) (x y : Int32) : Bool := zlt x 4 && zlt y 4 && (tB (T y.toNatClampNeg).1 (T y.toNatClampNeg).2 && decide ((T y.toNatClampNeg).1 ≤ 4))
def sDb (T : tS) (x y f : Int32) : tS := bif okDb T x y then tset T x.toNatClampNeg (2 * (T y.toNatClampNeg).1) (tDb (T y.toNatClampNeg).2 f) else T
def aDb (T : tS) (x y : Int32) : Int32 := bif zlt x 4 && zlt y 4 then (bif okDb T x y then nI (2 * (T y.toNatClampNeg).1) else -2) else -1
theorem qL_doubled {T : tS} {M : zM} (x y f : Int32) (hC : CS T M) (hT : TO T) : ∃ M', zf_L_doubled [.ref 0, .int x, .int y, .int f] M = some (some (aDb T x y), M') ∧ CS (sDb T x y f) M' ∧ zhi M M' := by
  rcases z3 x (n := 4) (by decide) with h | ⟨s, hs, rfl⟩
  · refine ⟨M, ?_, by simpa [sDb, okDb, h] using hC, zhi.refl M⟩
    simp [zf_L_doubled, zmeth, xm_en, zret, zretz, zretv, zseq, zst, zinc, zkl, zskip, zk, zi, za, zbin, zdiv, zrem, zgi, zgr, zld, zldr, zlen, zn, zc, zcall, zcallv, zrcv, zdo, zdov, zpf, zpfc, zas, zasc, zmin, zmax, zcmp, zcz, zand_e, zor_e, zite_e, zbite_e, zif_e, znot_e, z_add, z_sub, z_mul, z_and, z_or, z_xor, z_shl, z_shr, zcpy, -List.getElem?_cons_succ, zg_0, zg_1, zg_2, zg_3, zg_4, zg_5, zg_6, zg_7, zg_8, zg_9, qL_isTable, zb_ne, h, aDb]
  · have e := zlt_y hs (by decide)
    rcases z3 y (n := 4) (by decide) with h | ⟨t, ht, rfl⟩
    · refine ⟨M, ?_, by simpa [sDb, okDb, h] using hC, zhi.refl M⟩
      simp [zf_L_doubled, zmeth, xm_en, zret, zretz, zretv, zseq, zst, zinc, zkl, zskip, zk, zi, za, zbin, zdiv, zrem, zgi, zgr, zld, zldr, zlen, zn, zc, zcall, zcallv, zrcv, zdo, zdov, zpf, zpfc, zas, zasc, zmin, zmax, zcmp, zcz, zand_e, zor_e, zite_e, zbite_e, zif_e, znot_e, z_add, z_sub, z_mul, z_and, z_or, z_xor, z_shl, z_shr, zcpy, -List.getElem?_cons_succ, zg_0, zg_1, zg_2, zg_3, zg_4, zg_5, zg_6, zg_7, zg_8, zg_9, qL_isTable, zb_ne, e, h, aDb]
    · have e2 := zlt_y ht (by decide)
      have h8 := (hT t ht).1.2
      have ct : (nI t).toNatClampNeg = t := nI_clamp (by omega)
      have cs : (nI s).toNatClampNeg = s := nI_clamp (by omega)
      cases hb : tB (T t).1 (T t).2 with
      | false =>
        refine ⟨M, ?_, by simpa [sDb, okDb, ct, hb] using hC, zhi.refl M⟩
        simp (disch := omega) [zf_L_doubled, zmeth, xm_en, zret, zretz, zretv, zseq, zst, zinc, zkl, zskip, zk, zi, za, zbin, zdiv, zrem, zgi, zgr, zld, zldr, zlen, zn, zc, zcall, zcallv, zrcv, zdo, zdov, zpf, zpfc, zas, zasc, zmin, zmax, zcmp, zcz, zand_e, zor_e, zite_e, zbite_e, zif_e, znot_e, z_add, z_sub, z_mul, z_and, z_or, z_xor, z_shl, z_shr, zcpy, -List.getElem?_cons_succ, zg_0, zg_1, zg_2, zg_3, zg_4, zg_5, zg_6, zg_7, zg_8, zg_9, zt_0, zt_12, zt_20, zt_26, zt_32, zf_0_0, zf_0_1, zf_0_2, zf_0_3, zf_0_4, zf_12_0, zf_12_1, zf_12_2, zf_12_4, zf_12_5, zf_20_1, zf_20_2, zf_20_3, zf_20_4, zf_20_6, zf_26_0, zf_26_1, zf_26_2, zf_26_3, zf_32_0, zf_32_1, zf_32_3, zf_32_4, zf_32_5, zf_32_6, qL_isTable, zb_ne, e, e2, aDb, okDb, ct, hb, zi_1, zf_1, nI_clamp, ztb_tag (tb4 ht), qT_isFull (tb4 ht) (hC t ht) (hT t ht)]
      | true =>
        by_cases h4 : (T t).1 ≤ 4
        · have hf := (tB_iff (hT t ht)).mp hb
          obtain ⟨M1, g1, g2, g3⟩ := qG_doubled (f := f) (tb4 ht) (by omega) (hC t ht) (hT t ht).1.1 h4 hf
          have hok : okDb T (nI s) (nI t) = true := by simp [okDb, ct, e, e2, hb, h4]
          refine ⟨zto M1 (2 + 2 * s) 10, ?_, ?_, zhi.trans g3.hi (zhi_to hs)⟩
          · have n4 : ¬ 4 < (T t).1 := by omega
            simp (disch := omega) [zf_L_doubled, zmeth, xm_en, zret, zretz, zretv, zseq, zst, zinc, zkl, zskip, zk, zi, za, zbin, zdiv, zrem, zgi, zgr, zld, zldr, zlen, zn, zc, zcall, zcallv, zrcv, zdo, zdov, zpf, zpfc, zas, zasc, zmin, zmax, zcmp, zcz, zand_e, zor_e, zite_e, zbite_e, zif_e, znot_e, z_add, z_sub, z_mul, z_and, z_or, z_xor, z_shl, z_shr, zcpy, -List.getElem?_cons_succ, zg_0, zg_1, zg_2, zg_3, zg_4, zg_5, zg_6, zg_7, zg_8, zg_9, zt_0, zt_12, zt_20, zt_26, zt_32, zf_0_0, zf_0_1, zf_0_2, zf_0_3, zf_0_4, zf_12_0, zf_12_1, zf_12_2, zf_12_4, zf_12_5, zf_20_1, zf_20_2, zf_20_3, zf_20_4, zf_20_6, zf_26_0, zf_26_1, zf_26_2, zf_26_3, zf_32_0, zf_32_1, zf_32_3, zf_32_4, zf_32_5, zf_32_6, qL_isTable, zb_ne, e, e2, aDb, hok, ct, hb, zi_1, zf_1, nI_clamp, ztb_tag (tb4 ht), qT_isFull (tb4 ht) (hC t ht) (hT t ht), (hC t ht).1, zc_gt, n4, g1, qL_keepBuilt hs g2]
          · simp only [sDb, hok, cond_true, ct, cs]
            exact CS_to hs tb10 (by omega) (hC.sc g3) g2
        · refine ⟨M, ?_, by simpa [sDb, okDb, ct, hb, h4] using hC, zhi.refl M⟩
          have n4 : 4 < (T t).1 := by omega
          simp (disch := omega) [zf_L_doubled, zmeth, xm_en, zret, zretz, zretv, zseq, zst, zinc, zkl, zskip, zk, zi, za, zbin, zdiv, zrem, zgi, zgr, zld, zldr, zlen, zn, zc, zcall, zcallv, zrcv, zdo, zdov, zpf, zpfc, zas, zasc, zmin, zmax, zcmp, zcz, zand_e, zor_e, zite_e, zbite_e, zif_e, znot_e, z_add, z_sub, z_mul, z_and, z_or, z_xor, z_shl, z_shr, zcpy, -List.getElem?_cons_succ, zg_0, zg_1, zg_2, zg_3, zg_4, zg_5, zg_6, zg_7, zg_8, zg_9, zt_0, zt_12, zt_20, zt_26, zt_32, zf_0_0, zf_0_1, zf_0_2, zf_0_3, zf_0_4, zf_12_0, zf_12_1, zf_12_2, zf_12_4, zf_12_5, zf_20_1, zf_20_2, zf_20_3, zf_20_4, zf_20_6, zf_26_0, zf_26_1, zf_26_2, zf_26_3, zf_32_0, zf_32_1, zf_32_3, zf_32_4, zf_32_5, zf_32_6, qL_isTable, zb_ne, e, e2, aDb, okDb, ct, hb, h4, zi_1, zf_1, nI_clamp, ztb_tag (tb4 ht), qT_isFull (tb4 ht) (hC t ht) (hT t ht), (hC t ht).1, zc_gt, n4]
theorem rT_ft {M : zM} {t n m a b : Nat} {c d : tC} (ht : t < 4) (h8 : n ≤ 8) (h : rT M t n c) : rT (zft M 4 m d a b) t n c := h.same h8 (zft_out (by omega)) (fun j _ _ => zft_out (by omega))
theorem qM_doubled2 {M : zM} {s t n x : Nat} {c : tC} {f : Int32} (ht : t < 4) (h : rT M t n c) (h4 : n ≤ 4) (hf : tF n c) (hx : x < 2 * n) : zwh zc_M_doubled_2 zs_M_doubled_2 [some (Value.ref (32)), some (Value.int (nI s)), some (Value.int (nI t)), some (Value.int (f)), some (Value.int (nI n)), some (Value.int (nI x)), some (Value.int (nI 0)), none, none, none] (zft M 4 (2 * n) (tDb c f) x 0) = some (none, [some (Value.ref (32)), some (Value.int (nI s)), some (Value.int (nI t)), some (Value.int (f)), some (Value.int (nI n)), some (Value.int (nI x)), some (Value.int (nI (2 * n))), none, none, none], zft M 4 (2 * n) (tDb c f) (x + 1) 0) := by
  rw [← zft_r]
  refine zwh_up (c := zc_M_doubled_2) (s := zs_M_doubled_2) (fun j => [some (Value.ref (32)), some (Value.int (nI s)), some (Value.int (nI t)), some (Value.int (f)), some (Value.int (nI n)), some (Value.int (nI x)), some (Value.int (nI j)), none, none, none]) (fun j => zft M 4 (2 * n) (tDb c f) x j) (n := 2 * n) (2 * n) 0 (by omega) ?_ ?_ ?_
  · intro j h1 h2
    simp (disch := omega) [zc_M_doubled_2, zmeth, xm_en, zret, zretz, zretv, zseq, zst, zinc, zkl, zskip, zk, zi, za, zbin, zdiv, zrem, zgi, zgr, zld, zldr, zlen, zn, zc, zcall, zcallv, zrcv, zdo, zdov, zpf, zpfc, zas, zasc, zmin, zmax, zcmp, zcz, zand_e, zor_e, zite_e, zbite_e, zif_e, znot_e, z_add, z_sub, z_mul, z_and, z_or, z_xor, z_shl, z_shr, zcpy, -List.getElem?_cons_succ, zg_0, zg_1, zg_2, zg_3, zg_4, zg_5, zg_6, zg_7, zg_8, zg_9, zc_lt, zc_le, zc_gt, zc_ge, zc_eq, zc_ne, zc_lt0, zc_ge0, zc_gt0, zc_eq0, zc_ne0, zb_ne, zb_eq, zb_01, z_00, z_01, z_11, zb_f, zb_T, zb_F, zbm1, zbm2, zbm5, zbm6, zbm3, zbm4, nI_clamp, zmod_n, pk_div, nI_ne0, pk_mul, nI_add, nI_1, h2]
  · intro j h1 h2
    have hr := rT_ft (m := 2 * n) (d := tDb c f) (a := x) (b := j) ht (by omega) h
    have e1 := zft_s (M := M) (t := 4) (c := tDb c f) (show 2 * n ≤ 8 by omega) (show x < 8 by omega) h2
    have hcl := hf (x / 2) (j / 2) (by omega) (by omega)
    have hsl := sg_lt f (x / 2) (j / 2)
    have ev : zcl (-4) (tDb c f x j) = nI (2 * c (x / 2) (j / 2) + (x + j + sg f (x / 2) (j / 2)) % 2) := zcl_lt (by unfold tDb; omega)
    rw [ev] at e1
    have q1 := qM_mul (a := x / 2) (b := j / 2) (show t < 6 by omega) hr (by omega) hf (by omega) (by omega)
    have es : (bif decide (2 ≤ x) && decide (2 ≤ j) then nI (fb f (4 * (x / 2) + j / 2)) else nI 0) = nI (sg f (x / 2) (j / 2)) := by
      unfold sg
      by_cases g1 : x / 2 = 0
      · have g3 : ¬ 2 ≤ x := by omega
        rw [decide_eq_false g3, if_pos (Or.inl g1)]
        rfl
      · by_cases g2 : j / 2 = 0
        · have g3 : ¬ 2 ≤ j := by omega
          rw [decide_eq_false g3, if_pos (Or.inr g2), Bool.and_false]
          rfl
        · have g3 : 2 ≤ x := by omega
          have g4 : 2 ≤ j := by omega
          rw [decide_eq_true g3, decide_eq_true g4, if_neg (by omega)]
          rfl
    have p := qM_puts (M := zft M 4 (2 * n) (tDb c f) x j) (t := 4) (a := x) (b := j) (v := nI (2 * c (x / 2) (j / 2) + (x + j + sg f (x / 2) (j / 2)) % 2)) (by omega)
    simp only [Nat.reduceMul] at e1 p
    simp (disch := omega) [zs_M_doubled_2, zmeth, xm_en, zret, zretz, zretv, zseq, zst, zinc, zkl, zskip, zk, zi, za, zbin, zdiv, zrem, zgi, zgr, zld, zldr, zlen, zn, zc, zcall, zcallv, zrcv, zdo, zdov, zpf, zpfc, zas, zasc, zmin, zmax, zcmp, zcz, zand_e, zor_e, zite_e, zbite_e, zif_e, znot_e, z_add, z_sub, z_mul, z_and, z_or, z_xor, z_shl, z_shr, zcpy, -List.getElem?_cons_succ, zg_0, zg_1, zg_2, zg_3, zg_4, zg_5, zg_6, zg_7, zg_8, zg_9, zc_lt, zc_le, zc_gt, zc_ge, zc_eq, zc_ne, zc_lt0, zc_ge0, zc_gt0, zc_eq0, zc_ne0, zb_ne, zb_eq, zb_01, z_00, z_01, z_11, zb_f, zb_T, zb_F, zbm1, zbm2, zbm5, zbm6, zbm3, zbm4, nI_clamp, zmod_n, pk_div, nI_ne0, pk_mul, nI_add, nI_1, zt_0, zt_12, zt_20, zt_26, zt_32, zf_0_0, zf_0_1, zf_0_2, zf_0_3, zf_0_4, zf_12_0, zf_12_1, zf_12_2, zf_12_4, zf_12_5, zf_20_1, zf_20_2, zf_20_3, zf_20_4, zf_20_6, zf_26_0, zf_26_1, zf_26_2, zf_26_3, zf_32_0, zf_32_1, zf_32_3, zf_32_4, zf_32_5, zf_32_6, fb_e, es, q1, p, e1]
  · simp (disch := omega) [zc_M_doubled_2, zmeth, xm_en, zret, zretz, zretv, zseq, zst, zinc, zkl, zskip, zk, zi, za, zbin, zdiv, zrem, zgi, zgr, zld, zldr, zlen, zn, zc, zcall, zcallv, zrcv, zdo, zdov, zpf, zpfc, zas, zasc, zmin, zmax, zcmp, zcz, zand_e, zor_e, zite_e, zbite_e, zif_e, znot_e, z_add, z_sub, z_mul, z_and, z_or, z_xor, z_shl, z_shr, zcpy, -List.getElem?_cons_succ, zg_0, zg_1, zg_2, zg_3, zg_4, zg_5, zg_6, zg_7, zg_8, zg_9, zc_lt, zc_le, zc_gt, zc_ge, zc_eq, zc_ne, zc_lt0, zc_ge0, zc_gt0, zc_eq0, zc_ne0, zb_ne, zb_eq, zb_01, z_00, z_01, z_11, zb_f, zb_T, zb_F, zbm1, zbm2, zbm5, zbm6, zbm3, zbm4, nI_clamp, zmod_n, pk_div, nI_ne0, pk_mul, nI_add, nI_1]
theorem RS_cp4 {T : tS} {M M1 : zM} {s n : Nat} {c : tC} (hT : TO T) (hs : s < 4) (h8 : n ≤ 8) (hR : RS T M) (hsr : zsr M M1) (h : rT M1 4 n c) : RS (tset T s n c) (zcp M1 s 4 64) := RS_cp hT hs h8 (hR.sr hT hsr) h
theorem zlo_cp {M : zM} {s t : Nat} : zlo M (zcp M s t 64) := fun k j hk => zcp_out (by omega) (by omega)
theorem rT4 {M : zM} {n : Nat} {c : tC} (h8 : n ≤ 8) : rT (zup (zft M 4 n c n 0) 33 4 (nI n)) 4 n c := by
  refine ⟨by rw [zup_e, if_pos ⟨rfl, rfl⟩], fun a b ha hb => ?_⟩
  rw [zup_e, if_neg (by omega)]
  exact zft_in h8 ha hb
theorem zsr4 {M : zM} {n : Nat} {c : tC} {x : Int32} {a b : Nat} : zsr M (zup (zft M 4 n c a b) 33 4 x) := fun q j h => by rw [zup_e, if_neg (by omega), zft_out (by omega)]
theorem qM_doubled {T : tS} {M : zM} (x y f : Int32) (hR : RS T M) (hT : TO T) : ∃ M', zf_M_doubled [.ref 32, .int x, .int y, .int f] M = some (some (aDb T x y), M') ∧ RS (sDb T x y f) M' ∧ TO (sDb T x y f) ∧ zlo M M' := by
  rcases z3 x (n := 4) (by decide) with h | ⟨s, hs, rfl⟩
  · refine ⟨M, ?_, by simpa [sDb, okDb, h] using hR, by simpa [sDb, okDb, h] using hT, zlo.refl M⟩
    simp [zf_M_doubled, zmeth, xm_en, zret, zretz, zretv, zseq, zst, zinc, zkl, zskip, zk, zi, za, zbin, zdiv, zrem, zgi, zgr, zld, zldr, zlen, zn, zc, zcall, zcallv, zrcv, zdo, zdov, zpf, zpfc, zas, zasc, zmin, zmax, zcmp, zcz, zand_e, zor_e, zite_e, zbite_e, zif_e, znot_e, z_add, z_sub, z_mul, z_and, z_or, z_xor, z_shl, z_shr, zcpy, -List.getElem?_cons_succ, zg_0, zg_1, zg_2, zg_3, zg_4, zg_5, zg_6, zg_7, zg_8, zg_9, qM_isTable, zb_ne, h, aDb]
  · have e := zlt_y hs (by decide)
    rcases z3 y (n := 4) (by decide) with h | ⟨t, ht, rfl⟩
    · refine ⟨M, ?_, by simpa [sDb, okDb, h] using hR, by simpa [sDb, okDb, h] using hT, zlo.refl M⟩
      simp [zf_M_doubled, zmeth, xm_en, zret, zretz, zretv, zseq, zst, zinc, zkl, zskip, zk, zi, za, zbin, zdiv, zrem, zgi, zgr, zld, zldr, zlen, zn, zc, zcall, zcallv, zrcv, zdo, zdov, zpf, zpfc, zas, zasc, zmin, zmax, zcmp, zcz, zand_e, zor_e, zite_e, zbite_e, zif_e, znot_e, z_add, z_sub, z_mul, z_and, z_or, z_xor, z_shl, z_shr, zcpy, -List.getElem?_cons_succ, zg_0, zg_1, zg_2, zg_3, zg_4, zg_5, zg_6, zg_7, zg_8, zg_9, qM_isTable, zb_ne, e, h, aDb]
    · have e2 := zlt_y ht (by decide)
      have h8 := (hT t ht).1.2
      have h6 : t < 6 := by omega
      have ct : (nI t).toNatClampNeg = t := nI_clamp (by omega)
      have cs : (nI s).toNatClampNeg = s := nI_clamp (by omega)
      cases hb : tB (T t).1 (T t).2 with
      | false =>
        refine ⟨M, ?_, by simpa [sDb, okDb, ct, hb] using hR, by simpa [sDb, okDb, ct, hb] using hT, zlo.refl M⟩
        simp (disch := omega) [zf_M_doubled, zmeth, xm_en, zret, zretz, zretv, zseq, zst, zinc, zkl, zskip, zk, zi, za, zbin, zdiv, zrem, zgi, zgr, zld, zldr, zlen, zn, zc, zcall, zcallv, zrcv, zdo, zdov, zpf, zpfc, zas, zasc, zmin, zmax, zcmp, zcz, zand_e, zor_e, zite_e, zbite_e, zif_e, znot_e, z_add, z_sub, z_mul, z_and, z_or, z_xor, z_shl, z_shr, zcpy, -List.getElem?_cons_succ, zg_0, zg_1, zg_2, zg_3, zg_4, zg_5, zg_6, zg_7, zg_8, zg_9, zt_0, zt_12, zt_20, zt_26, zt_32, zf_0_0, zf_0_1, zf_0_2, zf_0_3, zf_0_4, zf_12_0, zf_12_1, zf_12_2, zf_12_4, zf_12_5, zf_20_1, zf_20_2, zf_20_3, zf_20_4, zf_20_6, zf_26_0, zf_26_1, zf_26_2, zf_26_3, zf_32_0, zf_32_1, zf_32_3, zf_32_4, zf_32_5, zf_32_6, qM_isTable, zb_ne, e, e2, aDb, okDb, ct, hb, nI_clamp, qM_isFull h6 (hR t ht) h8]
      | true =>
        by_cases h4 : (T t).1 ≤ 4
        · have hf := (tB_iff (hT t ht)).mp hb
          have hok : okDb T (nI s) (nI t) = true := by simp [okDb, ct, e, e2, hb, h4]
          have n4 : ¬ 4 < (T t).1 := by omega
          have R := zwh_up (c := zc_M_doubled_1) (s := zs_M_doubled_1) (fun j => [some (Value.ref (32)), some (Value.int (nI s)), some (Value.int (nI t)), some (Value.int (f)), some (Value.int (nI (T t).1)), some (Value.int (nI j)), none, none, none, none]) (fun j => zft M 4 (2 * (T t).1) (tDb (T t).2 f) j 0) (n := 2 * (T t).1) (2 * (T t).1) 0 (by omega) ?_ ?_ ?_
          · rw [zft_0] at R
            have h2 : 2 * (T t).1 ≤ 8 := by omega
            refine ⟨zcp (zup (zft M 4 (2 * (T t).1) (tDb (T t).2 f) (2 * (T t).1) 0) 33 4 (nI (2 * (T t).1))) s 4 64, ?_, ?_, ?_, ?_⟩
            · simp (disch := omega) [zf_M_doubled, zmeth, xm_en, zret, zretz, zretv, zseq, zst, zinc, zkl, zskip, zk, zi, za, zbin, zdiv, zrem, zgi, zgr, zld, zldr, zlen, zn, zc, zcall, zcallv, zrcv, zdo, zdov, zpf, zpfc, zas, zasc, zmin, zmax, zcmp, zcz, zand_e, zor_e, zite_e, zbite_e, zif_e, znot_e, z_add, z_sub, z_mul, z_and, z_or, z_xor, z_shl, z_shr, zcpy, -List.getElem?_cons_succ, zg_0, zg_1, zg_2, zg_3, zg_4, zg_5, zg_6, zg_7, zg_8, zg_9, zt_0, zt_12, zt_20, zt_26, zt_32, zf_0_0, zf_0_1, zf_0_2, zf_0_3, zf_0_4, zf_12_0, zf_12_1, zf_12_2, zf_12_4, zf_12_5, zf_20_1, zf_20_2, zf_20_3, zf_20_4, zf_20_6, zf_26_0, zf_26_1, zf_26_2, zf_26_3, zf_32_0, zf_32_1, zf_32_3, zf_32_4, zf_32_5, zf_32_6, zc_lt, zc_le, zc_gt, zc_ge, zc_eq, zc_ne, zc_lt0, zc_ge0, zc_gt0, zc_eq0, zc_ne0, zb_ne, zb_eq, zb_01, z_00, z_01, z_11, zb_f, zb_T, zb_F, zbm1, zbm2, zbm5, zbm6, zbm3, zbm4, nI_clamp, zmod_n, pk_div, nI_ne0, pk_mul, nI_add, nI_1, qM_isTable, e, e2, aDb, hok, ct, hb, qM_isFull h6 (hR t ht) h8, (hR t ht).1, n4, R, zi_33, qM_copies]
            · simp only [sDb, hok, cond_true, ct, cs]
              exact RS_cp4 hT hs h2 hR zsr4 (rT4 h2)
            · simp only [sDb, hok, cond_true, ct, cs]
              exact TO_set hT (tO_db (hT t ht) hf h4)
            · exact zlo.trans (zsr4 (M := M)).lo zlo_cp
          · intro j g1 g2
            simp (disch := omega) [zc_M_doubled_1, zmeth, xm_en, zret, zretz, zretv, zseq, zst, zinc, zkl, zskip, zk, zi, za, zbin, zdiv, zrem, zgi, zgr, zld, zldr, zlen, zn, zc, zcall, zcallv, zrcv, zdo, zdov, zpf, zpfc, zas, zasc, zmin, zmax, zcmp, zcz, zand_e, zor_e, zite_e, zbite_e, zif_e, znot_e, z_add, z_sub, z_mul, z_and, z_or, z_xor, z_shl, z_shr, zcpy, -List.getElem?_cons_succ, zg_0, zg_1, zg_2, zg_3, zg_4, zg_5, zg_6, zg_7, zg_8, zg_9, zc_lt, zc_le, zc_gt, zc_ge, zc_eq, zc_ne, zc_lt0, zc_ge0, zc_gt0, zc_eq0, zc_ne0, zb_ne, zb_eq, zb_01, z_00, z_01, z_11, zb_f, zb_T, zb_F, zbm1, zbm2, zbm5, zbm6, zbm3, zbm4, nI_clamp, zmod_n, pk_div, nI_ne0, pk_mul, nI_add, nI_1, g2]
          · intro j g1 g2
            have R2 := qM_doubled2 (s := s) (f := f) ht (hR t ht) h4 hf g2
            simp (disch := omega) [zs_M_doubled_1, zmeth, xm_en, zret, zretz, zretv, zseq, zst, zinc, zkl, zskip, zk, zi, za, zbin, zdiv, zrem, zgi, zgr, zld, zldr, zlen, zn, zc, zcall, zcallv, zrcv, zdo, zdov, zpf, zpfc, zas, zasc, zmin, zmax, zcmp, zcz, zand_e, zor_e, zite_e, zbite_e, zif_e, znot_e, z_add, z_sub, z_mul, z_and, z_or, z_xor, z_shl, z_shr, zcpy, -List.getElem?_cons_succ, zg_0, zg_1, zg_2, zg_3, zg_4, zg_5, zg_6, zg_7, zg_8, zg_9, zc_lt, zc_le, zc_gt, zc_ge, zc_eq, zc_ne, zc_lt0, zc_ge0, zc_gt0, zc_eq0, zc_ne0, zb_ne, zb_eq, zb_01, z_00, z_01, z_11, zb_f, zb_T, zb_F, zbm1, zbm2, zbm5, zbm6, zbm3, zbm4, nI_clamp, zmod_n, pk_div, nI_ne0, pk_mul, nI_add, nI_1, R2]
          · simp (disch := omega) [zc_M_doubled_1, zmeth, xm_en, zret, zretz, zretv, zseq, zst, zinc, zkl, zskip, zk, zi, za, zbin, zdiv, zrem, zgi, zgr, zld, zldr, zlen, zn, zc, zcall, zcallv, zrcv, zdo, zdov, zpf, zpfc, zas, zasc, zmin, zmax, zcmp, zcz, zand_e, zor_e, zite_e, zbite_e, zif_e, znot_e, z_add, z_sub, z_mul, z_and, z_or, z_xor, z_shl, z_shr, zcpy, -List.getElem?_cons_succ, zg_0, zg_1, zg_2, zg_3, zg_4, zg_5, zg_6, zg_7, zg_8, zg_9, zc_lt, zc_le, zc_gt, zc_ge, zc_eq, zc_ne, zc_lt0, zc_ge0, zc_gt0, zc_eq0, zc_ne0, zb_ne, zb_eq, zb_01, z_00, z_01, z_11, zb_f, zb_T, zb_F, zbm1, zbm2, zbm5, zbm6, zbm3, zbm4, nI_clamp, zmod_n, pk_div, nI_ne0, pk_mul, nI_add, nI_1]
        · refine ⟨M, ?_, by simpa [sDb, okDb, ct, hb, h4] using hR, by simpa [sDb, okDb, ct, hb, h4] using hT, zlo.refl M⟩
          have n4 : 4 < (T t).1 := by omega
          simp (disch := omega) [zf_M_doubled, zmeth, xm_en, zret, zretz, zretv, zseq, zst, zinc, zkl, zskip, zk, zi, za, zbin, zdiv, zrem, zgi, zgr, zld, zldr, zlen, zn, zc, zcall, zcallv, zrcv, zdo, zdov, zpf, zpfc, zas, zasc, zmin, zmax, zcmp, zcz, zand_e, zor_e, zite_e, zbite_e, zif_e, znot_e, z_add, z_sub, z_mul, z_and, z_or, z_xor, z_shl, z_shr, zcpy, -List.getElem?_cons_succ, zg_0, zg_1, zg_2, zg_3, zg_4, zg_5, zg_6, zg_7, zg_8, zg_9, zt_0, zt_12, zt_20, zt_26, zt_32, zf_0_0, zf_0_1, zf_0_2, zf_0_3, zf_0_4, zf_12_0, zf_12_1, zf_12_2, zf_12_4, zf_12_5, zf_20_1, zf_20_2, zf_20_3, zf_20_4, zf_20_6, zf_26_0, zf_26_1, zf_26_2, zf_26_3, zf_32_0, zf_32_1, zf_32_3, zf_32_4, zf_32_5, zf_32_6, zc_lt, zc_le, zc_gt, zc_ge, zc_eq, zc_ne, zc_lt0, zc_ge0, zc_gt0, zc_eq0, zc_ne0, zb_ne, zb_eq, zb_01, z_00, z_01, z_11, zb_f, zb_T, zb_F, zbm1, zbm2, zbm5, zbm6, zbm3, zbm4, nI_clamp, zmod_n, pk_div, nI_ne0, pk_mul, nI_add, nI_1, qM_isTable, e, e2, aDb, okDb, ct, hb, h4, zi_33, qM_isFull h6 (hR t ht) h8, (hR t ht).1, n4]
