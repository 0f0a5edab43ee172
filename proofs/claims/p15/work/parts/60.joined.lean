/-! endings: all full tables over a table's cells, in order -/
def okv (n : Nat) (c : tC) (h v : Nat) : Bool := zall (fun k => !decide (c (h / 8) k = v) && !decide (c k (h % 8) = v)) n
def sgs (g : Nat → List tC) : Nat → Nat → List tC
  | _, 0 => []
  | i, d + 1 => g i ++ sgs g (i + 1) d
def comps (n : Nat) : List Nat → tC → List tC
  | [], c => [c]
  | h :: hs, c => sgs (fun v => bif okv n c h v then comps n hs (cset c (h / 8) (h % 8) v) else []) 0 n
def cg (n : Nat) (hs : List Nat) (h : Nat) (c : tC) (v : Nat) : List tC := bif okv n c h v then comps n hs (cset c (h / 8) (h % 8) v) else []
theorem comps_c (n h : Nat) (hs : List Nat) (c : tC) : comps n (h :: hs) c = sgs (cg n hs h c) 0 n := rfl
theorem sgs_skip {g : Nat → List tC} : ∀ (e d i : Nat), (∀ j, i ≤ j → j < i + e → g j = []) → sgs g i (e + d) = sgs g (i + e) d
  | 0, d, i, _ => by rw [Nat.zero_add, Nat.add_zero]
  | e + 1, d, i, h => by
    rw [show e + 1 + d = (e + d) + 1 by omega]
    show g i ++ sgs g (i + 1) (e + d) = _
    rw [h i (Nat.le_refl _) (by omega), sgs_skip e d (i + 1) (fun j h1 h2 => h j (by omega) (by omega)), List.nil_append]
    congr 1
    omega
theorem okv_st {n a b v h : Nat} {c : tC} (ha : a < n) (hb : b < n) (eh : h = 8 * a + b) (h8 : n ≤ 8) (hc : c a b = 8) (hv : v < 8) : zany (tSt n c a b v) n = !okv n c h v := by
  have e1 : h / 8 = a := by omega
  have e2 : h % 8 = b := by omega
  rw [Bool.eq_iff_iff, zany_t]
  simp only [Bool.not_eq_true', ← Bool.not_eq_true, okv, zall_t, e1, e2]
  constructor
  · rintro ⟨i, hi, g⟩ q
    have := q i hi
    simp only [tSt, Bool.or_eq_true, Bool.and_eq_true, Bool.not_eq_true', decide_eq_false_iff_not, decide_eq_true_eq] at g
    simp only [Bool.and_eq_true, Bool.not_eq_true', decide_eq_false_iff_not] at this
    rcases g with g | g
    · exact this.1 g.2
    · exact this.2 g.2
  · intro q
    refine Classical.byContradiction (fun g => q (fun i hi => ?_))
    have g1 : ¬ tSt n c a b v i = true := fun w => g ⟨i, hi, w⟩
    simp only [tSt, Bool.or_eq_true, Bool.and_eq_true, Bool.not_eq_true', decide_eq_false_iff_not, decide_eq_true_eq] at g1
    simp only [Bool.and_eq_true, Bool.not_eq_true', decide_eq_false_iff_not]
    refine ⟨fun w => g1 (Or.inl ⟨fun z => ?_, w⟩), fun w => g1 (Or.inr ⟨fun z => ?_, w⟩)⟩
    · rw [z, hc] at w; omega
    · rw [z, hc] at w; omega
/-- the reference's hand: its table c, its list of holes H -/
def eH (M : zM) (n : Nat) (H : List Nat) (c : tC) : Prop := rT M 4 n c ∧ M 32 2 = nI H.length ∧ ∀ i, i < H.length → M 35 i = nI (H.getD i 0)
theorem eH_cset {M : zM} {n a b v : Nat} {H : List Nat} {c : tC} (h8 : n ≤ 8) (ha : a < n) (hb : b < n) (h : eH M n H c) : eH (zup M 34 (256 + 8 * a + b) (zcl (-4) v)) n H (cset c a b v) := by
  refine ⟨rT_cset (t := 4) h8 ha hb h.1, ?_, fun i hi => ?_⟩
  · rw [zup_e, if_neg (by omega)]; exact h.2.1
  · rw [zup_e, if_neg (by omega)]; exact h.2.2 i hi
def lsE (t : Nat) (most f : Nat) (k : Int32) : zL := [some (Value.ref (32)), some (Value.int (nI t)), some (Value.int (nI most)), some (Value.int (nI f)), some (Value.int (k)), none, none, none]
/-- from the state (f found, at k, memory M) the loop comes to (f', k') with M' -/
def eTo (t most f : Nat) (k : Int32) (M : zM) (f' : Nat) (k' : Int32) (M' : zM) : Prop := ∀ r, zwh zc_M_ends_3 zs_M_ends_3 (lsE t most f' k') M' = some r → zwh zc_M_ends_3 zs_M_ends_3 (lsE t most f k) M = some r
/-- from there it returns most, with the table d in its hand, nothing else changed -/
def eRet (t most f : Nat) (k : Int32) (M : zM) (n : Nat) (H : List Nat) (d : tC) : Prop := ∃ ls' M', zwh zc_M_ends_3 zs_M_ends_3 (lsE t most f k) M = some (some (some (nI most)), ls', M') ∧ eH M' n H d ∧ ∀ q j, ¬ (q = 34 ∧ 256 ≤ j ∧ j < 320) → M' q j = M q j
theorem eTo.ret {t most f f' : Nat} {k k' : Int32} {M M' : zM} {n : Nat} {H : List Nat} {d : tC} (h : eTo t most f k M f' k' M') (hf : ∀ q j, ¬ (q = 34 ∧ 256 ≤ j ∧ j < 320) → M' q j = M q j) (hr : eRet t most f' k' M' n H d) : eRet t most f k M n H d := by
  obtain ⟨ls', M2, g1, g2, g3⟩ := hr
  exact ⟨ls', M2, h _ g1, g2, fun q j hq => (g3 q j hq).trans (hf q j hq)⟩
theorem eTo.trans {t most f f' f2 : Nat} {k k' k2 : Int32} {M M' M2 : zM} (h : eTo t most f k M f' k' M') (h2 : eTo t most f' k' M' f2 k2 M2) : eTo t most f k M f2 k2 M2 := fun r g => h r (h2 r g)
theorem e_leaf {M : zM} {t n most f : Nat} {H : List Nat} {c : tC} (h : eH M n H c) (hm : most < 2 ^ 30) (hf : f < most) (hH : H.length < 64) : (f + 1 = most → eRet t most f (nI H.length) M n H c) ∧ (f + 1 ≠ most → eTo t most f (nI H.length) M (f + 1) (nI H.length + -1) M) := by
  have c1 : zc_M_ends_3 (lsE t most f (nI H.length)) M = some (true, M) := by
    simp (disch := omega) [zc_M_ends_3, lsE, zmeth, xm_en, zret, zretz, zretv, zseq, zst, zinc, zkl, zskip, zk, zi, za, zbin, zdiv, zrem, zgi, zgr, zld, zldr, zlen, zn, zc, zcall, zcallv, zrcv, zdo, zdov, zpf, zpfc, zas, zasc, zmin, zmax, zcmp, zcz, zand_e, zor_e, zite_e, zbite_e, zif_e, znot_e, z_add, z_sub, z_mul, z_and, z_or, z_xor, z_shl, z_shr, zcpy, -List.getElem?_cons_succ, zg_0, zg_1, zg_2, zg_3, zg_4, zg_5, zg_6, zg_7, zg_8, zg_9, zc_lt, zc_le, zc_gt, zc_ge, zc_eq, zc_ne, zc_lt0, zc_ge0, zc_gt0, zc_eq0, zc_ne0, zb_ne, zb_eq, zb_01, z_00, z_01, z_11, zb_f, zb_T, zb_F, zbm1, zbm2, zbm5, zbm6, zbm3, zbm4, nI_clamp, zmod_n, pk_div, nI_ne0, pk_mul, nI_add, nI_1]
  refine ⟨fun e => ⟨[some (Value.ref (32)), some (Value.int (nI t)), some (Value.int (nI most)), some (Value.int (nI (f + 1))), some (Value.int (nI H.length)), none, none, none], M, zwh_r c1 ?_, h, fun _ _ _ => rfl⟩, fun e r hr => zwh_t c1 ?_ hr⟩
  · simp (disch := omega) [zs_M_ends_3, lsE, zmeth, xm_en, zret, zretz, zretv, zseq, zst, zinc, zkl, zskip, zk, zi, za, zbin, zdiv, zrem, zgi, zgr, zld, zldr, zlen, zn, zc, zcall, zcallv, zrcv, zdo, zdov, zpf, zpfc, zas, zasc, zmin, zmax, zcmp, zcz, zand_e, zor_e, zite_e, zbite_e, zif_e, znot_e, z_add, z_sub, z_mul, z_and, z_or, z_xor, z_shl, z_shr, zcpy, -List.getElem?_cons_succ, zg_0, zg_1, zg_2, zg_3, zg_4, zg_5, zg_6, zg_7, zg_8, zg_9, zc_lt, zc_le, zc_gt, zc_ge, zc_eq, zc_ne, zc_lt0, zc_ge0, zc_gt0, zc_eq0, zc_ne0, zb_ne, zb_eq, zb_01, z_00, z_01, z_11, zb_f, zb_T, zb_F, zbm1, zbm2, zbm5, zbm6, zbm3, zbm4, nI_clamp, zmod_n, pk_div, nI_ne0, pk_mul, nI_add, nI_1, zt_0, zt_12, zt_20, zt_26, zt_32, zf_0_0, zf_0_1, zf_0_2, zf_0_3, zf_0_4, zf_12_0, zf_12_1, zf_12_2, zf_12_4, zf_12_5, zf_20_1, zf_20_2, zf_20_3, zf_20_4, zf_20_6, zf_26_0, zf_26_1, zf_26_2, zf_26_3, zf_32_0, zf_32_1, zf_32_3, zf_32_4, zf_32_5, zf_32_6, h.2.1, e]
  · simp (disch := omega) [zs_M_ends_3, lsE, zmeth, xm_en, zret, zretz, zretv, zseq, zst, zinc, zkl, zskip, zk, zi, za, zbin, zdiv, zrem, zgi, zgr, zld, zldr, zlen, zn, zc, zcall, zcallv, zrcv, zdo, zdov, zpf, zpfc, zas, zasc, zmin, zmax, zcmp, zcz, zand_e, zor_e, zite_e, zbite_e, zif_e, znot_e, z_add, z_sub, z_mul, z_and, z_or, z_xor, z_shl, z_shr, zcpy, -List.getElem?_cons_succ, zg_0, zg_1, zg_2, zg_3, zg_4, zg_5, zg_6, zg_7, zg_8, zg_9, zc_lt, zc_le, zc_gt, zc_ge, zc_eq, zc_ne, zc_lt0, zc_ge0, zc_gt0, zc_eq0, zc_ne0, zb_ne, zb_eq, zb_01, z_00, z_01, z_11, zb_f, zb_T, zb_F, zbm1, zbm2, zbm5, zbm6, zbm3, zbm4, nI_clamp, zmod_n, pk_div, nI_ne0, pk_mul, nI_add, nI_1, zt_0, zt_12, zt_20, zt_26, zt_32, zf_0_0, zf_0_1, zf_0_2, zf_0_3, zf_0_4, zf_12_0, zf_12_1, zf_12_2, zf_12_4, zf_12_5, zf_20_1, zf_20_2, zf_20_3, zf_20_4, zf_20_6, zf_26_0, zf_26_1, zf_26_2, zf_26_3, zf_32_0, zf_32_1, zf_32_3, zf_32_4, zf_32_5, zf_32_6, h.2.1, e]
theorem e_in {M : zM} {t n most f a b v w : Nat} {k : Int32} {H : List Nat} {c : tC} (h : eH M n H c) (h8 : n ≤ 8) (ha : a < n) (hb : b < n) (hc : c a b = 8) (hvn : v ≤ n) (hw : w = zidx (fun x => okv n c (8 * a + b) x) v (n - v)) : zwh zc_M_ends_4 zs_M_ends_4 [some (Value.ref (32)), some (Value.int (nI t)), some (Value.int (nI most)), some (Value.int (nI f)), some (Value.int (k)), some (Value.int (nI a)), some (Value.int (nI b)), some (Value.int (nI v))] M = some (none, [some (Value.ref (32)), some (Value.int (nI t)), some (Value.int (nI most)), some (Value.int (nI f)), some (Value.int (k)), some (Value.int (nI a)), some (Value.int (nI b)), some (Value.int (nI w))], M) := by
  have le := zidx_le (p := fun x => okv n c (8 * a + b) x) (n - v) v
  have st : ∀ j, j < n → zf_M_stands [.ref 32, .int (nI 4), .int (nI a), .int (nI b), .int (nI j)] M = some (some (zb (!okv n c (8 * a + b) j)), M) := fun j hj => by
    rw [qM_stands (by decide) h.1 h8 ha hb (by omega), okv_st ha hb rfl h8 hc (by omega)]
  refine zwh_up (c := zc_M_ends_4) (s := zs_M_ends_4) (fun j => [some (Value.ref (32)), some (Value.int (nI t)), some (Value.int (nI most)), some (Value.int (nI f)), some (Value.int (k)), some (Value.int (nI a)), some (Value.int (nI b)), some (Value.int (nI j))]) (fun _ => M) (n := w) (w - v) v (by omega) ?_ ?_ ?_
  · intro j h1 h2
    have no : okv n c (8 * a + b) j = false := zidx_no (p := fun x => okv n c (8 * a + b) x) (n - v) v j h1 (by omega)
    have s := st j (by omega)
    rw [no] at s
    have hjn : j < n := by omega
    simp (disch := omega) [zc_M_ends_4, zmeth, xm_en, zret, zretz, zretv, zseq, zst, zinc, zkl, zskip, zk, zi, za, zbin, zdiv, zrem, zgi, zgr, zld, zldr, zlen, zn, zc, zcall, zcallv, zrcv, zdo, zdov, zpf, zpfc, zas, zasc, zmin, zmax, zcmp, zcz, zand_e, zor_e, zite_e, zbite_e, zif_e, znot_e, z_add, z_sub, z_mul, z_and, z_or, z_xor, z_shl, z_shr, zcpy, -List.getElem?_cons_succ, zg_0, zg_1, zg_2, zg_3, zg_4, zg_5, zg_6, zg_7, zg_8, zg_9, zc_lt, zc_le, zc_gt, zc_ge, zc_eq, zc_ne, zc_lt0, zc_ge0, zc_gt0, zc_eq0, zc_ne0, zb_ne, zb_eq, zb_01, z_00, z_01, z_11, zb_f, zb_T, zb_F, zbm1, zbm2, zbm5, zbm6, zbm3, zbm4, nI_clamp, zmod_n, pk_div, nI_ne0, pk_mul, nI_add, nI_1, zt_0, zt_12, zt_20, zt_26, zt_32, zf_0_0, zf_0_1, zf_0_2, zf_0_3, zf_0_4, zf_12_0, zf_12_1, zf_12_2, zf_12_4, zf_12_5, zf_20_1, zf_20_2, zf_20_3, zf_20_4, zf_20_6, zf_26_0, zf_26_1, zf_26_2, zf_26_3, zf_32_0, zf_32_1, zf_32_3, zf_32_4, zf_32_5, zf_32_6, zi_33, h.1.1, hjn, s]
  · intro j h1 h2
    simp (disch := omega) [zs_M_ends_4, zmeth, xm_en, zret, zretz, zretv, zseq, zst, zinc, zkl, zskip, zk, zi, za, zbin, zdiv, zrem, zgi, zgr, zld, zldr, zlen, zn, zc, zcall, zcallv, zrcv, zdo, zdov, zpf, zpfc, zas, zasc, zmin, zmax, zcmp, zcz, zand_e, zor_e, zite_e, zbite_e, zif_e, znot_e, z_add, z_sub, z_mul, z_and, z_or, z_xor, z_shl, z_shr, zcpy, -List.getElem?_cons_succ, zg_0, zg_1, zg_2, zg_3, zg_4, zg_5, zg_6, zg_7, zg_8, zg_9, zc_lt, zc_le, zc_gt, zc_ge, zc_eq, zc_ne, zc_lt0, zc_ge0, zc_gt0, zc_eq0, zc_ne0, zb_ne, zb_eq, zb_01, z_00, z_01, z_11, zb_f, zb_T, zb_F, zbm1, zbm2, zbm5, zbm6, zbm3, zbm4, nI_clamp, zmod_n, pk_div, nI_ne0, pk_mul, nI_add, nI_1]
  · rcases Nat.lt_or_ge w n with g | g
    · have yes : okv n c (8 * a + b) w = true := by
        rw [hw]
        exact zidx_lt (p := fun x => okv n c (8 * a + b) x) (n - v) v (by omega)
      have s := st w g
      rw [yes] at s
      simp (disch := omega) [zc_M_ends_4, zmeth, xm_en, zret, zretz, zretv, zseq, zst, zinc, zkl, zskip, zk, zi, za, zbin, zdiv, zrem, zgi, zgr, zld, zldr, zlen, zn, zc, zcall, zcallv, zrcv, zdo, zdov, zpf, zpfc, zas, zasc, zmin, zmax, zcmp, zcz, zand_e, zor_e, zite_e, zbite_e, zif_e, znot_e, z_add, z_sub, z_mul, z_and, z_or, z_xor, z_shl, z_shr, zcpy, -List.getElem?_cons_succ, zg_0, zg_1, zg_2, zg_3, zg_4, zg_5, zg_6, zg_7, zg_8, zg_9, zc_lt, zc_le, zc_gt, zc_ge, zc_eq, zc_ne, zc_lt0, zc_ge0, zc_gt0, zc_eq0, zc_ne0, zb_ne, zb_eq, zb_01, z_00, z_01, z_11, zb_f, zb_T, zb_F, zbm1, zbm2, zbm5, zbm6, zbm3, zbm4, nI_clamp, zmod_n, pk_div, nI_ne0, pk_mul, nI_add, nI_1, zt_0, zt_12, zt_20, zt_26, zt_32, zf_0_0, zf_0_1, zf_0_2, zf_0_3, zf_0_4, zf_12_0, zf_12_1, zf_12_2, zf_12_4, zf_12_5, zf_20_1, zf_20_2, zf_20_3, zf_20_4, zf_20_6, zf_26_0, zf_26_1, zf_26_2, zf_26_3, zf_32_0, zf_32_1, zf_32_3, zf_32_4, zf_32_5, zf_32_6, zi_33, h.1.1, g, s]
    · have g2 : ¬ w < n := by omega
      simp (disch := omega) [zc_M_ends_4, zmeth, xm_en, zret, zretz, zretv, zseq, zst, zinc, zkl, zskip, zk, zi, za, zbin, zdiv, zrem, zgi, zgr, zld, zldr, zlen, zn, zc, zcall, zcallv, zrcv, zdo, zdov, zpf, zpfc, zas, zasc, zmin, zmax, zcmp, zcz, zand_e, zor_e, zite_e, zbite_e, zif_e, znot_e, z_add, z_sub, z_mul, z_and, z_or, z_xor, z_shl, z_shr, zcpy, -List.getElem?_cons_succ, zg_0, zg_1, zg_2, zg_3, zg_4, zg_5, zg_6, zg_7, zg_8, zg_9, zc_lt, zc_le, zc_gt, zc_ge, zc_eq, zc_ne, zc_lt0, zc_ge0, zc_gt0, zc_eq0, zc_ne0, zb_ne, zb_eq, zb_01, z_00, z_01, z_11, zb_f, zb_T, zb_F, zbm1, zbm2, zbm5, zbm6, zbm3, zbm4, nI_clamp, zmod_n, pk_div, nI_ne0, pk_mul, nI_add, nI_1, zt_0, zt_12, zt_20, zt_26, zt_32, zf_0_0, zf_0_1, zf_0_2, zf_0_3, zf_0_4, zf_12_0, zf_12_1, zf_12_2, zf_12_4, zf_12_5, zf_20_1, zf_20_2, zf_20_3, zf_20_4, zf_20_6, zf_26_0, zf_26_1, zf_26_2, zf_26_3, zf_32_0, zf_32_1, zf_32_3, zf_32_4, zf_32_5, zf_32_6, zi_33, h.1.1, g2]
theorem zup_zup (M : zM) (k j : Nat) (x y : Int32) : zup (zup M k j x) k j y = zup M k j y := by
  funext q i
  rw [zup_e, zup_e, zup_e]
  split <;> rfl
/-- at a hole: the next element that fits, or back -/
theorem e_step {M : zM} {t n most f k a b u v : Nat} {H : List Nat} {c : tC} (h : eH M n H c) (h8 : n ≤ 8) (hk : k < H.length) (hH : H.length < 64) (hh : H.getD k 0 = 8 * a + b) (ha : a < n) (hb : b < n) (hc : c a b = 8) (huv : (u = 8 ∧ v = 0) ∨ (u < n ∧ v = u + 1)) : (zidx (fun x => okv n c (8 * a + b) x) v (n - v) < n → eTo t most f (nI k) (zup M 34 (256 + 8 * a + b) (zcl (-4) u)) f (nI (k + 1)) (zup M 34 (256 + 8 * a + b) (zcl (-4) (zidx (fun x => okv n c (8 * a + b) x) v (n - v))))) ∧ (¬ zidx (fun x => okv n c (8 * a + b) x) v (n - v) < n → eTo t most f (nI k) (zup M 34 (256 + 8 * a + b) (zcl (-4) u)) f (nI k + -1) M) := by
  have hv := eH_cset (v := u) h8 ha hb h
  have m0 : M 34 (256 + 8 * a + b) = -4 := by
    have := h.1.2 a b ha hb
    have e8 : zcl (-4) 8 = -4 := rfl
    rw [hc, e8] at this
    simpa using this
  have back : zup (zup M 34 (256 + 8 * a + b) (zcl (-4) u)) 34 (256 + 8 * a + b) (-4) = M := by rw [zup_zup, zup_id m0]
  have cell := qM_rcell (M := zup M 34 (256 + 8 * a + b) (zcl (-4) u)) (t := 4) (by decide) hv.1 h8 ha hb
  have ecs : cset c a b u a b = u := by simp [cset]
  rw [ecs] at cell
  have p0 := qM_puts (M := zup M 34 (256 + 8 * a + b) (zcl (-4) u)) (t := 4) (a := a) (b := b) (v := -4) (by omega)
  simp only [Nat.reduceMul] at p0
  rw [back] at p0
  have hole := hv.2.2 k hk
  rw [hh] at hole
  have inn := e_in (t := t) (most := most) (f := f) (k := nI k) (v := v) h h8 ha hb hc (by omega) rfl
  have d1 : (8 * a + b) / 8 = a := by omega
  have d2 : (8 * a + b) % 8 = b := by omega
  have nk : ¬ k = H.length := by omega
  have c1 : zc_M_ends_3 (lsE t most f (nI k)) (zup M 34 (256 + 8 * a + b) (zcl (-4) u)) = some (true, zup M 34 (256 + 8 * a + b) (zcl (-4) u)) := by
    simp (disch := omega) [zc_M_ends_3, lsE, zmeth, xm_en, zret, zretz, zretv, zseq, zst, zinc, zkl, zskip, zk, zi, za, zbin, zdiv, zrem, zgi, zgr, zld, zldr, zlen, zn, zc, zcall, zcallv, zrcv, zdo, zdov, zpf, zpfc, zas, zasc, zmin, zmax, zcmp, zcz, zand_e, zor_e, zite_e, zbite_e, zif_e, znot_e, z_add, z_sub, z_mul, z_and, z_or, z_xor, z_shl, z_shr, zcpy, -List.getElem?_cons_succ, zg_0, zg_1, zg_2, zg_3, zg_4, zg_5, zg_6, zg_7, zg_8, zg_9, zc_lt, zc_le, zc_gt, zc_ge, zc_eq, zc_ne, zc_lt0, zc_ge0, zc_gt0, zc_eq0, zc_ne0, zb_ne, zb_eq, zb_01, z_00, z_01, z_11, zb_f, zb_T, zb_F, zbm1, zbm2, zbm5, zbm6, zbm3, zbm4, nI_clamp, zmod_n, pk_div, nI_ne0, pk_mul, nI_add, nI_1]
  have hsz := h.1.1
  generalize hw : zidx (fun x => okv n c (8 * a + b) x) v (n - v) = w at inn ⊢
  have p1 := qM_puts (M := M) (t := 4) (a := a) (b := b) (v := nI w) (by omega)
  simp only [Nat.reduceMul] at p1
  rcases huv with ⟨rfl, rfl⟩ | ⟨hu, rfl⟩
  · refine ⟨fun g r hr => zwh_t c1 ?_ hr, fun g r hr => zwh_t c1 ?_ hr⟩
    · have ez : zcl (-4) w = nI w := zcl_lt (by omega)
      rw [ez]
      simp (disch := omega) [zs_M_ends_3, lsE, zmeth, xm_en, zret, zretz, zretv, zseq, zst, zinc, zkl, zskip, zk, zi, za, zbin, zdiv, zrem, zgi, zgr, zld, zldr, zlen, zn, zc, zcall, zcallv, zrcv, zdo, zdov, zpf, zpfc, zas, zasc, zmin, zmax, zcmp, zcz, zand_e, zor_e, zite_e, zbite_e, zif_e, znot_e, z_add, z_sub, z_mul, z_and, z_or, z_xor, z_shl, z_shr, zcpy, -List.getElem?_cons_succ, zg_0, zg_1, zg_2, zg_3, zg_4, zg_5, zg_6, zg_7, zg_8, zg_9, zc_lt, zc_le, zc_gt, zc_ge, zc_eq, zc_ne, zc_lt0, zc_ge0, zc_gt0, zc_eq0, zc_ne0, zb_ne, zb_eq, zb_01, z_00, z_01, z_11, zb_f, zb_T, zb_F, zbm1, zbm2, zbm5, zbm6, zbm3, zbm4, nI_clamp, zmod_n, pk_div, nI_ne0, pk_mul, nI_add, nI_1, zt_0, zt_12, zt_20, zt_26, zt_32, zf_0_0, zf_0_1, zf_0_2, zf_0_3, zf_0_4, zf_12_0, zf_12_1, zf_12_2, zf_12_4, zf_12_5, zf_20_1, zf_20_2, zf_20_3, zf_20_4, zf_20_6, zf_26_0, zf_26_1, zf_26_2, zf_26_3, zf_32_0, zf_32_1, zf_32_3, zf_32_4, zf_32_5, zf_32_6, hv.2.1, nk, zi_35, hole, d1, d2, cell, zcl_m4, p0, inn, zi_33, hsz, g, p1]
    · have hwl := zidx_le (p := fun x => okv n c (8 * a + b) x) (n - 0) 0
      simp (disch := omega) [zs_M_ends_3, lsE, zmeth, xm_en, zret, zretz, zretv, zseq, zst, zinc, zkl, zskip, zk, zi, za, zbin, zdiv, zrem, zgi, zgr, zld, zldr, zlen, zn, zc, zcall, zcallv, zrcv, zdo, zdov, zpf, zpfc, zas, zasc, zmin, zmax, zcmp, zcz, zand_e, zor_e, zite_e, zbite_e, zif_e, znot_e, z_add, z_sub, z_mul, z_and, z_or, z_xor, z_shl, z_shr, zcpy, -List.getElem?_cons_succ, zg_0, zg_1, zg_2, zg_3, zg_4, zg_5, zg_6, zg_7, zg_8, zg_9, zc_lt, zc_le, zc_gt, zc_ge, zc_eq, zc_ne, zc_lt0, zc_ge0, zc_gt0, zc_eq0, zc_ne0, zb_ne, zb_eq, zb_01, z_00, z_01, z_11, zb_f, zb_T, zb_F, zbm1, zbm2, zbm5, zbm6, zbm3, zbm4, nI_clamp, zmod_n, pk_div, nI_ne0, pk_mul, nI_add, nI_1, zt_0, zt_12, zt_20, zt_26, zt_32, zf_0_0, zf_0_1, zf_0_2, zf_0_3, zf_0_4, zf_12_0, zf_12_1, zf_12_2, zf_12_4, zf_12_5, zf_20_1, zf_20_2, zf_20_3, zf_20_4, zf_20_6, zf_26_0, zf_26_1, zf_26_2, zf_26_3, zf_32_0, zf_32_1, zf_32_3, zf_32_4, zf_32_5, zf_32_6, hv.2.1, nk, zi_35, hole, d1, d2, cell, zcl_m4, p0, inn, zi_33, hsz, g]
  · have eu : zcl (-4) u = nI u := zcl_lt (by omega)
    have nu : ¬ 8 ≤ u := by omega
    refine ⟨fun g r hr => zwh_t c1 ?_ hr, fun g r hr => zwh_t c1 ?_ hr⟩
    · have ez : zcl (-4) w = nI w := zcl_lt (by omega)
      rw [ez]
      rw [eu] at cell p0 hv hole ⊢
      simp (disch := omega) [zs_M_ends_3, lsE, zmeth, xm_en, zret, zretz, zretv, zseq, zst, zinc, zkl, zskip, zk, zi, za, zbin, zdiv, zrem, zgi, zgr, zld, zldr, zlen, zn, zc, zcall, zcallv, zrcv, zdo, zdov, zpf, zpfc, zas, zasc, zmin, zmax, zcmp, zcz, zand_e, zor_e, zite_e, zbite_e, zif_e, znot_e, z_add, z_sub, z_mul, z_and, z_or, z_xor, z_shl, z_shr, zcpy, -List.getElem?_cons_succ, zg_0, zg_1, zg_2, zg_3, zg_4, zg_5, zg_6, zg_7, zg_8, zg_9, zc_lt, zc_le, zc_gt, zc_ge, zc_eq, zc_ne, zc_lt0, zc_ge0, zc_gt0, zc_eq0, zc_ne0, zb_ne, zb_eq, zb_01, z_00, z_01, z_11, zb_f, zb_T, zb_F, zbm1, zbm2, zbm5, zbm6, zbm3, zbm4, nI_clamp, zmod_n, pk_div, nI_ne0, pk_mul, nI_add, nI_1, zt_0, zt_12, zt_20, zt_26, zt_32, zf_0_0, zf_0_1, zf_0_2, zf_0_3, zf_0_4, zf_12_0, zf_12_1, zf_12_2, zf_12_4, zf_12_5, zf_20_1, zf_20_2, zf_20_3, zf_20_4, zf_20_6, zf_26_0, zf_26_1, zf_26_2, zf_26_3, zf_32_0, zf_32_1, zf_32_3, zf_32_4, zf_32_5, zf_32_6, hv.2.1, nk, zi_35, hole, d1, d2, cell, p0, inn, zi_33, hsz, g, p1]
    · have hwl := zidx_le (p := fun x => okv n c (8 * a + b) x) (n - (u + 1)) (u + 1)
      rw [eu] at cell p0 hv hole ⊢
      simp (disch := omega) [zs_M_ends_3, lsE, zmeth, xm_en, zret, zretz, zretv, zseq, zst, zinc, zkl, zskip, zk, zi, za, zbin, zdiv, zrem, zgi, zgr, zld, zldr, zlen, zn, zc, zcall, zcallv, zrcv, zdo, zdov, zpf, zpfc, zas, zasc, zmin, zmax, zcmp, zcz, zand_e, zor_e, zite_e, zbite_e, zif_e, znot_e, z_add, z_sub, z_mul, z_and, z_or, z_xor, z_shl, z_shr, zcpy, -List.getElem?_cons_succ, zg_0, zg_1, zg_2, zg_3, zg_4, zg_5, zg_6, zg_7, zg_8, zg_9, zc_lt, zc_le, zc_gt, zc_ge, zc_eq, zc_ne, zc_lt0, zc_ge0, zc_gt0, zc_eq0, zc_ne0, zb_ne, zb_eq, zb_01, z_00, z_01, z_11, zb_f, zb_T, zb_F, zbm1, zbm2, zbm5, zbm6, zbm3, zbm4, nI_clamp, zmod_n, pk_div, nI_ne0, pk_mul, nI_add, nI_1, zt_0, zt_12, zt_20, zt_26, zt_32, zf_0_0, zf_0_1, zf_0_2, zf_0_3, zf_0_4, zf_12_0, zf_12_1, zf_12_2, zf_12_4, zf_12_5, zf_20_1, zf_20_2, zf_20_3, zf_20_4, zf_20_6, zf_26_0, zf_26_1, zf_26_2, zf_26_3, zf_32_0, zf_32_1, zf_32_3, zf_32_4, zf_32_5, zf_32_6, hv.2.1, nk, zi_35, hole, d1, d2, cell, p0, inn, zi_33, hsz, g]
theorem getD_l {α : Type} {x y : List α} {i : Nat} {d : α} (h : i < x.length) : (x ++ y).getD i d = x.getD i d := by
  rw [List.getD_eq_getElem?_getD, List.getD_eq_getElem?_getD, List.getElem?_append_left h]
theorem getD_r {α : Type} {x y : List α} {i : Nat} {d : α} (h : x.length ≤ i) : (x ++ y).getD i d = y.getD (i - x.length) d := by
  rw [List.getD_eq_getElem?_getD, List.getD_eq_getElem?_getD, List.getElem?_append_right h]
theorem getD_d {α : Type} {x : List α} {i : Nat} {d e : α} (h : i < x.length) : x.getD i d = x.getD i e := by
  rw [List.getD_eq_getElem?_getD, List.getD_eq_getElem?_getD, List.getElem?_eq_getElem h]
  rfl
/-- the holes are cells of the table, empty, each but once -/
def hOK (n : Nat) (hs : List Nat) (c : tC) : Prop := hs.Nodup ∧ ∀ h ∈ hs, ∃ a b, h = 8 * a + b ∧ a < n ∧ b < n ∧ c a b = 8
theorem hOK_c {n h a b v : Nat} {hs : List Nat} {c : tC} (h8 : n ≤ 8) (H : hOK n (h :: hs) c) (eh : h = 8 * a + b) (hb : b < n) : hOK n hs (cset c a b v) := by
  obtain ⟨h1, h2⟩ := H
  rw [List.nodup_cons] at h1
  refine ⟨h1.2, fun x hx => ?_⟩
  obtain ⟨p, q, e, hp, hq, hc⟩ := h2 x (List.mem_cons_of_mem _ hx)
  refine ⟨p, q, e, hp, hq, ?_⟩
  unfold cset
  rw [if_neg ?_]
  · exact hc
  · rintro ⟨rfl, rfl⟩
    rw [e, ← eh] at hx
    exact h1.1 hx
theorem e_all {t n most : Nat} {H : List Nat} (h8 : n ≤ 8) (hm : most < 2 ^ 30) (hH : H.length < 64) : ∀ (hs : List Nat) (k : Nat) (c : tC) (M : zM) (f : Nat), H.drop k = hs → k + hs.length = H.length → eH M n H c → hOK n hs c → f < most → (f + (comps n hs c).length < most → eTo t most f (nI k) M (f + (comps n hs c).length) (nI k + -1) M) ∧ (most ≤ f + (comps n hs c).length → eRet t most f (nI k) M n H ((comps n hs c).getD (most - f - 1) c))
  | [], k, c, M, f, hd, hk, h, ho, hf => by
    have ek : k = H.length := by simpa using hk
    subst ek
    have g := e_leaf (t := t) (most := most) (f := f) h hm hf hH
    refine ⟨fun q => g.2 ?_, fun q => ?_⟩
    · simp only [comps, List.length_singleton] at q
      omega
    · simp only [comps, List.length_singleton] at q
      have e : f + 1 = most := by omega
      have e2 : most - f - 1 = 0 := by omega
      rw [e2]
      exact g.1 e
  | h :: hs, k, c, M, f, hd, hk, he, ho, hf => by
    obtain ⟨a, b, eh, ha, hb, hc⟩ := ho.2 h List.mem_cons_self
    have hkl : k < H.length := by rw [← hk, List.length_cons]; omega
    have hget : H.getD k 0 = 8 * a + b := by
      have : H[k]? = some h := by
        have q : (H.drop k)[0]? = some h := by rw [hd]; rfl
        rw [List.getElem?_drop] at q
        simpa using q
      rw [List.getD_eq_getElem?_getD, this, ← eh]
      rfl
    have hd2 : H.drop (k + 1) = hs := by
      rw [← List.drop_drop, hd]
      rfl
    have e1 : h / 8 = a := by omega
    have e2 : h % 8 = b := by omega
    have m0 : M 34 (256 + 8 * a + b) = zcl (-4) 8 := by
      have := he.1.2 a b ha hb
      rw [hc] at this
      simpa using this
    have inner : ∀ (d v u f : Nat), v + d = n → ((u = 8 ∧ v = 0) ∨ (u < n ∧ v = u + 1)) → f < most → (f + (sgs (cg n hs h c) v d).length < most → eTo t most f (nI k) (zup M 34 (256 + 8 * a + b) (zcl (-4) u)) (f + (sgs (cg n hs h c) v d).length) (nI k + -1) M) ∧ (most ≤ f + (sgs (cg n hs h c) v d).length → eRet t most f (nI k) (zup M 34 (256 + 8 * a + b) (zcl (-4) u)) n H ((sgs (cg n hs h c) v d).getD (most - f - 1) c)) := by
      intro d
      induction d using Nat.strongRecOn with
      | ind d ih =>
        intro v u f hvd huv hf
        have st := e_step (t := t) (most := most) (f := f) (v := v) (u := u) he h8 hkl hH hget ha hb hc huv
        have dn : n - v = d := by omega
        rw [dn] at st
        have le := zidx_le (p := fun x => okv n c (8 * a + b) x) d v
        have no : ∀ j, v ≤ j → j < zidx (fun x => okv n c (8 * a + b) x) v d → cg n hs h c j = [] := fun j h1 h2 => by
          have := zidx_no (p := fun x => okv n c (8 * a + b) x) d v j h1 h2
          unfold cg
          rw [eh, this]
          rfl
        by_cases hw : zidx (fun x => okv n c (8 * a + b) x) v d < n
        · have yes : okv n c (8 * a + b) (zidx (fun x => okv n c (8 * a + b) x) v d) = true := zidx_lt (p := fun x => okv n c (8 * a + b) x) d v (by omega)
          have s1 := st.1 hw
          clear st
          generalize zidx (fun x => okv n c (8 * a + b) x) v d = w at le no hw yes s1
          have es : sgs (cg n hs h c) v d = comps n hs (cset c a b w) ++ sgs (cg n hs h c) (w + 1) (n - (w + 1)) := by
            have q1 := sgs_skip (g := cg n hs h c) (w - v) (n - w) v (fun j h1 h2 => no j h1 (by omega))
            have q2 : w - v + (n - w) = d := by omega
            have q3 : v + (w - v) = w := by omega
            have q4 : n - w = (n - (w + 1)) + 1 := by omega
            rw [q2, q3, q4] at q1
            rw [q1]
            show cg n hs h c w ++ _ = _
            congr 1
            unfold cg
            rw [eh, yes, cond_true]
            congr 2 <;> omega
          have hM2 := eH_cset (v := w) h8 ha hb he
          have out := e_all (t := t) h8 hm hH hs (k + 1) (cset c a b w) (zup M 34 (256 + 8 * a + b) (zcl (-4) w)) f hd2 (by rw [List.length_cons] at hk; omega) hM2 (hOK_c h8 ho eh hb) hf
          rw [pk_m1] at out
          have fr : ∀ q j, ¬ (q = 34 ∧ 256 ≤ j ∧ j < 320) → zup M 34 (256 + 8 * a + b) (zcl (-4) w) q j = zup M 34 (256 + 8 * a + b) (zcl (-4) u) q j := fun q j hq => by rw [zup_e, if_neg (by omega), zup_e, if_neg (by omega)]
          rw [es, List.length_append]
          by_cases hl : f + (comps n hs (cset c a b w)).length < most
          · have i2 := ih (n - (w + 1)) (by omega) (w + 1) w (f + (comps n hs (cset c a b w)).length) (by omega) (Or.inr ⟨hw, rfl⟩) hl
            have t2 := s1.trans (out.1 hl)
            refine ⟨fun q => ?_, fun q => ?_⟩
            · have := t2.trans (i2.1 (by omega))
              rw [← Nat.add_assoc f]
              exact this
            · have := t2.ret fr (i2.2 (by omega))
              rw [getD_r (by omega)]
              have e9 : most - f - 1 - (comps n hs (cset c a b w)).length = most - (f + (comps n hs (cset c a b w)).length) - 1 := by omega
              rw [e9]
              exact this
          · refine ⟨fun q => by omega, fun q => ?_⟩
            have := s1.ret fr (out.2 (by omega))
            rw [getD_l (by omega)]
            rw [getD_d (e := cset c a b w) (by omega)]
            exact this
        · have es : sgs (cg n hs h c) v d = [] := by
            have q1 := sgs_skip (g := cg n hs h c) d 0 v (fun j h1 h2 => no j h1 (by omega))
            rw [Nat.add_zero] at q1
            rw [q1]
            rfl
          rw [es]
          refine ⟨fun _ => st.2 hw, fun q => ?_⟩
          simp only [List.length_nil] at q
          omega
    have r := inner n 0 8 f (by omega) (Or.inl ⟨rfl, rfl⟩) hf
    rw [zup_id m0] at r
    rw [comps_c]
    exact r
/-! the reference's endings: the holes, the whole -/
theorem segs_snoc {g : Nat → List Nat} : ∀ (d i : Nat), segs g i (d + 1) = segs g i d ++ g (i + d)
  | 0, i => by simp [segs]
  | d + 1, i => by
    show g i ++ segs g (i + 1) (d + 1) = (g i ++ segs g (i + 1) d) ++ _
    rw [segs_snoc d (i + 1), List.append_assoc]
    congr 3
    omega
def hg (c : tC) (a b : Nat) : List Nat := bif decide (8 ≤ c a b) then [8 * a + b] else []
def hrow (n : Nat) (c : tC) (a : Nat) : List Nat := segs (hg c a) 0 n
def holes (n : Nat) (c : tC) : List Nat := segs (hrow n c) 0 n
theorem hrow_len (n : Nat) (c : tC) (a : Nat) : (hrow n c a).length ≤ n := by
  have := segs_len (g := hg c a) (b := 1) n 0 (fun j => by unfold hg; cases decide (8 ≤ c a j) <;> simp)
  unfold hrow
  omega
def zhl (M : zM) (P : List Nat) : zM := fun q j => if q = 35 ∧ j < P.length then nI (P.getD j 0) else if q = 32 ∧ j = 2 then nI P.length else M q j
theorem zhl_s (M : zM) (P : List Nat) (h : Nat) : zup (zup (zhl M P) 35 P.length (nI h)) 32 2 (nI (P.length + 1)) = zhl M (P ++ [h]) := by
  funext q j
  rw [zup_e, zup_e]
  unfold zhl
  rw [List.length_append, List.length_singleton]
  by_cases h1 : q = 32 ∧ j = 2
  · rw [if_pos h1, if_neg (by omega), if_pos h1]
  · rw [if_neg h1]
    by_cases h2 : q = 35 ∧ j = P.length
    · rw [if_pos h2, if_pos (by omega), h2.2, getD_r (Nat.le_refl _), Nat.sub_self]
      rfl
    · rw [if_neg h2]
      by_cases h3 : q = 35 ∧ j < P.length
      · rw [if_pos h3, if_pos (by omega), getD_l h3.2]
      · rw [if_neg h3, if_neg h1, if_neg (by omega), if_neg h1]
theorem zhl_out {M : zM} {P : List Nat} {q j : Nat} (h1 : q ≠ 35) (h2 : ¬ (q = 32 ∧ j = 2)) : zhl M P q j = M q j := by
  unfold zhl
  rw [if_neg (by omega), if_neg h2]
theorem zhl_0 {M : zM} : zup M 32 2 (nI 0) = zhl M [] := by
  funext q j
  rw [zup_e]
  unfold zhl
  by_cases h : q = 32 ∧ j = 2
  · rw [if_pos h, if_neg (by simp), if_pos h]
    rfl
  · rw [if_neg h, if_neg (by simp), if_neg h]
theorem rT_hl {M : zM} {P : List Nat} {t n : Nat} {c : tC} (h8 : n ≤ 8) (h : rT M t n c) : rT (zhl M P) t n c := h.same h8 (zhl_out (by omega) (by omega)) (fun j _ _ => zhl_out (by omega) (by omega))
theorem qM_holes2 {M : zM} {t n a : Nat} {c : tC} {y : Int32} {P : List Nat} (ht : t < 4) (h : rT M t n c) (h8 : n ≤ 8) (ha : a < n) (hP : P.length + n < 64) : zwh zc_M_ends_2 zs_M_ends_2 [some (Value.ref (32)), some (Value.int (nI t)), some (Value.int (y)), some (Value.int (nI a)), some (Value.int (nI 0)), none, none, none] (zhl M P) = some (none, [some (Value.ref (32)), some (Value.int (nI t)), some (Value.int (y)), some (Value.int (nI a)), some (Value.int (nI n)), none, none, none], zhl M (P ++ hrow n c a)) := by
  have h6 : t < 6 := by omega
  have R := zwh_up (c := zc_M_ends_2) (s := zs_M_ends_2) (fun j => [some (Value.ref (32)), some (Value.int (nI t)), some (Value.int (y)), some (Value.int (nI a)), some (Value.int (nI j)), none, none, none]) (fun j => zhl M (P ++ segs (hg c a) 0 j)) (n := n) n 0 (by omega) ?_ ?_ ?_
  · have e0 : P ++ segs (hg c a) 0 0 = P := by simp [segs]
    rw [e0] at R
    exact R
  · intro j _ h2
    have hr := rT_hl (P := P ++ segs (hg c a) 0 j) h8 h
    simp (disch := omega) [zc_M_ends_2, zmeth, xm_en, zret, zretz, zretv, zseq, zst, zinc, zkl, zskip, zk, zi, za, zbin, zdiv, zrem, zgi, zgr, zld, zldr, zlen, zn, zc, zcall, zcallv, zrcv, zdo, zdov, zpf, zpfc, zas, zasc, zmin, zmax, zcmp, zcz, zand_e, zor_e, zite_e, zbite_e, zif_e, znot_e, z_add, z_sub, z_mul, z_and, z_or, z_xor, z_shl, z_shr, zcpy, -List.getElem?_cons_succ, zg_0, zg_1, zg_2, zg_3, zg_4, zg_5, zg_6, zg_7, zg_8, zg_9, zc_lt, zc_le, zc_gt, zc_ge, zc_eq, zc_ne, zc_lt0, zc_ge0, zc_gt0, zc_eq0, zc_ne0, zb_ne, zb_eq, zb_01, z_00, z_01, z_11, zb_f, zb_T, zb_F, zbm1, zbm2, zbm5, zbm6, zbm3, zbm4, nI_clamp, zmod_n, pk_div, nI_ne0, pk_mul, nI_add, nI_1, zt_0, zt_12, zt_20, zt_26, zt_32, zf_0_0, zf_0_1, zf_0_2, zf_0_3, zf_0_4, zf_12_0, zf_12_1, zf_12_2, zf_12_4, zf_12_5, zf_20_1, zf_20_2, zf_20_3, zf_20_4, zf_20_6, zf_26_0, zf_26_1, zf_26_2, zf_26_3, zf_32_0, zf_32_1, zf_32_3, zf_32_4, zf_32_5, zf_32_6, zi_33, hr.1, h2]
  · intro j _ h2
    have hr := rT_hl (P := P ++ segs (hg c a) 0 j) h8 h
    have cell := qM_rcell h6 hr h8 ha h2
    have sl := segs_len (g := hg c a) (b := 1) j 0 (fun j => by unfold hg; cases decide (8 ≤ c a j) <;> simp)
    have e1 : P ++ segs (hg c a) 0 (j + 1) = (P ++ segs (hg c a) 0 j) ++ hg c a j := by rw [segs_snoc, Nat.zero_add, List.append_assoc]
    rw [e1]
    have hl : (P ++ segs (hg c a) 0 j).length < 64 := by rw [List.length_append]; omega
    generalize P ++ segs (hg c a) 0 j = P2 at hr cell hl
    have v2 : zhl M P2 32 2 = nI P2.length := by
      unfold zhl
      rw [if_neg (by omega), if_pos ⟨rfl, rfl⟩]
    by_cases hc : 8 ≤ c a j
    · have s := zhl_s M P2 (8 * a + j)
      have eg : hg c a j = [8 * a + j] := by unfold hg; rw [decide_eq_true hc]; rfl
      have v3 : zup (zhl M P2) 35 P2.length (nI (8 * a + j)) 32 2 = nI P2.length := by rw [zup_e, if_neg (by omega)]; exact v2
      rw [eg]
      simp (disch := omega) [zs_M_ends_2, zmeth, xm_en, zret, zretz, zretv, zseq, zst, zinc, zkl, zskip, zk, zi, za, zbin, zdiv, zrem, zgi, zgr, zld, zldr, zlen, zn, zc, zcall, zcallv, zrcv, zdo, zdov, zpf, zpfc, zas, zasc, zmin, zmax, zcmp, zcz, zand_e, zor_e, zite_e, zbite_e, zif_e, znot_e, z_add, z_sub, z_mul, z_and, z_or, z_xor, z_shl, z_shr, zcpy, -List.getElem?_cons_succ, zg_0, zg_1, zg_2, zg_3, zg_4, zg_5, zg_6, zg_7, zg_8, zg_9, zc_lt, zc_le, zc_gt, zc_ge, zc_eq, zc_ne, zc_lt0, zc_ge0, zc_gt0, zc_eq0, zc_ne0, zb_ne, zb_eq, zb_01, z_00, z_01, z_11, zb_f, zb_T, zb_F, zbm1, zbm2, zbm5, zbm6, zbm3, zbm4, nI_clamp, zmod_n, pk_div, nI_ne0, pk_mul, nI_add, nI_1, zt_0, zt_12, zt_20, zt_26, zt_32, zf_0_0, zf_0_1, zf_0_2, zf_0_3, zf_0_4, zf_12_0, zf_12_1, zf_12_2, zf_12_4, zf_12_5, zf_20_1, zf_20_2, zf_20_3, zf_20_4, zf_20_6, zf_26_0, zf_26_1, zf_26_2, zf_26_3, zf_32_0, zf_32_1, zf_32_3, zf_32_4, zf_32_5, zf_32_6, cell, zcl_m4, hc, v2, v3, zi_35, s]
    · have eg : hg c a j = [] := by unfold hg; rw [decide_eq_false hc]; rfl
      rw [eg, List.append_nil]
      simp (disch := omega) [zs_M_ends_2, zmeth, xm_en, zret, zretz, zretv, zseq, zst, zinc, zkl, zskip, zk, zi, za, zbin, zdiv, zrem, zgi, zgr, zld, zldr, zlen, zn, zc, zcall, zcallv, zrcv, zdo, zdov, zpf, zpfc, zas, zasc, zmin, zmax, zcmp, zcz, zand_e, zor_e, zite_e, zbite_e, zif_e, znot_e, z_add, z_sub, z_mul, z_and, z_or, z_xor, z_shl, z_shr, zcpy, -List.getElem?_cons_succ, zg_0, zg_1, zg_2, zg_3, zg_4, zg_5, zg_6, zg_7, zg_8, zg_9, zc_lt, zc_le, zc_gt, zc_ge, zc_eq, zc_ne, zc_lt0, zc_ge0, zc_gt0, zc_eq0, zc_ne0, zb_ne, zb_eq, zb_01, z_00, z_01, z_11, zb_f, zb_T, zb_F, zbm1, zbm2, zbm5, zbm6, zbm3, zbm4, nI_clamp, zmod_n, pk_div, nI_ne0, pk_mul, nI_add, nI_1, zt_0, zt_12, zt_20, zt_26, zt_32, zf_0_0, zf_0_1, zf_0_2, zf_0_3, zf_0_4, zf_12_0, zf_12_1, zf_12_2, zf_12_4, zf_12_5, zf_20_1, zf_20_2, zf_20_3, zf_20_4, zf_20_6, zf_26_0, zf_26_1, zf_26_2, zf_26_3, zf_32_0, zf_32_1, zf_32_3, zf_32_4, zf_32_5, zf_32_6, cell, zcl_m4, hc]
  · have hr := rT_hl (P := P ++ segs (hg c a) 0 n) h8 h
    simp (disch := omega) [zc_M_ends_2, zmeth, xm_en, zret, zretz, zretv, zseq, zst, zinc, zkl, zskip, zk, zi, za, zbin, zdiv, zrem, zgi, zgr, zld, zldr, zlen, zn, zc, zcall, zcallv, zrcv, zdo, zdov, zpf, zpfc, zas, zasc, zmin, zmax, zcmp, zcz, zand_e, zor_e, zite_e, zbite_e, zif_e, znot_e, z_add, z_sub, z_mul, z_and, z_or, z_xor, z_shl, z_shr, zcpy, -List.getElem?_cons_succ, zg_0, zg_1, zg_2, zg_3, zg_4, zg_5, zg_6, zg_7, zg_8, zg_9, zc_lt, zc_le, zc_gt, zc_ge, zc_eq, zc_ne, zc_lt0, zc_ge0, zc_gt0, zc_eq0, zc_ne0, zb_ne, zb_eq, zb_01, z_00, z_01, z_11, zb_f, zb_T, zb_F, zbm1, zbm2, zbm5, zbm6, zbm3, zbm4, nI_clamp, zmod_n, pk_div, nI_ne0, pk_mul, nI_add, nI_1, zt_0, zt_12, zt_20, zt_26, zt_32, zf_0_0, zf_0_1, zf_0_2, zf_0_3, zf_0_4, zf_12_0, zf_12_1, zf_12_2, zf_12_4, zf_12_5, zf_20_1, zf_20_2, zf_20_3, zf_20_4, zf_20_6, zf_26_0, zf_26_1, zf_26_2, zf_26_3, zf_32_0, zf_32_1, zf_32_3, zf_32_4, zf_32_5, zf_32_6, zi_33, hr.1]
theorem qM_holes1 {M : zM} {t n : Nat} {c : tC} {y : Int32} (ht : t < 4) (h : rT M t n c) (h7 : n ≤ 7) : zwh zc_M_ends_1 zs_M_ends_1 [some (Value.ref (32)), some (Value.int (nI t)), some (Value.int (y)), some (Value.int (nI 0)), none, none, none, none] (zhl M []) = some (none, [some (Value.ref (32)), some (Value.int (nI t)), some (Value.int (y)), some (Value.int (nI n)), none, none, none, none], zhl M (holes n c)) := by
  have R := zwh_up (c := zc_M_ends_1) (s := zs_M_ends_1) (fun j => [some (Value.ref (32)), some (Value.int (nI t)), some (Value.int (y)), some (Value.int (nI j)), none, none, none, none]) (fun j => zhl M (segs (hrow n c) 0 j)) (n := n) n 0 (by omega) ?_ ?_ ?_
  · exact R
  · intro j _ h2
    have hr := rT_hl (P := segs (hrow n c) 0 j) (show n ≤ 8 by omega) h
    simp (disch := omega) [zc_M_ends_1, zmeth, xm_en, zret, zretz, zretv, zseq, zst, zinc, zkl, zskip, zk, zi, za, zbin, zdiv, zrem, zgi, zgr, zld, zldr, zlen, zn, zc, zcall, zcallv, zrcv, zdo, zdov, zpf, zpfc, zas, zasc, zmin, zmax, zcmp, zcz, zand_e, zor_e, zite_e, zbite_e, zif_e, znot_e, z_add, z_sub, z_mul, z_and, z_or, z_xor, z_shl, z_shr, zcpy, -List.getElem?_cons_succ, zg_0, zg_1, zg_2, zg_3, zg_4, zg_5, zg_6, zg_7, zg_8, zg_9, zc_lt, zc_le, zc_gt, zc_ge, zc_eq, zc_ne, zc_lt0, zc_ge0, zc_gt0, zc_eq0, zc_ne0, zb_ne, zb_eq, zb_01, z_00, z_01, z_11, zb_f, zb_T, zb_F, zbm1, zbm2, zbm5, zbm6, zbm3, zbm4, nI_clamp, zmod_n, pk_div, nI_ne0, pk_mul, nI_add, nI_1, zt_0, zt_12, zt_20, zt_26, zt_32, zf_0_0, zf_0_1, zf_0_2, zf_0_3, zf_0_4, zf_12_0, zf_12_1, zf_12_2, zf_12_4, zf_12_5, zf_20_1, zf_20_2, zf_20_3, zf_20_4, zf_20_6, zf_26_0, zf_26_1, zf_26_2, zf_26_3, zf_32_0, zf_32_1, zf_32_3, zf_32_4, zf_32_5, zf_32_6, zi_33, hr.1, h2]
  · intro j _ h2
    have sl := segs_len (g := hrow n c) (b := 7) j 0 (fun j => Nat.le_trans (hrow_len n c j) h7)
    have g := qM_holes2 (P := segs (hrow n c) 0 j) (y := y) ht h (show n ≤ 8 by omega) h2 (by omega)
    have e1 : segs (hrow n c) 0 (j + 1) = segs (hrow n c) 0 j ++ hrow n c j := by rw [segs_snoc, Nat.zero_add]
    simp (disch := omega) [zs_M_ends_1, zmeth, xm_en, zret, zretz, zretv, zseq, zst, zinc, zkl, zskip, zk, zi, za, zbin, zdiv, zrem, zgi, zgr, zld, zldr, zlen, zn, zc, zcall, zcallv, zrcv, zdo, zdov, zpf, zpfc, zas, zasc, zmin, zmax, zcmp, zcz, zand_e, zor_e, zite_e, zbite_e, zif_e, znot_e, z_add, z_sub, z_mul, z_and, z_or, z_xor, z_shl, z_shr, zcpy, -List.getElem?_cons_succ, zg_0, zg_1, zg_2, zg_3, zg_4, zg_5, zg_6, zg_7, zg_8, zg_9, zc_lt, zc_le, zc_gt, zc_ge, zc_eq, zc_ne, zc_lt0, zc_ge0, zc_gt0, zc_eq0, zc_ne0, zb_ne, zb_eq, zb_01, z_00, z_01, z_11, zb_f, zb_T, zb_F, zbm1, zbm2, zbm5, zbm6, zbm3, zbm4, nI_clamp, zmod_n, pk_div, nI_ne0, pk_mul, nI_add, nI_1, g, e1]
  · have hr := rT_hl (P := segs (hrow n c) 0 n) (show n ≤ 8 by omega) h
    simp (disch := omega) [zc_M_ends_1, zmeth, xm_en, zret, zretz, zretv, zseq, zst, zinc, zkl, zskip, zk, zi, za, zbin, zdiv, zrem, zgi, zgr, zld, zldr, zlen, zn, zc, zcall, zcallv, zrcv, zdo, zdov, zpf, zpfc, zas, zasc, zmin, zmax, zcmp, zcz, zand_e, zor_e, zite_e, zbite_e, zif_e, znot_e, z_add, z_sub, z_mul, z_and, z_or, z_xor, z_shl, z_shr, zcpy, -List.getElem?_cons_succ, zg_0, zg_1, zg_2, zg_3, zg_4, zg_5, zg_6, zg_7, zg_8, zg_9, zc_lt, zc_le, zc_gt, zc_ge, zc_eq, zc_ne, zc_lt0, zc_ge0, zc_gt0, zc_eq0, zc_ne0, zb_ne, zb_eq, zb_01, z_00, z_01, z_11, zb_f, zb_T, zb_F, zbm1, zbm2, zbm5, zbm6, zbm3, zbm4, nI_clamp, zmod_n, pk_div, nI_ne0, pk_mul, nI_add, nI_1, zt_0, zt_12, zt_20, zt_26, zt_32, zf_0_0, zf_0_1, zf_0_2, zf_0_3, zf_0_4, zf_12_0, zf_12_1, zf_12_2, zf_12_4, zf_12_5, zf_20_1, zf_20_2, zf_20_3, zf_20_4, zf_20_6, zf_26_0, zf_26_1, zf_26_2, zf_26_3, zf_32_0, zf_32_1, zf_32_3, zf_32_4, zf_32_5, zf_32_6, zi_33, hr.1]
theorem holes_len {n : Nat} {c : tC} (h7 : n ≤ 7) : (holes n c).length < 64 := by
  have := segs_len (g := hrow n c) (b := 7) n 0 (fun j => Nat.le_trans (hrow_len n c j) h7)
  unfold holes
  omega
theorem hrow_mem {n a v : Nat} {c : tC} (h : v ∈ hrow n c a) : ∃ b, b < n ∧ v = 8 * a + b ∧ 8 ≤ c a b := by
  obtain ⟨b, h1, h2, h3⟩ := segs_mem _ _ h
  unfold hg at h3
  by_cases g : 8 ≤ c a b
  · rw [decide_eq_true g, cond_true, List.mem_singleton] at h3
    exact ⟨b, by omega, h3, g⟩
  · rw [decide_eq_false g] at h3
    simp at h3
theorem segs_nodup {g : Nat → List Nat} : ∀ (d i : Nat), (∀ j, i ≤ j → j < i + d → (g j).Nodup) → (∀ j k v, i ≤ j → j < k → k < i + d → v ∈ g j → v ∉ g k) → (segs g i d).Nodup
  | 0, i, _, _ => List.nodup_nil
  | d + 1, i, h1, h2 => by
    show (g i ++ segs g (i + 1) d).Nodup
    rw [List.nodup_append]
    refine ⟨h1 i (Nat.le_refl _) (by omega), segs_nodup d (i + 1) (fun j a b => h1 j (by omega) (by omega)) (fun j k v a b c => h2 j k v (by omega) b (by omega)), fun x hx y hy e => ?_⟩
    subst e
    obtain ⟨k, k1, k2, k3⟩ := segs_mem _ _ hy
    exact h2 i k x (Nat.le_refl _) (by omega) (by omega) hx k3
theorem holes_ok {n : Nat} {c : tC} (h : tO n c) : hOK n (holes n c) c := by
  have h8 := h.1.2
  refine ⟨segs_nodup n 0 (fun a _ _ => segs_nodup n 0 (fun b _ _ => ?_) (fun j k v _ h1 _ m1 m2 => ?_)) (fun j k v _ h1 _ m1 m2 => ?_), fun v hv => ?_⟩
  · unfold hg
    cases decide (8 ≤ c a b) with
    | true => simp
    | false => exact List.nodup_nil
  · unfold hg at m1 m2
    cases q1 : decide (8 ≤ c a j) <;> rw [q1] at m1 <;> simp at m1
    cases q2 : decide (8 ≤ c a k) <;> rw [q2] at m2 <;> simp at m2
    omega
  · obtain ⟨b, b1, b2, -⟩ := hrow_mem m1
    obtain ⟨d, d1, d2, -⟩ := hrow_mem m2
    omega
  · obtain ⟨a, a1, a2, a3⟩ := segs_mem _ _ hv
    obtain ⟨b, b1, b2, b3⟩ := hrow_mem a3
    refine ⟨a, b, b2, by omega, b1, ?_⟩
    rcases h.2.2.1 a b (by omega) b1 with g | g
    · omega
    · exact g
/-- the reference's endings -/
theorem qM_ends {M : zM} {t n most : Nat} {c : tC} (ht : t < 4) (h : rT M t n c) (ho : tO n c) (h7 : n ≤ 7) (hm : most < 2 ^ 30) (hm1 : 1 ≤ most) : ∃ M', zf_M_ends [.ref 32, .int (nI t), .int (nI most)] M = some (some (nI (min most (comps n (holes n c) c).length)), M') ∧ zsr M M' ∧ (most ≤ (comps n (holes n c) c).length → rT M' 4 n ((comps n (holes n c) c).getD (most - 1) c)) := by
  have h8 : n ≤ 8 := by omega
  have hlen := holes_len (c := c) h7
  have cp := qM_copies (M := M) (s := 4) (t := t) (by decide) (by omega) (by omega)
  have r4 := rT_cp (s := 4) h8 h
  have rt : rT (zcp M 4 t 64) t n c := h.same h8 (zcp_out (by omega) (by omega)) (fun j _ _ => zcp_out (by omega) (by omega))
  have hl := qM_holes1 (y := nI most) ht rt h7
  have eh : eH (zhl (zcp M 4 t 64) (holes n c)) n (holes n c) c := by
    refine ⟨rT_hl h8 r4, ?_, fun i hi => ?_⟩
    · unfold zhl
      rw [if_neg (by omega), if_pos ⟨rfl, rfl⟩]
    · unfold zhl
      rw [if_pos ⟨rfl, hi⟩]
  have fr : zsr M (zhl (zcp M 4 t 64) (holes n c)) := fun q j hq => by rw [zhl_out (by omega) (by omega), zcp_out (by omega) (by omega)]
  have al := e_all (t := t) h8 hm hlen (holes n c) 0 c _ 0 rfl (by omega) eh (holes_ok ho) (by omega)
  rw [Nat.zero_add] at al
  by_cases hc : (comps n (holes n c) c).length < most
  · have g := al.1 hc
    have em : min most (comps n (holes n c) c).length = (comps n (holes n c) c).length := by omega
    have lo : zwh zc_M_ends_3 zs_M_ends_3 (lsE t most (comps n (holes n c) c).length (nI 0 + -1)) (zhl (zcp M 4 t 64) (holes n c)) = some (none, lsE t most (comps n (holes n c) c).length (nI 0 + -1), zhl (zcp M 4 t 64) (holes n c)) := by
      refine zwh_f ?_
      have e0 : xe_cd .ge (nI 0 + -1) 0 = false := by decide
      simp (disch := omega) [zc_M_ends_3, lsE, zmeth, xm_en, zret, zretz, zretv, zseq, zst, zinc, zkl, zskip, zk, zi, za, zbin, zdiv, zrem, zgi, zgr, zld, zldr, zlen, zn, zc, zcall, zcallv, zrcv, zdo, zdov, zpf, zpfc, zas, zasc, zmin, zmax, zcmp, zcz, zand_e, zor_e, zite_e, zbite_e, zif_e, znot_e, z_add, z_sub, z_mul, z_and, z_or, z_xor, z_shl, z_shr, zcpy, -List.getElem?_cons_succ, zg_0, zg_1, zg_2, zg_3, zg_4, zg_5, zg_6, zg_7, zg_8, zg_9, e0]
    have lp := g _ lo
    simp only [lsE] at lp
    refine ⟨zhl (zcp M 4 t 64) (holes n c), ?_, fr, fun q => by omega⟩
    rw [em]
    simp (disch := omega) [zf_M_ends, zmeth, xm_en, zret, zretz, zretv, zseq, zst, zinc, zkl, zskip, zk, zi, za, zbin, zdiv, zrem, zgi, zgr, zld, zldr, zlen, zn, zc, zcall, zcallv, zrcv, zdo, zdov, zpf, zpfc, zas, zasc, zmin, zmax, zcmp, zcz, zand_e, zor_e, zite_e, zbite_e, zif_e, znot_e, z_add, z_sub, z_mul, z_and, z_or, z_xor, z_shl, z_shr, zcpy, -List.getElem?_cons_succ, zg_0, zg_1, zg_2, zg_3, zg_4, zg_5, zg_6, zg_7, zg_8, zg_9, zt_0, zt_12, zt_20, zt_26, zt_32, zf_0_0, zf_0_1, zf_0_2, zf_0_3, zf_0_4, zf_12_0, zf_12_1, zf_12_2, zf_12_4, zf_12_5, zf_20_1, zf_20_2, zf_20_3, zf_20_4, zf_20_6, zf_26_0, zf_26_1, zf_26_2, zf_26_3, zf_32_0, zf_32_1, zf_32_3, zf_32_4, zf_32_5, zf_32_6, cp, zhl_0, hl, lp]
  · obtain ⟨ls', M', g1, g2, g3⟩ := al.2 (by omega)
    have em : min most (comps n (holes n c) c).length = most := by omega
    simp only [lsE] at g1
    refine ⟨M', ?_, fun q j hq => ?_, fun _ => ?_⟩
    · rw [em]
      simp (disch := omega) [zf_M_ends, zmeth, xm_en, zret, zretz, zretv, zseq, zst, zinc, zkl, zskip, zk, zi, za, zbin, zdiv, zrem, zgi, zgr, zld, zldr, zlen, zn, zc, zcall, zcallv, zrcv, zdo, zdov, zpf, zpfc, zas, zasc, zmin, zmax, zcmp, zcz, zand_e, zor_e, zite_e, zbite_e, zif_e, znot_e, z_add, z_sub, z_mul, z_and, z_or, z_xor, z_shl, z_shr, zcpy, -List.getElem?_cons_succ, zg_0, zg_1, zg_2, zg_3, zg_4, zg_5, zg_6, zg_7, zg_8, zg_9, zt_0, zt_12, zt_20, zt_26, zt_32, zf_0_0, zf_0_1, zf_0_2, zf_0_3, zf_0_4, zf_12_0, zf_12_1, zf_12_2, zf_12_4, zf_12_5, zf_20_1, zf_20_2, zf_20_3, zf_20_4, zf_20_6, zf_26_0, zf_26_1, zf_26_2, zf_26_3, zf_32_0, zf_32_1, zf_32_3, zf_32_4, zf_32_5, zf_32_6, cp, zhl_0, hl, g1]
    · rw [g3 q j (by omega)]
      exact fr q j hq
    · exact g2.1
/-! the class's endings: what it looks over first -/
def mRow (n : Nat) (c : tC) (a : Nat) : Nat := zim (fun y => c a y) (fun y => decide (c a y < 8)) n
def mCol (n : Nat) (c : tC) (b : Nat) : Nat := zim (fun x => c x b) (fun x => decide (c x b < 8)) n
def lkP (n : Nat) (c : tC) (a b : Nat) : List Nat := segs (hrow n c) 0 a ++ segs (hg c a) 0 b
/-- rows below a, and of row a the columns below b, are looked over -/
def LK (M0 : zM) (n : Nat) (c : tC) (a b : Nat) (M : zM) : Prop := (∀ x, x < n → M 18 x = nI (if x < a then mRow n c x else if x = a then mRow b c a else 0)) ∧ (∀ y, y < n → M 19 y = nI (mCol (if y < b then a + 1 else a) c y)) ∧ (M 12 3 = nI (lkP n c a b).length ∧ ∀ i, i < (lkP n c a b).length → M 17 i = nI ((lkP n c a b).getD i 0)) ∧ ∀ q j, q ≠ 17 → q ≠ 18 → q ≠ 19 → ¬ (q = 12 ∧ j = 3) → M q j = M0 q j
theorem mRow_lt {n j a : Nat} {c : tC} (h : tO n c) (ha : a < n) (hj : j ≤ n) : mRow j c a < 2 ^ 8 := zim_lt (fun i hi hp => by simpa using hp)
theorem mCol_lt {j b : Nat} {c : tC} : mCol j c b < 2 ^ 8 := zim_lt (fun i hi hp => by simpa using hp)
theorem hg0 {n a : Nat} {c : tC} (h : tO n c) (ha : a < n) : hg c a 0 = [] := by
  have h8 := h.1.2
  unfold hg
  rw [(h.2.1 a ha).2, decide_eq_false (by omega)]
  rfl
theorem hgl (c : tC) (a b : Nat) : (hg c a b).length ≤ 1 := by unfold hg; cases decide (8 ≤ c a b) <;> simp
theorem hseg_len {n a : Nat} {c : tC} (h : tO n c) (ha : a < n) : ∀ b, (segs (hg c a) 0 b).length ≤ b - 1
  | 0 => by simp [segs]
  | b + 1 => by
    rw [segs_snoc, Nat.zero_add, List.length_append]
    have := hseg_len h ha b
    rcases Nat.eq_zero_or_pos b with g | g
    · subst g
      rw [hg0 h ha]
      simp [segs]
    · have := hgl c a b
      omega
theorem hrow0 {n : Nat} {c : tC} (h : tO n c) : hrow n c 0 = [] := by
  have h8 := h.1.2
  cases hq : hrow n c 0 with
  | nil => rfl
  | cons v l =>
    obtain ⟨b, b1, b2, b3⟩ := hrow_mem (v := v) (by rw [hq]; exact List.mem_cons_self)
    rw [(h.2.1 b b1).1] at b3
    omega
theorem hrows_len {n : Nat} {c : tC} (h : tO n c) (h6 : n ≤ 6) : ∀ a, a ≤ n → (segs (hrow n c) 0 a).length ≤ 5 * (a - 1)
  | 0, _ => by simp [segs]
  | a + 1, ha => by
    rw [segs_snoc, Nat.zero_add, List.length_append]
    have := hrows_len h h6 a (by omega)
    rcases Nat.eq_zero_or_pos a with g | g
    · subst g
      rw [hrow0 h]
      simp [segs]
    · have : (hrow n c a).length ≤ n - 1 := hseg_len h (show a < n by omega) n
      omega
theorem lkP_len {n a b : Nat} {c : tC} (h : tO n c) (h6 : n ≤ 6) (ha : a < n) (hb : b < n) (hc : 8 ≤ c a b) : (lkP n c a b).length < 25 := by
  have h1 := hrows_len h h6 a (by omega)
  have h2 := hseg_len h ha b
  have h8 := h.1.2
  unfold lkP
  rw [List.length_append]
  have a1 : 1 ≤ a := by
    rcases Nat.eq_zero_or_pos a with g | g
    · subst g
      rw [(h.2.1 b hb).1] at hc
      omega
    · exact g
  have b1 : 1 ≤ b := by
    rcases Nat.eq_zero_or_pos b with g | g
    · subst g
      rw [(h.2.1 a ha).2] at hc
      omega
    · exact g
  omega
theorem lkP_s (n : Nat) (c : tC) (a b : Nat) : lkP n c a (b + 1) = lkP n c a b ++ hg c a b := by
  unfold lkP
  rw [segs_snoc, Nat.zero_add, List.append_assoc]
theorem mRow_s (c : tC) (a b : Nat) : mRow (b + 1) c a = mRow b c a ||| (bif decide (c a b < 8) then 2 ^ c a b else 0) := rfl
theorem mCol_s (c : tC) (a b : Nat) : mCol (a + 1) c b = mCol a c b ||| (bif decide (c a b < 8) then 2 ^ c a b else 0) := rfl
theorem zcl_nm (v : Nat) : xe_cd .ne (zcl (-1) v) (-1) = !decide (8 ≤ v) := by
  have := zcl_m1 v
  show (!decide (zcl (-1) v = -1)) = _
  rw [show decide (zcl (-1) v = -1) = decide (8 ≤ v) from this]
theorem qE_look2 {M0 M : zM} {n a : Nat} {c : tC} (ho : tO n c) (h6 : n ≤ 6) (hT : kT M0 15 n c) (ha : a < n) (hL : LK M0 n c a 0 M) : zwp (zwh zc_Endings_lookOver_2 zs_Endings_lookOver_2) [some (Value.ref (12)), some (Value.int (nI a)), some (Value.int (nI 0)), none] M (fun r ls M' => r = none ∧ ls = [some (Value.ref (12)), some (Value.int (nI a)), some (Value.int (nI n)), none] ∧ LK M0 n c a n M') := by
  have h8 := ho.1.2
  have kt : ∀ {b : Nat} {M : zM}, LK M0 n c a b M → kT M 15 n c := fun g => hT.same (fun j => g.2.2.2 _ _ (by omega) (by omega) (by omega) (by omega)) (fun j => g.2.2.2 _ _ (by omega) (by omega) (by omega) (by omega))
  refine zwh_inv (fun j ls M => ls = [some (Value.ref (12)), some (Value.int (nI a)), some (Value.int (nI j)), none] ∧ LK M0 n c a j M) (n := n) ?_ n 0 (by omega) ?_ _ _ ⟨rfl, hL⟩
  · rintro ls M ⟨rfl, g⟩
    refine ⟨?_, rfl, rfl, g⟩
    simp (disch := omega) [zc_Endings_lookOver_2, zmeth, xm_en, zret, zretz, zretv, zseq, zst, zinc, zkl, zskip, zk, zi, za, zbin, zdiv, zrem, zgi, zgr, zld, zldr, zlen, zn, zc, zcall, zcallv, zrcv, zdo, zdov, zpf, zpfc, zas, zasc, zmin, zmax, zcmp, zcz, zand_e, zor_e, zite_e, zbite_e, zif_e, znot_e, z_add, z_sub, z_mul, z_and, z_or, z_xor, z_shl, z_shr, zcpy, -List.getElem?_cons_succ, zg_0, zg_1, zg_2, zg_3, zg_4, zg_5, zg_6, zg_7, zg_8, zg_9, zc_lt, zc_le, zc_gt, zc_ge, zc_eq, zc_ne, zc_lt0, zc_ge0, zc_gt0, zc_eq0, zc_ne0, zb_ne, zb_eq, zb_01, z_00, z_01, z_11, zb_f, zb_T, zb_F, zbm1, zbm2, zbm5, zbm6, zbm3, zbm4, nI_clamp, zmod_n, pk_div, nI_ne0, pk_mul, nI_add, nI_1, zt_0, zt_12, zt_20, zt_26, zt_32, zf_0_0, zf_0_1, zf_0_2, zf_0_3, zf_0_4, zf_12_0, zf_12_1, zf_12_2, zf_12_4, zf_12_5, zf_20_1, zf_20_2, zf_20_3, zf_20_4, zf_20_6, zf_26_0, zf_26_1, zf_26_2, zf_26_3, zf_32_0, zf_32_1, zf_32_3, zf_32_4, zf_32_5, zf_32_6, ztb_tag tb15, (kt g).1]
  · rintro j ls M _ hj ⟨rfl, g⟩
    refine ⟨?_, ?_⟩
    · simp (disch := omega) [zc_Endings_lookOver_2, zmeth, xm_en, zret, zretz, zretv, zseq, zst, zinc, zkl, zskip, zk, zi, za, zbin, zdiv, zrem, zgi, zgr, zld, zldr, zlen, zn, zc, zcall, zcallv, zrcv, zdo, zdov, zpf, zpfc, zas, zasc, zmin, zmax, zcmp, zcz, zand_e, zor_e, zite_e, zbite_e, zif_e, znot_e, z_add, z_sub, z_mul, z_and, z_or, z_xor, z_shl, z_shr, zcpy, -List.getElem?_cons_succ, zg_0, zg_1, zg_2, zg_3, zg_4, zg_5, zg_6, zg_7, zg_8, zg_9, zc_lt, zc_le, zc_gt, zc_ge, zc_eq, zc_ne, zc_lt0, zc_ge0, zc_gt0, zc_eq0, zc_ne0, zb_ne, zb_eq, zb_01, z_00, z_01, z_11, zb_f, zb_T, zb_F, zbm1, zbm2, zbm5, zbm6, zbm3, zbm4, nI_clamp, zmod_n, pk_div, nI_ne0, pk_mul, nI_add, nI_1, zt_0, zt_12, zt_20, zt_26, zt_32, zf_0_0, zf_0_1, zf_0_2, zf_0_3, zf_0_4, zf_12_0, zf_12_1, zf_12_2, zf_12_4, zf_12_5, zf_20_1, zf_20_2, zf_20_3, zf_20_4, zf_20_6, zf_26_0, zf_26_1, zf_26_2, zf_26_3, zf_32_0, zf_32_1, zf_32_3, zf_32_4, zf_32_5, zf_32_6, ztb_tag tb15, (kt g).1, hj]
    · have cell := qT_cell tb15 (kt g) h8 ha hj
      obtain ⟨g1, g2, ⟨g3, g4⟩, g5⟩ := g
      by_cases hc : 8 ≤ c a j
      · have hl := lkP_len ho h6 ha hj hc
        have eg : hg c a j = [8 * a + j] := by unfold hg; rw [decide_eq_true hc]; rfl
        have dz : decide (c a j < 8) = false := decide_eq_false (by omega)
        refine ⟨none, [some (Value.ref (12)), some (Value.int (nI a)), some (Value.int (nI (j + 1))), none], zup (zup M 17 (lkP n c a j).length (nI (8 * a + j))) 12 3 (nI ((lkP n c a j).length + 1)), ?_, rfl, ?_, ?_, ⟨?_, ?_⟩, ?_⟩
        · have v3 : zup M 17 (lkP n c a j).length (nI (8 * a + j)) 12 3 = nI (lkP n c a j).length := by rw [zup_e, if_neg (by omega)]; exact g3
          simp (disch := omega) [zs_Endings_lookOver_2, zmeth, xm_en, zret, zretz, zretv, zseq, zst, zinc, zkl, zskip, zk, zi, za, zbin, zdiv, zrem, zgi, zgr, zld, zldr, zlen, zn, zc, zcall, zcallv, zrcv, zdo, zdov, zpf, zpfc, zas, zasc, zmin, zmax, zcmp, zcz, zand_e, zor_e, zite_e, zbite_e, zif_e, znot_e, z_add, z_sub, z_mul, z_and, z_or, z_xor, z_shl, z_shr, zcpy, -List.getElem?_cons_succ, zg_0, zg_1, zg_2, zg_3, zg_4, zg_5, zg_6, zg_7, zg_8, zg_9, zc_lt, zc_le, zc_gt, zc_ge, zc_eq, zc_ne, zc_lt0, zc_ge0, zc_gt0, zc_eq0, zc_ne0, zb_ne, zb_eq, zb_01, z_00, z_01, z_11, zb_f, zb_T, zb_F, zbm1, zbm2, zbm5, zbm6, zbm3, zbm4, nI_clamp, zmod_n, pk_div, nI_ne0, pk_mul, nI_add, nI_1, zt_0, zt_12, zt_20, zt_26, zt_32, zf_0_0, zf_0_1, zf_0_2, zf_0_3, zf_0_4, zf_12_0, zf_12_1, zf_12_2, zf_12_4, zf_12_5, zf_20_1, zf_20_2, zf_20_3, zf_20_4, zf_20_6, zf_26_0, zf_26_1, zf_26_2, zf_26_3, zf_32_0, zf_32_1, zf_32_3, zf_32_4, zf_32_5, zf_32_6, ztb_tag tb15, cell, zcl_nm, hc, g3, hl, zi_17, v3]
        · intro x hx
          rw [zup_e, if_neg (by omega), zup_e, if_neg (by omega), g1 x hx, mRow_s, dz]
          simp
        · intro y hy
          rw [zup_e, if_neg (by omega), zup_e, if_neg (by omega), g2 y hy]
          congr 1
          by_cases q : y = j
          · subst q
            rw [if_neg (by omega), if_pos (by omega), mCol_s, dz]
            simp
          · have : y < j + 1 ↔ y < j := by omega
            simp only [this]
        · rw [zup_e, if_pos ⟨rfl, rfl⟩, lkP_s, eg, List.length_append]
          rfl
        · intro i hi
          rw [lkP_s, eg, List.length_append, List.length_singleton] at hi
          rw [zup_e, if_neg (by omega), zup_e, lkP_s, eg]
          by_cases q : i = (lkP n c a j).length
          · rw [if_pos ⟨rfl, q⟩, q, getD_r (Nat.le_refl _), Nat.sub_self]
            rfl
          · rw [if_neg (by omega), getD_l (by omega)]
            exact g4 i (by omega)
        · intro q i q1 q2 q3 q4
          rw [zup_e, if_neg (by omega), zup_e, if_neg (by omega)]
          exact g5 q i q1 q2 q3 q4
      · have hv : c a j < 8 := by omega
        have eg : hg c a j = [] := by unfold hg; rw [decide_eq_false hc]; rfl
        have dz : decide (c a j < 8) = true := decide_eq_true hv
        have s1 := nI_shl1 (v := c a j) (by omega)
        have ez : zcl (-1) (c a j) = nI (c a j) := zcl_lt hv
        have r18 := g1 a ha
        rw [if_neg (by omega), if_pos rfl] at r18
        have r19 := g2 j hj
        rw [if_neg (by omega)] at r19
        rw [ez] at cell
        have en : xe_cd .ne (nI (c a j)) (-1) = true := by rw [← ez, zcl_nm]; simp [hc]
        have r19' : zup M 18 a (nI (mRow j c a ||| 2 ^ c a j)) 19 j = nI (mCol a c j) := by rw [zup_e, if_neg (by omega)]; exact r19
        refine ⟨none, [some (Value.ref (12)), some (Value.int (nI a)), some (Value.int (nI (j + 1))), none], zup (zup M 18 a (nI (mRow j c a ||| 2 ^ c a j))) 19 j (nI (mCol a c j ||| 2 ^ c a j)), ?_, rfl, ?_, ?_, ⟨?_, ?_⟩, ?_⟩
        · simp (disch := omega) [zs_Endings_lookOver_2, zmeth, xm_en, zret, zretz, zretv, zseq, zst, zinc, zkl, zskip, zk, zi, za, zbin, zdiv, zrem, zgi, zgr, zld, zldr, zlen, zn, zc, zcall, zcallv, zrcv, zdo, zdov, zpf, zpfc, zas, zasc, zmin, zmax, zcmp, zcz, zand_e, zor_e, zite_e, zbite_e, zif_e, znot_e, z_add, z_sub, z_mul, z_and, z_or, z_xor, z_shl, z_shr, zcpy, -List.getElem?_cons_succ, zg_0, zg_1, zg_2, zg_3, zg_4, zg_5, zg_6, zg_7, zg_8, zg_9, zc_lt, zc_le, zc_gt, zc_ge, zc_eq, zc_ne, zc_lt0, zc_ge0, zc_gt0, zc_eq0, zc_ne0, zb_ne, zb_eq, zb_01, z_00, z_01, z_11, zb_f, zb_T, zb_F, zbm1, zbm2, zbm5, zbm6, zbm3, zbm4, nI_clamp, zmod_n, pk_div, nI_ne0, pk_mul, nI_add, nI_1, zt_0, zt_12, zt_20, zt_26, zt_32, zf_0_0, zf_0_1, zf_0_2, zf_0_3, zf_0_4, zf_12_0, zf_12_1, zf_12_2, zf_12_4, zf_12_5, zf_20_1, zf_20_2, zf_20_3, zf_20_4, zf_20_6, zf_26_0, zf_26_1, zf_26_2, zf_26_3, zf_32_0, zf_32_1, zf_32_3, zf_32_4, zf_32_5, zf_32_6, ztb_tag tb15, cell, en, s1, nI_or, zi_18, zi_19, r18, r19']
        · intro x hx
          rw [zup_e, if_neg (by omega), zup_e]
          by_cases q : x = a
          · rw [if_pos ⟨rfl, q⟩, if_neg (by omega), if_pos q, mRow_s, dz]
            rfl
          · rw [if_neg (by omega), g1 x hx, if_neg q, if_neg q]
        · intro y hy
          rw [zup_e]
          by_cases q : y = j
          · rw [if_pos ⟨rfl, q⟩, q, if_pos (by omega), mCol_s, dz]
            rfl
          · rw [if_neg (by omega), zup_e, if_neg (by omega), g2 y hy]
            have : y < j + 1 ↔ y < j := by omega
            simp only [this]
        · rw [zup_e, if_neg (by omega), zup_e, if_neg (by omega), g3, lkP_s, eg, List.append_nil]
        · intro i hi
          rw [lkP_s, eg, List.append_nil] at hi ⊢
          rw [zup_e, if_neg (by omega), zup_e, if_neg (by omega)]
          exact g4 i hi
        · intro q i q1 q2 q3 q4
          rw [zup_e, if_neg (by omega), zup_e, if_neg (by omega)]
          exact g5 q i q1 q2 q3 q4
theorem LK_r {M0 M : zM} {n a : Nat} {c : tC} (h : LK M0 n c a n M) : LK M0 n c (a + 1) 0 M := by
  obtain ⟨g1, g2, ⟨g3, g4⟩, g5⟩ := h
  have e : lkP n c (a + 1) 0 = lkP n c a n := by
    unfold lkP
    rw [segs_snoc, Nat.zero_add]
    simp [segs, hrow]
  refine ⟨fun x hx => ?_, fun y hy => ?_, ⟨by rw [e]; exact g3, fun i hi => by rw [e] at hi ⊢; exact g4 i hi⟩, g5⟩
  · rw [g1 x hx]
    congr 1
    by_cases q : x < a
    · rw [if_pos q, if_pos (by omega)]
    · rw [if_neg q]
      by_cases q2 : x = a
      · rw [if_pos q2, if_pos (by omega), q2]
      · rw [if_neg q2, if_neg (by omega)]
        split
        · rfl
        · rfl
  · rw [g2 y hy, if_pos hy, if_neg (by omega)]
theorem qE_look {M : zM} {n : Nat} {c : tC} (ho : tO n c) (h6 : n ≤ 6) (hT : kT M 15 n c) : ∃ M', zf_Endings_lookOver [.ref 12] M = some (none, M') ∧ (∀ a, a < n → M' 18 a = nI (mRow n c a)) ∧ (∀ b, b < n → M' 19 b = nI (mCol n c b)) ∧ (M' 12 3 = nI (holes n c).length ∧ ∀ i, i < (holes n c).length → M' 17 i = nI ((holes n c).getD i 0)) ∧ ∀ q j, q ≠ 17 → q ≠ 18 → q ≠ 19 → ¬ (q = 12 ∧ j = 3) → M' q j = M q j := by
  have h8 := ho.1.2
  have f1 := qA_fill (M := M) (k := 18) (N := 8) (v := nI 0) rfl (by decide)
  have f2 := qA_fill (M := zfl M 18 8 (nI 0)) (k := 19) (N := 8) (v := nI 0) rfl (by decide)
  have L0 : LK M n c 0 0 (zup (zfl (zfl M 18 8 (nI 0)) 19 8 (nI 0)) 12 3 (nI 0)) := by
    refine ⟨fun x hx => ?_, fun y hy => ?_, ⟨?_, fun i hi => ?_⟩, fun q j q1 q2 q3 q4 => ?_⟩
    · rw [zup_e, if_neg (by omega)]
      unfold zfl
      rw [if_neg (by omega), if_pos (by omega), if_neg (by omega)]
      split
      · rfl
      · rfl
    · rw [zup_e, if_neg (by omega)]
      unfold zfl
      rw [if_pos (by omega), if_neg (by omega)]
      rfl
    · rw [zup_e, if_pos ⟨rfl, rfl⟩]
      rfl
    · simp [lkP, segs] at hi
    · rw [zup_e, if_neg q4]
      unfold zfl
      rw [if_neg (by omega), if_neg (by omega)]
  have W := zwh_inv (c := zc_Endings_lookOver_1) (s := zs_Endings_lookOver_1) (fun j ls M' => ls = [some (Value.ref (12)), some (Value.int (nI j)), none, none] ∧ LK M n c j 0 M') (Q := fun r ls M' => r = none ∧ ls = [some (Value.ref (12)), some (Value.int (nI n)), none, none] ∧ LK M n c n 0 M') (n := n) ?_ n 0 (by omega) ?_ _ _ ⟨rfl, L0⟩
  · obtain ⟨r, ls, M', g, rfl, rfl, g1, g2, g3, g5⟩ := W
    have e : lkP n c n 0 = holes n c := by
      unfold lkP holes
      simp [segs]
    rw [e] at g3
    refine ⟨M', ?_, fun a ha => ?_, fun b hb => ?_, g3, g5⟩
    · simp (disch := omega) [zf_Endings_lookOver, zmeth, xm_en, zret, zretz, zretv, zseq, zst, zinc, zkl, zskip, zk, zi, za, zbin, zdiv, zrem, zgi, zgr, zld, zldr, zlen, zn, zc, zcall, zcallv, zrcv, zdo, zdov, zpf, zpfc, zas, zasc, zmin, zmax, zcmp, zcz, zand_e, zor_e, zite_e, zbite_e, zif_e, znot_e, z_add, z_sub, z_mul, z_and, z_or, z_xor, z_shl, z_shr, zcpy, -List.getElem?_cons_succ, zg_0, zg_1, zg_2, zg_3, zg_4, zg_5, zg_6, zg_7, zg_8, zg_9, zt_0, zt_12, zt_20, zt_26, zt_32, zf_0_0, zf_0_1, zf_0_2, zf_0_3, zf_0_4, zf_12_0, zf_12_1, zf_12_2, zf_12_4, zf_12_5, zf_20_1, zf_20_2, zf_20_3, zf_20_4, zf_20_6, zf_26_0, zf_26_1, zf_26_2, zf_26_3, zf_32_0, zf_32_1, zf_32_3, zf_32_4, zf_32_5, zf_32_6, f1, f2, g]
    · rw [g1 a ha, if_pos ha]
    · rw [g2 b hb, if_neg (by omega)]
  · rintro ls M' ⟨rfl, g⟩
    refine ⟨?_, rfl, rfl, g⟩
    have kt : M' 15 0 = nI n := (g.2.2.2 _ _ (by omega) (by omega) (by omega) (by omega)).trans hT.1
    simp (disch := omega) [zc_Endings_lookOver_1, zmeth, xm_en, zret, zretz, zretv, zseq, zst, zinc, zkl, zskip, zk, zi, za, zbin, zdiv, zrem, zgi, zgr, zld, zldr, zlen, zn, zc, zcall, zcallv, zrcv, zdo, zdov, zpf, zpfc, zas, zasc, zmin, zmax, zcmp, zcz, zand_e, zor_e, zite_e, zbite_e, zif_e, znot_e, z_add, z_sub, z_mul, z_and, z_or, z_xor, z_shl, z_shr, zcpy, -List.getElem?_cons_succ, zg_0, zg_1, zg_2, zg_3, zg_4, zg_5, zg_6, zg_7, zg_8, zg_9, zc_lt, zc_le, zc_gt, zc_ge, zc_eq, zc_ne, zc_lt0, zc_ge0, zc_gt0, zc_eq0, zc_ne0, zb_ne, zb_eq, zb_01, z_00, z_01, z_11, zb_f, zb_T, zb_F, zbm1, zbm2, zbm5, zbm6, zbm3, zbm4, nI_clamp, zmod_n, pk_div, nI_ne0, pk_mul, nI_add, nI_1, zt_0, zt_12, zt_20, zt_26, zt_32, zf_0_0, zf_0_1, zf_0_2, zf_0_3, zf_0_4, zf_12_0, zf_12_1, zf_12_2, zf_12_4, zf_12_5, zf_20_1, zf_20_2, zf_20_3, zf_20_4, zf_20_6, zf_26_0, zf_26_1, zf_26_2, zf_26_3, zf_32_0, zf_32_1, zf_32_3, zf_32_4, zf_32_5, zf_32_6, ztb_tag tb15, kt]
  · rintro j ls M' _ hj ⟨rfl, g⟩
    have kt : M' 15 0 = nI n := (g.2.2.2 _ _ (by omega) (by omega) (by omega) (by omega)).trans hT.1
    refine ⟨?_, ?_⟩
    · simp (disch := omega) [zc_Endings_lookOver_1, zmeth, xm_en, zret, zretz, zretv, zseq, zst, zinc, zkl, zskip, zk, zi, za, zbin, zdiv, zrem, zgi, zgr, zld, zldr, zlen, zn, zc, zcall, zcallv, zrcv, zdo, zdov, zpf, zpfc, zas, zasc, zmin, zmax, zcmp, zcz, zand_e, zor_e, zite_e, zbite_e, zif_e, znot_e, z_add, z_sub, z_mul, z_and, z_or, z_xor, z_shl, z_shr, zcpy, -List.getElem?_cons_succ, zg_0, zg_1, zg_2, zg_3, zg_4, zg_5, zg_6, zg_7, zg_8, zg_9, zc_lt, zc_le, zc_gt, zc_ge, zc_eq, zc_ne, zc_lt0, zc_ge0, zc_gt0, zc_eq0, zc_ne0, zb_ne, zb_eq, zb_01, z_00, z_01, z_11, zb_f, zb_T, zb_F, zbm1, zbm2, zbm5, zbm6, zbm3, zbm4, nI_clamp, zmod_n, pk_div, nI_ne0, pk_mul, nI_add, nI_1, zt_0, zt_12, zt_20, zt_26, zt_32, zf_0_0, zf_0_1, zf_0_2, zf_0_3, zf_0_4, zf_12_0, zf_12_1, zf_12_2, zf_12_4, zf_12_5, zf_20_1, zf_20_2, zf_20_3, zf_20_4, zf_20_6, zf_26_0, zf_26_1, zf_26_2, zf_26_3, zf_32_0, zf_32_1, zf_32_3, zf_32_4, zf_32_5, zf_32_6, ztb_tag tb15, kt, hj]
    · obtain ⟨r, ls2, M2, e1, rfl, rfl, e2⟩ := qE_look2 ho h6 hT hj g
      refine ⟨none, [some (Value.ref (12)), some (Value.int (nI (j + 1))), none, none], M2, ?_, rfl, LK_r e2⟩
      simp (disch := omega) [zs_Endings_lookOver_1, zmeth, xm_en, zret, zretz, zretv, zseq, zst, zinc, zkl, zskip, zk, zi, za, zbin, zdiv, zrem, zgi, zgr, zld, zldr, zlen, zn, zc, zcall, zcallv, zrcv, zdo, zdov, zpf, zpfc, zas, zasc, zmin, zmax, zcmp, zcz, zand_e, zor_e, zite_e, zbite_e, zif_e, znot_e, z_add, z_sub, z_mul, z_and, z_or, z_xor, z_shl, z_shr, zcpy, -List.getElem?_cons_succ, zg_0, zg_1, zg_2, zg_3, zg_4, zg_5, zg_6, zg_7, zg_8, zg_9, zc_lt, zc_le, zc_gt, zc_ge, zc_eq, zc_ne, zc_lt0, zc_ge0, zc_gt0, zc_eq0, zc_ne0, zb_ne, zb_eq, zb_01, z_00, z_01, z_11, zb_f, zb_T, zb_F, zbm1, zbm2, zbm5, zbm6, zbm3, zbm4, nI_clamp, zmod_n, pk_div, nI_ne0, pk_mul, nI_add, nI_1, e1]
/-! the class's endings: filling -/
theorem mRow_t {n a v : Nat} {c : tC} : (mRow n c a).testBit v = true ↔ v < 8 ∧ ∃ y, y < n ∧ c a y = v := by
  unfold mRow
  rw [zim_t, zany_t]
  simp only [Bool.and_eq_true, decide_eq_true_eq]
  constructor
  · rintro ⟨i, hi, h1, h2⟩
    exact ⟨by omega, i, hi, h2⟩
  · rintro ⟨h1, i, hi, h2⟩
    exact ⟨i, hi, by omega, h2⟩
theorem mCol_t {n b v : Nat} {c : tC} : (mCol n c b).testBit v = true ↔ v < 8 ∧ ∃ x, x < n ∧ c x b = v := by
  unfold mCol
  rw [zim_t, zany_t]
  simp only [Bool.and_eq_true, decide_eq_true_eq]
  constructor
  · rintro ⟨i, hi, h1, h2⟩
    exact ⟨by omega, i, hi, h2⟩
  · rintro ⟨h1, i, hi, h2⟩
    exact ⟨i, hi, by omega, h2⟩
theorem okv_m {n a b v h : Nat} {c : tC} (eh : h = 8 * a + b) (hb : b < 8) (hv : v < 8) : okv n c h v = !((mRow n c a ||| mCol n c b).testBit v) := by
  have e1 : h / 8 = a := by omega
  have e2 : h % 8 = b := by omega
  rw [Bool.eq_iff_iff, Bool.not_eq_true', ← Bool.not_eq_true, Nat.testBit_or, Bool.or_eq_true, mRow_t, mCol_t]
  unfold okv
  rw [zall_t, e1, e2]
  simp only [Bool.and_eq_true, Bool.not_eq_true', decide_eq_false_iff_not]
  constructor
  · rintro g (⟨-, y, hy, q⟩ | ⟨-, y, hy, q⟩)
    · exact (g y hy).1 q
    · exact (g y hy).2 q
  · intro g i hi
    exact ⟨fun q => g (Or.inl ⟨hv, i, hi, q⟩), fun q => g (Or.inr ⟨hv, i, hi, q⟩)⟩
theorem mRow_cs {n a b v : Nat} {c : tC} (hb : b < n) (hv : v < 8) (hc : c a b = 8) : mRow n (cset c a b v) a = mRow n c a ||| 2 ^ v := by
  refine tb_ext (fun w => ?_)
  rw [Nat.testBit_or, Bool.or_eq_true, mRow_t, mRow_t, Nat.testBit_two_pow, decide_eq_true_eq]
  unfold cset
  constructor
  · rintro ⟨h1, y, hy, q⟩
    split at q
    · exact Or.inr q
    · exact Or.inl ⟨h1, y, hy, q⟩
  · rintro (⟨h1, y, hy, q⟩ | q)
    · refine ⟨h1, y, hy, ?_⟩
      rw [if_neg ?_]
      · exact q
      · rintro ⟨-, rfl⟩
        omega
    · exact ⟨by omega, b, hb, by rw [if_pos ⟨rfl, rfl⟩]; exact q⟩
theorem mCol_cs {n a b v : Nat} {c : tC} (ha : a < n) (hv : v < 8) (hc : c a b = 8) : mCol n (cset c a b v) b = mCol n c b ||| 2 ^ v := by
  refine tb_ext (fun w => ?_)
  rw [Nat.testBit_or, Bool.or_eq_true, mCol_t, mCol_t, Nat.testBit_two_pow, decide_eq_true_eq]
  unfold cset
  constructor
  · rintro ⟨h1, y, hy, q⟩
    split at q
    · exact Or.inr q
    · exact Or.inl ⟨h1, y, hy, q⟩
  · rintro (⟨h1, y, hy, q⟩ | q)
    · refine ⟨h1, y, hy, ?_⟩
      rw [if_neg ?_]
      · exact q
      · rintro ⟨rfl, -⟩
        omega
    · exact ⟨by omega, a, ha, by rw [if_pos ⟨rfl, rfl⟩]; exact q⟩
theorem mRow_ne {n a b v x : Nat} {c : tC} (hx : x ≠ a) : mRow n (cset c a b v) x = mRow n c x := by
  unfold mRow cset
  refine zim_congr (fun i _ => by rw [if_neg (by omega)]) (fun i _ => by rw [if_neg (by omega)])
theorem mCol_ne {n a b v y : Nat} {c : tC} (hy : y ≠ b) : mCol n (cset c a b v) y = mCol n c y := by
  unfold mCol cset
  refine zim_congr (fun i _ => by rw [if_neg (by omega)]) (fun i _ => by rw [if_neg (by omega)])
theorem unbit : ∀ s, s < 256 → ∀ v, v < 8 → s.testBit v = false → nI (s ||| 2 ^ v) &&& ~~~nI (2 ^ v) = nI s := by decide +kernel
theorem and_bit (s v : Nat) : s &&& 2 ^ v = bif s.testBit v then 2 ^ v else 0 := by
  refine tb_ext (fun w => ?_)
  rw [Nat.testBit_and, Bool.and_eq_true, Nat.testBit_two_pow, decide_eq_true_eq]
  constructor
  · rintro ⟨h1, rfl⟩
    rw [h1, cond_true, Nat.testBit_two_pow]
    simp
  · intro h
    cases hs : s.testBit v with
    | false => rw [hs] at h; simp at h
    | true =>
      rw [hs, cond_true, Nat.testBit_two_pow, decide_eq_true_eq] at h
      subst h
      exact ⟨hs, rfl⟩
def KF (M : zM) (n : Nat) (H hs : List Nat) (c : tC) (most f : Nat) : Prop := M 15 0 = nI n ∧ (M 12 3 = nI H.length ∧ ∀ i, i < H.length → M 17 i = nI (H.getD i 0)) ∧ ((∀ a, a < n → M 18 a = nI (mRow n c a)) ∧ ∀ b, b < n → M 19 b = nI (mCol n c b)) ∧ (∀ a b, a < n → b < n → 8 * a + b ∉ hs → M 16 (8 * a + b) = zcl (-1) (c a b)) ∧ M 12 6 = nI f ∧ M 12 7 = nI most
def FR (M M' : zM) : Prop := ∀ q j, q ≠ 13 → q ≠ 14 → q ≠ 16 → q ≠ 18 → q ≠ 19 → ¬ (q = 12 ∧ j = 6) → M' q j = M q j
/-- what comes of the first table: R was found, f before it -/
def FT (M M' : zM) (n f : Nat) (R : List tC) (c : tC) : Prop := (f = 0 → R ≠ [] → kT M' 13 n (R.getD 0 c)) ∧ (f ≠ 0 ∨ R = [] → ∀ j, M' 13 j = M 13 j ∧ M' 14 j = M 14 j)
theorem FR.trans {M M1 M2 : zM} (h : FR M M1) (h2 : FR M1 M2) : FR M M2 := fun q j a b c d e f => (h2 q j a b c d e f).trans (h q j a b c d e f)
theorem FT.app {M M1 M2 : zM} {n f f1 : Nat} {R1 R2 : List tC} {c d : tC} (h1 : FT M M1 n f R1 c) (h2 : FT M1 M2 n f1 R2 d) (e : f1 = 0 ↔ f = 0 ∧ R1 = []) : FT M M2 n f (R1 ++ R2) c := by
  refine ⟨fun hf hR => ?_, fun hq j => ?_⟩
  · by_cases g : R1 = []
    · subst g
      have h3 := h2.1 (e.mpr ⟨hf, rfl⟩) (by simpa using hR)
      have hl : 0 < R2.length := List.length_pos_iff.mpr (by simpa using hR)
      rw [List.nil_append, getD_d (e := d) hl]
      exact h3
    · have h3 := h1.1 hf g
      have h4 := h2.2 (Or.inl (fun q => g (e.mp q).2))
      rw [getD_l (List.length_pos_iff.mpr g)]
      exact h3.same (fun j => (h4 j).1) (fun j => (h4 j).2)
  · have q1 : f ≠ 0 ∨ R1 = [] := by
      rcases hq with q | q
      · exact Or.inl q
      · exact Or.inr (List.append_eq_nil_iff.mp q).1
    have q2 : f1 ≠ 0 ∨ R2 = [] := by
      rcases hq with q | q
      · exact Or.inl (fun z => q (e.mp z).1)
      · exact Or.inr (List.append_eq_nil_iff.mp q).2
    have a1 := h1.2 q1 j
    have a2 := h2.2 q2 j
    exact ⟨a2.1.trans a1.1, a2.2.trans a1.2⟩
theorem fl_leaf {M : zM} {n most f k fuel : Nat} {H : List Nat} {c : tC} (h8 : n ≤ 8) (hk : k = H.length) (hH : H.length < 64) (hm : most < 2 ^ 30) (hf : f < most) (h : KF M n H [] c most f) : ∃ M', zf_Endings_fill (fuel + 1) [.ref 12, .int (nI k)] M = some (none, M') ∧ KF M' n H [] c most (f + 1) ∧ FR M M' ∧ FT M M' n f [c] c := by
  subst hk
  obtain ⟨g1, ⟨g2, g3⟩, ⟨g4, g5⟩, g6, g7, g8⟩ := h
  have k15 : kT M 15 n c := ⟨g1, fun a b ha hb => g6 a b ha hb List.not_mem_nil⟩
  by_cases hz : f = 0
  · subst hz
    have e6 : zto M 13 15 12 6 = nI 0 := by unfold zto; rw [if_neg (by omega), if_neg (by omega)]; exact g7
    refine ⟨zup (zto M 13 15) 12 6 (nI 1), ?_, ⟨?_, ⟨?_, fun i hi => ?_⟩, ⟨fun a ha => ?_, fun b hb => ?_⟩, fun a b ha hb hn => ?_, ?_, ?_⟩, fun q j q1 q2 q3 q4 q5 q6 => ?_, ⟨fun _ _ => ?_, fun q => ?_⟩⟩
    · simp (disch := omega) [zf_Endings_fill, zf_Endings_keepFound, zmeth, xm_en, zret, zretz, zretv, zseq, zst, zinc, zkl, zskip, zk, zi, za, zbin, zdiv, zrem, zgi, zgr, zld, zldr, zlen, zn, zc, zcall, zcallv, zrcv, zdo, zdov, zpf, zpfc, zas, zasc, zmin, zmax, zcmp, zcz, zand_e, zor_e, zite_e, zbite_e, zif_e, znot_e, z_add, z_sub, z_mul, z_and, z_or, z_xor, z_shl, z_shr, zcpy, -List.getElem?_cons_succ, zg_0, zg_1, zg_2, zg_3, zg_4, zg_5, zg_6, zg_7, zg_8, zg_9, zc_lt, zc_le, zc_gt, zc_ge, zc_eq, zc_ne, zc_lt0, zc_ge0, zc_gt0, zc_eq0, zc_ne0, zb_ne, zb_eq, zb_01, z_00, z_01, z_11, zb_f, zb_T, zb_F, zbm1, zbm2, zbm5, zbm6, zbm3, zbm4, nI_clamp, zmod_n, pk_div, nI_ne0, pk_mul, nI_add, nI_1, zt_0, zt_12, zt_20, zt_26, zt_32, zf_0_0, zf_0_1, zf_0_2, zf_0_3, zf_0_4, zf_12_0, zf_12_1, zf_12_2, zf_12_4, zf_12_5, zf_20_1, zf_20_2, zf_20_3, zf_20_4, zf_20_6, zf_26_0, zf_26_1, zf_26_2, zf_26_3, zf_32_0, zf_32_1, zf_32_3, zf_32_4, zf_32_5, zf_32_6, g2, g7, ztb_tag tb13, qT_takeOver tb13 tb15, e6]
    all_goals try (rw [zup_e, if_neg (by omega)]; unfold zto; rw [if_neg (by omega), if_neg (by omega)])
    · exact g1
    · exact g2
    · exact g3 i hi
    · exact g4 a ha
    · exact g5 b hb
    · exact g6 a b ha hb hn
    · rw [zup_e, if_pos ⟨rfl, rfl⟩]
    · exact g8
    · have := kT_to (k := 13) tb13 tb15 h8 k15
      exact this.same (fun j => by rw [zup_e, if_neg (by omega)]) (fun j => by rw [zup_e, if_neg (by omega)])
    · rcases q with q | q
      · exact absurd rfl q
      · cases q
  · refine ⟨zup M 12 6 (nI (f + 1)), ?_, ⟨?_, ⟨?_, fun i hi => ?_⟩, ⟨fun a ha => ?_, fun b hb => ?_⟩, fun a b ha hb hn => ?_, ?_, ?_⟩, fun q j q1 q2 q3 q4 q5 q6 => ?_, ⟨fun q _ => absurd q hz, fun q j => ⟨?_, ?_⟩⟩⟩
    · simp (disch := omega) [zf_Endings_fill, zf_Endings_keepFound, zmeth, xm_en, zret, zretz, zretv, zseq, zst, zinc, zkl, zskip, zk, zi, za, zbin, zdiv, zrem, zgi, zgr, zld, zldr, zlen, zn, zc, zcall, zcallv, zrcv, zdo, zdov, zpf, zpfc, zas, zasc, zmin, zmax, zcmp, zcz, zand_e, zor_e, zite_e, zbite_e, zif_e, znot_e, z_add, z_sub, z_mul, z_and, z_or, z_xor, z_shl, z_shr, zcpy, -List.getElem?_cons_succ, zg_0, zg_1, zg_2, zg_3, zg_4, zg_5, zg_6, zg_7, zg_8, zg_9, zc_lt, zc_le, zc_gt, zc_ge, zc_eq, zc_ne, zc_lt0, zc_ge0, zc_gt0, zc_eq0, zc_ne0, zb_ne, zb_eq, zb_01, z_00, z_01, z_11, zb_f, zb_T, zb_F, zbm1, zbm2, zbm5, zbm6, zbm3, zbm4, nI_clamp, zmod_n, pk_div, nI_ne0, pk_mul, nI_add, nI_1, zt_0, zt_12, zt_20, zt_26, zt_32, zf_0_0, zf_0_1, zf_0_2, zf_0_3, zf_0_4, zf_12_0, zf_12_1, zf_12_2, zf_12_4, zf_12_5, zf_20_1, zf_20_2, zf_20_3, zf_20_4, zf_20_6, zf_26_0, zf_26_1, zf_26_2, zf_26_3, zf_32_0, zf_32_1, zf_32_3, zf_32_4, zf_32_5, zf_32_6, g2, g7, hz]
    all_goals try (rw [zup_e, if_neg (by omega)])
    · exact g1
    · exact g2
    · exact g3 i hi
    · exact g4 a ha
    · exact g5 b hb
    · exact g6 a b ha hb hn
    · rw [zup_e, if_pos ⟨rfl, rfl⟩]
    · exact g8
theorem fl_in {M : zM} {n most f f2 k a b v fuel : Nat} {H hs : List Nat} {c : tC} (h8 : n ≤ 8) (hk : k < H.length) (hH : H.length < 64) (hm : most < 2 ^ 30) (ha : a < n) (hb : b < n) (hc : c a b = 8) (hv : v < n) (hok : okv n c (8 * a + b) v = true) (hno : 8 * a + b ∉ hs) (h : KF M n H ((8 * a + b) :: hs) c most f)
    (hcall : ∀ M1, KF M1 n H hs (cset c a b v) most f → ∃ M2, zf_Endings_fill fuel [.ref 12, .int (nI (k + 1))] M1 = some (none, M2) ∧ KF M2 n H hs (cset c a b v) most f2 ∧ FR M1 M2 ∧ FT M1 M2 n f (comps n hs (cset c a b v)) (cset c a b v)) : ∃ M', zs_Endings_fill_1 (zf_Endings_fill fuel) [some (Value.ref (12)), some (Value.int (nI k)), some (Value.int (nI a)), some (Value.int (nI b)), some (Value.int (nI (mRow n c a ||| mCol n c b))), some (Value.int (nI v)), none] M = some (none, [some (Value.ref (12)), some (Value.int (nI k)), some (Value.int (nI a)), some (Value.int (nI b)), some (Value.int (nI (mRow n c a ||| mCol n c b))), some (Value.int (nI (v + 1))), none], M') ∧ KF M' n H ((8 * a + b) :: hs) c most f2 ∧ FR M M' ∧ FT M M' n f (comps n hs (cset c a b v)) (cset c a b v) := by
  obtain ⟨g1, ⟨g2, g3⟩, ⟨g4, g5⟩, g6, g7, g8⟩ := h
  have hv8 : v < 8 := by omega
  have okm := okv_m (n := n) (c := c) (v := v) (h := 8 * a + b) rfl (show b < 8 by omega) hv8
  rw [hok] at okm
  have tbf : (mRow n c a ||| mCol n c b).testBit v = false := by simpa using okm.symm
  have tb2 := tbf
  rw [Nat.testBit_or, Bool.or_eq_false_iff] at tb2
  have rl : mRow n c a < 256 := zim_lt (m := 8) (fun i hi hp => by simpa using hp)
  have cl : mCol n c b < 256 := zim_lt (m := 8) (fun i hi hp => by simpa using hp)
  have s1 := nI_shl1 (v := v) (by omega)
  have ez : nI (mRow n c a ||| mCol n c b) &&& nI (2 ^ v) = nI 0 := by rw [nI_and, and_bit, tbf]; rfl
  have e0 : xe_cd .eq (nI 0) 0 = true := by decide
  have p1 := qT_put (M := M) (v := nI v) tb15 g1 h8 ha hb
  have r18 : zup M 16 (8 * a + b) (nI v) 18 a = nI (mRow n c a) := by rw [zup_e, if_neg (by omega)]; exact g4 a ha
  have r19 : zup (zup M 16 (8 * a + b) (nI v)) 18 a (nI (mRow n c a ||| 2 ^ v)) 19 b = nI (mCol n c b) := by rw [zup_e, if_neg (by omega), zup_e, if_neg (by omega)]; exact g5 b hb
  obtain ⟨M2, f1, ⟨k1, ⟨k2, k3⟩, ⟨k4, k5⟩, k6, k7, k8⟩, fr, ft⟩ := hcall (zup (zup (zup M 16 (8 * a + b) (nI v)) 18 a (nI (mRow n c a ||| 2 ^ v))) 19 b (nI (mCol n c b ||| 2 ^ v))) (by
    refine ⟨?_, ⟨?_, fun i hi => ?_⟩, ⟨fun x hx => ?_, fun y hy => ?_⟩, fun x y hx hy hn => ?_, ?_, ?_⟩
    · rw [zup_e, if_neg (by omega), zup_e, if_neg (by omega), zup_e, if_neg (by omega)]; exact g1
    · rw [zup_e, if_neg (by omega), zup_e, if_neg (by omega), zup_e, if_neg (by omega)]; exact g2
    · rw [zup_e, if_neg (by omega), zup_e, if_neg (by omega), zup_e, if_neg (by omega)]; exact g3 i hi
    · rw [zup_e, if_neg (by omega), zup_e]
      by_cases q : x = a
      · rw [if_pos ⟨rfl, q⟩, q, mRow_cs hb hv8 hc]
      · rw [if_neg (by omega), zup_e, if_neg (by omega), mRow_ne q]
        exact g4 x hx
    · rw [zup_e]
      by_cases q : y = b
      · rw [if_pos ⟨rfl, q⟩, q, mCol_cs ha hv8 hc]
      · rw [if_neg (by omega), zup_e, if_neg (by omega), zup_e, if_neg (by omega), mCol_ne q]
        exact g5 y hy
    · rw [zup_e, if_neg (by omega), zup_e, if_neg (by omega), zup_e]
      unfold cset
      by_cases q : x = a ∧ y = b
      · rw [if_pos (by omega), if_pos q, zcl_lt hv8]
      · rw [if_neg (by omega), if_neg q]
        refine g6 x y hx hy (fun z => ?_)
        rcases List.mem_cons.mp z with z | z
        · omega
        · exact hn z
    · rw [zup_e, if_neg (by omega), zup_e, if_neg (by omega), zup_e, if_neg (by omega)]; exact g7
    · rw [zup_e, if_neg (by omega), zup_e, if_neg (by omega), zup_e, if_neg (by omega)]; exact g8)
  have q18 : M2 18 a = nI (mRow n c a ||| 2 ^ v) := by rw [k4 a ha, mRow_cs hb hv8 hc]
  have u18 := unbit _ rl v hv8 tb2.1
  have q19 : zup M2 18 a (nI (mRow n c a)) 19 b = nI (mCol n c b ||| 2 ^ v) := by rw [zup_e, if_neg (by omega), k5 b hb, mCol_cs ha hv8 hc]
  have u19 := unbit _ cl v hv8 tb2.2
  refine ⟨zup (zup M2 18 a (nI (mRow n c a))) 19 b (nI (mCol n c b)), ?_, ⟨?_, ⟨?_, fun i hi => ?_⟩, ⟨fun x hx => ?_, fun y hy => ?_⟩, fun x y hx hy hn => ?_, ?_, ?_⟩, fun q j q1 q2 q3 q4 q5 q6 => ?_, ⟨fun z1 z2 => ?_, fun z j => ?_⟩⟩
  · simp (disch := omega) [zs_Endings_fill_1, zmeth, xm_en, zret, zretz, zretv, zseq, zst, zinc, zkl, zskip, zk, zi, za, zbin, zdiv, zrem, zgi, zgr, zld, zldr, zlen, zn, zc, zcall, zcallv, zrcv, zdo, zdov, zpf, zpfc, zas, zasc, zmin, zmax, zcmp, zcz, zand_e, zor_e, zite_e, zbite_e, zif_e, znot_e, z_add, z_sub, z_mul, z_and, z_or, z_xor, z_shl, z_shr, zcpy, -List.getElem?_cons_succ, zg_0, zg_1, zg_2, zg_3, zg_4, zg_5, zg_6, zg_7, zg_8, zg_9, zt_0, zt_12, zt_20, zt_26, zt_32, zf_0_0, zf_0_1, zf_0_2, zf_0_3, zf_0_4, zf_12_0, zf_12_1, zf_12_2, zf_12_4, zf_12_5, zf_20_1, zf_20_2, zf_20_3, zf_20_4, zf_20_6, zf_26_0, zf_26_1, zf_26_2, zf_26_3, zf_32_0, zf_32_1, zf_32_3, zf_32_4, zf_32_5, zf_32_6, s1, ez, e0, ztb_tag tb15, p1, zi_18, zi_19, nI_clamp, r18, r19, nI_or, nI_1, nI_add, f1, q18, u18, q19, u19]
  · rw [zup_e, if_neg (by omega), zup_e, if_neg (by omega)]; exact k1
  · rw [zup_e, if_neg (by omega), zup_e, if_neg (by omega)]; exact k2
  · rw [zup_e, if_neg (by omega), zup_e, if_neg (by omega)]; exact k3 i hi
  · rw [zup_e, if_neg (by omega), zup_e]
    by_cases q : x = a
    · rw [if_pos ⟨rfl, q⟩, q]
    · rw [if_neg (by omega), k4 x hx, mRow_ne q]
  · rw [zup_e]
    by_cases q : y = b
    · rw [if_pos ⟨rfl, q⟩, q]
    · rw [if_neg (by omega), zup_e, if_neg (by omega), k5 y hy, mCol_ne q]
  · rw [zup_e, if_neg (by omega), zup_e, if_neg (by omega), k6 x y hx hy (fun z => hn (List.mem_cons_of_mem _ z))]
    unfold cset
    rw [if_neg ?_]
    rintro ⟨rfl, rfl⟩
    exact hn List.mem_cons_self
  · rw [zup_e, if_neg (by omega), zup_e, if_neg (by omega)]; exact k7
  · rw [zup_e, if_neg (by omega), zup_e, if_neg (by omega)]; exact k8
  · rw [zup_e, if_neg (by omega), zup_e, if_neg (by omega), fr q j q1 q2 q3 q4 q5 q6, zup_e, if_neg (by omega), zup_e, if_neg (by omega), zup_e, if_neg (by omega)]
  · exact (ft.1 z1 z2).same (fun j => by rw [zup_e, if_neg (by omega), zup_e, if_neg (by omega)]) (fun j => by rw [zup_e, if_neg (by omega), zup_e, if_neg (by omega)])
  · have := ft.2 z j
    refine ⟨?_, ?_⟩
    · rw [zup_e, if_neg (by omega), zup_e, if_neg (by omega), this.1, zup_e, if_neg (by omega), zup_e, if_neg (by omega), zup_e, if_neg (by omega)]
    · rw [zup_e, if_neg (by omega), zup_e, if_neg (by omega), this.2, zup_e, if_neg (by omega), zup_e, if_neg (by omega), zup_e, if_neg (by omega)]
theorem sgs_snoc {g : Nat → List tC} : ∀ (d i : Nat), sgs g i (d + 1) = sgs g i d ++ g (i + d)
  | 0, i => by simp [sgs]
  | d + 1, i => by
    show g i ++ sgs g (i + 1) (d + 1) = (g i ++ sgs g (i + 1) d) ++ _
    rw [sgs_snoc d (i + 1), List.append_assoc]
    congr 3
    omega
theorem sgs_le {g : Nat → List tC} : ∀ (d e : Nat), (sgs g 0 d).length ≤ (sgs g 0 (d + e)).length
  | d, 0 => Nat.le_refl _
  | d, e + 1 => by
    have := sgs_le (g := g) d e
    rw [← Nat.add_assoc, sgs_snoc, List.length_append]
    omega
theorem fl_all {n most : Nat} {H : List Nat} (h8 : n ≤ 8) (hm : most < 2 ^ 30) (hH : H.length ≤ 25) : ∀ (hs : List Nat) (k : Nat) (c : tC) (M : zM) (f fuel : Nat), H.drop k = hs → k + hs.length = H.length → KF M n H hs c most f → hOK n hs c → f < most → hs.length < fuel → ∃ M', zf_Endings_fill fuel [.ref 12, .int (nI k)] M = some (none, M') ∧ KF M' n H hs c most (min most (f + (comps n hs c).length)) ∧ FR M M' ∧ FT M M' n f (comps n hs c) c
  | [], k, c, M, f, fuel, hd, hk, h, ho, hf, hfu => by
    obtain ⟨fu, rfl⟩ : ∃ fu, fuel = fu + 1 := ⟨fuel - 1, by omega⟩
    have e : min most (f + (comps n [] c).length) = f + 1 := by
      simp only [comps, List.length_singleton]
      omega
    rw [e]
    exact fl_leaf h8 (by simpa using hk) (by omega) hm hf h
  | h :: hs, k, c, M, f, fuel, hd, hk, he, ho, hf, hfu => by
    obtain ⟨fu, rfl⟩ : ∃ fu, fuel = fu + 1 := ⟨fuel - 1, by omega⟩
    obtain ⟨a, b, eh, ha, hb, hc⟩ := ho.2 h List.mem_cons_self
    subst eh
    have hkl : k < H.length := by rw [← hk, List.length_cons]; omega
    have hget : H.getD k 0 = 8 * a + b := by
      have : H[k]? = some (8 * a + b) := by
        have q : (H.drop k)[0]? = some (8 * a + b) := by rw [hd]; rfl
        rw [List.getElem?_drop] at q
        simpa using q
      rw [List.getD_eq_getElem?_getD, this]
      rfl
    have hd2 : H.drop (k + 1) = hs := by
      rw [← List.drop_drop, hd]
      rfl
    have hno : 8 * a + b ∉ hs := (List.nodup_cons.mp ho.1).1
    have rl : mRow n c a < 256 := zim_lt (m := 8) (fun i hi hp => by simpa using hp)
    have cl : mCol n c b < 256 := zim_lt (m := 8) (fun i hi hp => by simpa using hp)
    have loop : ∀ (d v : Nat) (M' : zM), v + d = n → KF M' n H ((8 * a + b) :: hs) c most (min most (f + (sgs (cg n hs (8 * a + b) c) 0 v).length)) → FR M M' → FT M M' n f (sgs (cg n hs (8 * a + b) c) 0 v) c → ∃ M2 y, zwh (zc_Endings_fill_1 (zf_Endings_fill fu)) (zs_Endings_fill_1 (zf_Endings_fill fu)) [some (Value.ref (12)), some (Value.int (nI k)), some (Value.int (nI a)), some (Value.int (nI b)), some (Value.int (nI (mRow n c a ||| mCol n c b))), some (Value.int (nI v)), none] M' = some (none, [some (Value.ref (12)), some (Value.int (nI k)), some (Value.int (nI a)), some (Value.int (nI b)), some (Value.int (nI (mRow n c a ||| mCol n c b))), some (Value.int (nI y)), none], M2) ∧ KF M2 n H ((8 * a + b) :: hs) c most (min most (f + (sgs (cg n hs (8 * a + b) c) 0 n).length)) ∧ FR M M2 ∧ FT M M2 n f (sgs (cg n hs (8 * a + b) c) 0 n) c := by
      intro d
      induction d with
      | zero =>
        intro v M' hv kf fr ft
        have : v = n := by omega
        subst this
        refine ⟨M', v, zwh_f ?_, kf, fr, ft⟩
        simp (disch := omega) [zc_Endings_fill_1, zmeth, xm_en, zret, zretz, zretv, zseq, zst, zinc, zkl, zskip, zk, zi, za, zbin, zdiv, zrem, zgi, zgr, zld, zldr, zlen, zn, zc, zcall, zcallv, zrcv, zdo, zdov, zpf, zpfc, zas, zasc, zmin, zmax, zcmp, zcz, zand_e, zor_e, zite_e, zbite_e, zif_e, znot_e, z_add, z_sub, z_mul, z_and, z_or, z_xor, z_shl, z_shr, zcpy, -List.getElem?_cons_succ, zg_0, zg_1, zg_2, zg_3, zg_4, zg_5, zg_6, zg_7, zg_8, zg_9, zc_lt, zc_le, zc_gt, zc_ge, zc_eq, zc_ne, zc_lt0, zc_ge0, zc_gt0, zc_eq0, zc_ne0, zb_ne, zb_eq, zb_01, z_00, z_01, z_11, zb_f, zb_T, zb_F, zbm1, zbm2, zbm5, zbm6, zbm3, zbm4, nI_clamp, zmod_n, pk_div, nI_ne0, pk_mul, nI_add, nI_1, zt_0, zt_12, zt_20, zt_26, zt_32, zf_0_0, zf_0_1, zf_0_2, zf_0_3, zf_0_4, zf_12_0, zf_12_1, zf_12_2, zf_12_4, zf_12_5, zf_20_1, zf_20_2, zf_20_3, zf_20_4, zf_20_6, zf_26_0, zf_26_1, zf_26_2, zf_26_3, zf_32_0, zf_32_1, zf_32_3, zf_32_4, zf_32_5, zf_32_6, ztb_tag tb15, kf.1]
      | succ d ih =>
        intro v M' hv kf fr ft
        have hvn : v < n := by omega
        have le1 := sgs_le (g := cg n hs (8 * a + b) c) v (n - v)
        rw [show v + (n - v) = n by omega] at le1
        by_cases hfull : most ≤ f + (sgs (cg n hs (8 * a + b) c) 0 v).length
        · have e1 : min most (f + (sgs (cg n hs (8 * a + b) c) 0 v).length) = most := by omega
          have e2 : min most (f + (sgs (cg n hs (8 * a + b) c) 0 n).length) = most := by omega
          rw [e1] at kf
          refine ⟨M', v, zwh_f ?_, by rw [e2]; exact kf, fr, ?_⟩
          · simp (disch := omega) [zc_Endings_fill_1, zmeth, xm_en, zret, zretz, zretv, zseq, zst, zinc, zkl, zskip, zk, zi, za, zbin, zdiv, zrem, zgi, zgr, zld, zldr, zlen, zn, zc, zcall, zcallv, zrcv, zdo, zdov, zpf, zpfc, zas, zasc, zmin, zmax, zcmp, zcz, zand_e, zor_e, zite_e, zbite_e, zif_e, znot_e, z_add, z_sub, z_mul, z_and, z_or, z_xor, z_shl, z_shr, zcpy, -List.getElem?_cons_succ, zg_0, zg_1, zg_2, zg_3, zg_4, zg_5, zg_6, zg_7, zg_8, zg_9, zc_lt, zc_le, zc_gt, zc_ge, zc_eq, zc_ne, zc_lt0, zc_ge0, zc_gt0, zc_eq0, zc_ne0, zb_ne, zb_eq, zb_01, z_00, z_01, z_11, zb_f, zb_T, zb_F, zbm1, zbm2, zbm5, zbm6, zbm3, zbm4, nI_clamp, zmod_n, pk_div, nI_ne0, pk_mul, nI_add, nI_1, zt_0, zt_12, zt_20, zt_26, zt_32, zf_0_0, zf_0_1, zf_0_2, zf_0_3, zf_0_4, zf_12_0, zf_12_1, zf_12_2, zf_12_4, zf_12_5, zf_20_1, zf_20_2, zf_20_3, zf_20_4, zf_20_6, zf_26_0, zf_26_1, zf_26_2, zf_26_3, zf_32_0, zf_32_1, zf_32_3, zf_32_4, zf_32_5, zf_32_6, ztb_tag tb15, kf.1, kf.2.2.2.2.1, kf.2.2.2.2.2]
          · have ea : ∃ R2, sgs (cg n hs (8 * a + b) c) 0 n = sgs (cg n hs (8 * a + b) c) 0 v ++ R2 := by
              have key : ∀ e, ∃ R2, sgs (cg n hs (8 * a + b) c) 0 (v + e) = sgs (cg n hs (8 * a + b) c) 0 v ++ R2 := by
                intro e
                induction e with
                | zero => exact ⟨[], by rw [Nat.add_zero, List.append_nil]⟩
                | succ e ih =>
                  obtain ⟨R2, q⟩ := ih
                  exact ⟨R2 ++ cg n hs (8 * a + b) c (0 + (v + e)), by rw [← Nat.add_assoc, sgs_snoc, q, List.append_assoc]⟩
              have := key (n - v)
              rwa [show v + (n - v) = n by omega] at this
            obtain ⟨R2, ea⟩ := ea
            rw [ea]
            refine FT.app (f1 := 1) (d := c) ft ⟨fun q => absurd q (by decide), fun _ j => ⟨rfl, rfl⟩⟩ ⟨fun q => absurd q (by decide), fun q => ?_⟩
            obtain ⟨q1, q2⟩ := q
            rw [q2] at hfull
            simp only [List.length_nil] at hfull
            omega
        · have e1 : min most (f + (sgs (cg n hs (8 * a + b) c) 0 v).length) = f + (sgs (cg n hs (8 * a + b) c) 0 v).length := by omega
          have hlt : f + (sgs (cg n hs (8 * a + b) c) 0 v).length < most := by omega
          rw [e1] at kf
          have c1 : zc_Endings_fill_1 (zf_Endings_fill fu) [some (Value.ref (12)), some (Value.int (nI k)), some (Value.int (nI a)), some (Value.int (nI b)), some (Value.int (nI (mRow n c a ||| mCol n c b))), some (Value.int (nI v)), none] M' = some (true, M') := by
            simp (disch := omega) [zc_Endings_fill_1, zmeth, xm_en, zret, zretz, zretv, zseq, zst, zinc, zkl, zskip, zk, zi, za, zbin, zdiv, zrem, zgi, zgr, zld, zldr, zlen, zn, zc, zcall, zcallv, zrcv, zdo, zdov, zpf, zpfc, zas, zasc, zmin, zmax, zcmp, zcz, zand_e, zor_e, zite_e, zbite_e, zif_e, znot_e, z_add, z_sub, z_mul, z_and, z_or, z_xor, z_shl, z_shr, zcpy, -List.getElem?_cons_succ, zg_0, zg_1, zg_2, zg_3, zg_4, zg_5, zg_6, zg_7, zg_8, zg_9, zc_lt, zc_le, zc_gt, zc_ge, zc_eq, zc_ne, zc_lt0, zc_ge0, zc_gt0, zc_eq0, zc_ne0, zb_ne, zb_eq, zb_01, z_00, z_01, z_11, zb_f, zb_T, zb_F, zbm1, zbm2, zbm5, zbm6, zbm3, zbm4, nI_clamp, zmod_n, pk_div, nI_ne0, pk_mul, nI_add, nI_1, zt_0, zt_12, zt_20, zt_26, zt_32, zf_0_0, zf_0_1, zf_0_2, zf_0_3, zf_0_4, zf_12_0, zf_12_1, zf_12_2, zf_12_4, zf_12_5, zf_20_1, zf_20_2, zf_20_3, zf_20_4, zf_20_6, zf_26_0, zf_26_1, zf_26_2, zf_26_3, zf_32_0, zf_32_1, zf_32_3, zf_32_4, zf_32_5, zf_32_6, ztb_tag tb15, kf.1, kf.2.2.2.2.1, kf.2.2.2.2.2, hvn, hlt]
          have es : sgs (cg n hs (8 * a + b) c) 0 (v + 1) = sgs (cg n hs (8 * a + b) c) 0 v ++ cg n hs (8 * a + b) c v := by rw [sgs_snoc, Nat.zero_add]
          have d1 : (8 * a + b) / 8 = a := by omega
          have d2 : (8 * a + b) % 8 = b := by omega
          cases hok : okv n c (8 * a + b) v with
          | true =>
            have ec : cg n hs (8 * a + b) c v = comps n hs (cset c a b v) := by unfold cg; rw [hok, d1, d2]; rfl
            obtain ⟨M2, s1, kf2, fr2, ft2⟩ := fl_in (fuel := fu) (f2 := min most (f + (sgs (cg n hs (8 * a + b) c) 0 v).length + (comps n hs (cset c a b v)).length)) h8 hkl (by omega) hm ha hb hc hvn hok hno kf (fun M1 q => fl_all h8 hm hH hs (k + 1) (cset c a b v) M1 _ fu hd2 (by rw [List.length_cons] at hk; omega) q (hOK_c h8 ho rfl hb) hlt (by rw [List.length_cons] at hfu; omega))
            obtain ⟨M3, y, w1, w2, w3, w4⟩ := ih (v + 1) M2 (by omega) (by rw [es, ec, List.length_append, ← Nat.add_assoc]; exact kf2) (fr.trans fr2) (by
              rw [es, ec]
              refine FT.app ft ft2 ⟨fun q => ?_, fun q => ?_⟩
              · exact ⟨by omega, List.eq_nil_of_length_eq_zero (by omega)⟩
              · rw [q.1, q.2]; rfl)
            exact ⟨M3, y, zwh_t c1 s1 w1, w2, w3, w4⟩
          | false =>
            have ec : cg n hs (8 * a + b) c v = [] := by unfold cg; rw [hok]; rfl
            have okm := okv_m (n := n) (c := c) (v := v) (h := 8 * a + b) rfl (show b < 8 by omega) (show v < 8 by omega)
            rw [hok] at okm
            have tbt : (mRow n c a ||| mCol n c b).testBit v = true := by
              cases q : (mRow n c a ||| mCol n c b).testBit v with
              | true => rfl
              | false => rw [q] at okm; cases okm
            have ez : nI (mRow n c a ||| mCol n c b) &&& nI (2 ^ v) = nI (2 ^ v) := by rw [nI_and, and_bit, tbt]; rfl
            have p2 : 2 ^ v < 2 ^ 8 := Nat.pow_lt_pow_right (by decide) (by omega)
            have p0 : 0 < 2 ^ v := Nat.two_pow_pos v
            have e0 : xe_cd .eq (nI (2 ^ v)) 0 = false := by rw [zc_eq0 (by omega)]; exact decide_eq_false (by omega)
            have sh := nI_shl1 (v := v) (by omega)
            have s1 : zs_Endings_fill_1 (zf_Endings_fill fu) [some (Value.ref (12)), some (Value.int (nI k)), some (Value.int (nI a)), some (Value.int (nI b)), some (Value.int (nI (mRow n c a ||| mCol n c b))), some (Value.int (nI v)), none] M' = some (none, [some (Value.ref (12)), some (Value.int (nI k)), some (Value.int (nI a)), some (Value.int (nI b)), some (Value.int (nI (mRow n c a ||| mCol n c b))), some (Value.int (nI (v + 1))), none], M') := by
              simp (disch := omega) [zs_Endings_fill_1, zmeth, xm_en, zret, zretz, zretv, zseq, zst, zinc, zkl, zskip, zk, zi, za, zbin, zdiv, zrem, zgi, zgr, zld, zldr, zlen, zn, zc, zcall, zcallv, zrcv, zdo, zdov, zpf, zpfc, zas, zasc, zmin, zmax, zcmp, zcz, zand_e, zor_e, zite_e, zbite_e, zif_e, znot_e, z_add, z_sub, z_mul, z_and, z_or, z_xor, z_shl, z_shr, zcpy, -List.getElem?_cons_succ, zg_0, zg_1, zg_2, zg_3, zg_4, zg_5, zg_6, zg_7, zg_8, zg_9, sh, ez, e0, nI_1]
            obtain ⟨M3, y, w1, w2, w3, w4⟩ := ih (v + 1) M' (by omega) (by rw [es, ec, List.append_nil, e1]; exact kf) fr (by rw [es, ec, List.append_nil]; exact ft)
            exact ⟨M3, y, zwh_t c1 s1 w1, w2, w3, w4⟩
    obtain ⟨M2, y, w1, w2, w3, w4⟩ := loop n 0 M (by omega) (by
      have : min most (f + (sgs (cg n hs (8 * a + b) c) 0 0).length) = f := by
        simp only [sgs, List.length_nil]
        omega
      rw [this]
      exact he) (fun _ _ _ _ _ _ _ _ => rfl) ⟨fun _ q => absurd rfl q, fun _ _ => ⟨rfl, rfl⟩⟩
    refine ⟨M2, ?_, w2, w3, w4⟩
    have g17 := he.2.1.2 k hkl
    rw [hget] at g17
    have g18 := he.2.2.1.1 a ha
    have g19 := he.2.2.1.2 b hb
    have d1 : (8 * a + b) / 8 = a := by omega
    have d2 : (8 * a + b) % 8 = b := by omega
    have nk : ¬ H.length ≤ k := by omega
    simp (disch := omega) [zf_Endings_fill, zmeth, xm_en, zret, zretz, zretv, zseq, zst, zinc, zkl, zskip, zk, zi, za, zbin, zdiv, zrem, zgi, zgr, zld, zldr, zlen, zn, zc, zcall, zcallv, zrcv, zdo, zdov, zpf, zpfc, zas, zasc, zmin, zmax, zcmp, zcz, zand_e, zor_e, zite_e, zbite_e, zif_e, znot_e, z_add, z_sub, z_mul, z_and, z_or, z_xor, z_shl, z_shr, zcpy, -List.getElem?_cons_succ, zg_0, zg_1, zg_2, zg_3, zg_4, zg_5, zg_6, zg_7, zg_8, zg_9, zc_lt, zc_le, zc_gt, zc_ge, zc_eq, zc_ne, zc_lt0, zc_ge0, zc_gt0, zc_eq0, zc_ne0, zb_ne, zb_eq, zb_01, z_00, z_01, z_11, zb_f, zb_T, zb_F, zbm1, zbm2, zbm5, zbm6, zbm3, zbm4, nI_clamp, zmod_n, pk_div, nI_ne0, pk_mul, nI_add, nI_1, zt_0, zt_12, zt_20, zt_26, zt_32, zf_0_0, zf_0_1, zf_0_2, zf_0_3, zf_0_4, zf_12_0, zf_12_1, zf_12_2, zf_12_4, zf_12_5, zf_20_1, zf_20_2, zf_20_3, zf_20_4, zf_20_6, zf_26_0, zf_26_1, zf_26_2, zf_26_3, zf_32_0, zf_32_1, zf_32_3, zf_32_4, zf_32_5, zf_32_6, he.2.1.1, nk, zi_17, g17, d1, d2, zi_18, g18, zi_19, g19, nI_or, w1]
/-! ways, end -/
theorem comps_ok {n : Nat} : ∀ (hs : List Nat) (c : tC), tO n c → hOK n hs c → ∀ d ∈ comps n hs c, tO n d
  | [], c, h, _, d, hd => by
    rw [List.mem_singleton.mp hd]
    exact h
  | h :: hs, c, ho, hh, d, hd => by
    have h8 := ho.1.2
    obtain ⟨a, b, eh, ha, hb, hc⟩ := hh.2 h List.mem_cons_self
    have key : ∀ (e i : Nat), i + e = n → ∀ d ∈ sgs (cg n hs h c) i e, ∃ v, v < n ∧ d ∈ cg n hs h c v := by
      intro e
      induction e with
      | zero => intro i _ d hd; simp [sgs] at hd
      | succ e ih =>
        intro i hi d hd
        rcases List.mem_append.mp hd with q | q
        · exact ⟨i, by omega, q⟩
        · exact ih (i + 1) (by omega) d q
    obtain ⟨v, hv, hd⟩ := key n 0 (by omega) d hd
    unfold cg at hd
    cases hok : okv n c h v with
    | false => rw [hok] at hd; simp at hd
    | true =>
      rw [hok, cond_true] at hd
      have e1 : h / 8 = a := by omega
      have e2 : h % 8 = b := by omega
      rw [e1, e2] at hd
      have a1 : 1 ≤ a := by
        rcases Nat.eq_zero_or_pos a with g | g
        · subst g; have := (ho.2.1 b hb).1; omega
        · exact g
      have b1 : 1 ≤ b := by
        rcases Nat.eq_zero_or_pos b with g | g
        · subst g; have := (ho.2.1 a ha).2; omega
        · exact g
      unfold okv at hok
      rw [zall_t, e1, e2] at hok
      refine comps_ok hs _ (tO_cset ho ⟨a1, ha⟩ ⟨b1, hb⟩ (Or.inr ⟨hv, fun x hx => ?_⟩)) (hOK_c h8 hh eh hb) d hd
      have := hok x hx
      simp only [Bool.and_eq_true, Bool.not_eq_true', decide_eq_false_iff_not] at this
      exact this
theorem holes25 {n : Nat} {c : tC} (h : tO n c) (h6 : n ≤ 6) : (holes n c).length ≤ 25 := by
  have := hrows_len h h6 n (Nat.le_refl n)
  have := h.1.1
  unfold holes
  omega
theorem qE_count {M : zM} {k n most : Nat} {c : tC} (hk : ztb k) (h : kT M k n c) (ho : tO n c) (h6 : n ≤ 6) (hm : most < 2 ^ 30) (hm1 : 1 ≤ most) : ∃ M', zf_Endings_count [.ref 12, .ref k, .int (nI most)] M = some (some (nI (min most (comps n (holes n c) c).length)), M') ∧ zsc M M' ∧ (comps n (holes n c) c ≠ [] → kT M' 13 n ((comps n (holes n c) c).getD 0 c)) := by
  have h8 := ho.1.2
  have to := qT_takeOver (M := M) tb15 hk
  have k15 := kT_to (k := 15) tb15 hk h8 h
  have k15b : kT (zup (zup (zto M 15 k) 12 7 (nI most)) 12 6 (nI 0)) 15 n c := k15.same (fun j => by rw [zup_e, if_neg (by omega), zup_e, if_neg (by omega)]) (fun j => by rw [zup_e, if_neg (by omega), zup_e, if_neg (by omega)])
  obtain ⟨M1, l1, l2, l3, l4, l5⟩ := qE_look ho h6 k15b
  have kf : KF M1 n (holes n c) (holes n c) c most 0 := by
    refine ⟨?_, l4, ⟨l2, l3⟩, fun a b ha hb _ => ?_, ?_, ?_⟩
    · rw [l5 _ _ (by omega) (by omega) (by omega) (by omega)]; exact k15b.1
    · rw [l5 _ _ (by omega) (by omega) (by omega) (by omega)]; exact k15b.2 a b ha hb
    · rw [l5 _ _ (by omega) (by omega) (by omega) (by omega), zup_e, if_pos ⟨rfl, rfl⟩]
    · rw [l5 _ _ (by omega) (by omega) (by omega) (by omega), zup_e, if_neg (by omega), zup_e, if_pos ⟨rfl, rfl⟩]
  have h25 := holes25 ho h6
  obtain ⟨M2, f1, f2, f3, f4⟩ := fl_all h8 hm h25 (holes n c) 0 c M1 0 30 rfl (by omega) kf (holes_ok ho) (by omega) (by omega)
  rw [Nat.zero_add] at f2
  refine ⟨M2, ?_, fun q j hq => ?_, fun hR => f4.1 rfl hR⟩
  · simp (disch := omega) [zf_Endings_count, zmeth, xm_en, zret, zretz, zretv, zseq, zst, zinc, zkl, zskip, zk, zi, za, zbin, zdiv, zrem, zgi, zgr, zld, zldr, zlen, zn, zc, zcall, zcallv, zrcv, zdo, zdov, zpf, zpfc, zas, zasc, zmin, zmax, zcmp, zcz, zand_e, zor_e, zite_e, zbite_e, zif_e, znot_e, z_add, z_sub, z_mul, z_and, z_or, z_xor, z_shl, z_shr, zcpy, -List.getElem?_cons_succ, zg_0, zg_1, zg_2, zg_3, zg_4, zg_5, zg_6, zg_7, zg_8, zg_9, zt_0, zt_12, zt_20, zt_26, zt_32, zf_0_0, zf_0_1, zf_0_2, zf_0_3, zf_0_4, zf_12_0, zf_12_1, zf_12_2, zf_12_4, zf_12_5, zf_20_1, zf_20_2, zf_20_3, zf_20_4, zf_20_6, zf_26_0, zf_26_1, zf_26_2, zf_26_3, zf_32_0, zf_32_1, zf_32_3, zf_32_4, zf_32_5, zf_32_6, ztb_tag tb15, to, l1, f1, f2.2.2.2.2.1]
  · rw [f3 q j (by omega) (by omega) (by omega) (by omega) (by omega) (by omega), l5 q j (by omega) (by omega) (by omega) (by omega), zup_e, if_neg (by omega), zup_e, if_neg (by omega)]
    unfold zto
    rw [if_neg (by omega), if_neg (by omega)]
/-! ways -/
def okW (T : tS) (x y : Int32) : Bool := zlt x 4 && (zlt y 10001 && !decide (y = nI 0))
def aWays (T : tS) (x y : Int32) : Int32 := bif okW T x y then (bif decide (6 < (T x.toNatClampNeg).1) then -2 else nI (min y.toNatClampNeg (comps (T x.toNatClampNeg).1 (holes (T x.toNatClampNeg).1 (T x.toNatClampNeg).2) (T x.toNatClampNeg).2).length)) else -1
theorem okw (y : Int32) : (xe_cd .lt y (nI 1) || xe_cd .gt y (nI 10000)) = !(zlt y 10001 && !decide (y = nI 0)) := by
  rw [zlt1_i y (by decide), zgt_i y (by decide), zlt_i y (by decide), z0_i, Bool.eq_iff_iff]
  simp only [Bool.or_eq_true, Bool.not_eq_true', Bool.and_eq_false_iff, decide_eq_true_eq, decide_eq_false_iff_not, Bool.not_eq_false', decide_eq_true_eq]
  omega
theorem nI_min {a b : Nat} : nI (min a b) = nI (min a b) := rfl
theorem ywd {y : Int32} (h : (zlt y 10001 && !decide (y = nI 0)) = true) : ∃ m, y = nI m ∧ 1 ≤ m ∧ m ≤ 10000 := by
  simp only [Bool.and_eq_true, Bool.not_eq_true', decide_eq_false_iff_not] at h
  obtain ⟨m, hm, rfl⟩ := zlt_t (by decide) h.1
  refine ⟨m, rfl, ?_, by omega⟩
  rcases Nat.eq_zero_or_pos m with g | g
  · exact absurd (by rw [g]) h.2
  · exact g
theorem qL_ways {T : tS} {M : zM} (x y : Int32) (hC : CS T M) (hT : TO T) : ∃ M', zf_L_ways [.ref 0, .int x, .int y] M = some (some (aWays T x y), M') ∧ zsc M M' := by
  rcases z3 x (n := 4) (by decide) with h | ⟨t, ht, rfl⟩
  · refine ⟨M, ?_, zsc.refl M⟩
    simp [zf_L_ways, zmeth, xm_en, zret, zretz, zretv, zseq, zst, zinc, zkl, zskip, zk, zi, za, zbin, zdiv, zrem, zgi, zgr, zld, zldr, zlen, zn, zc, zcall, zcallv, zrcv, zdo, zdov, zpf, zpfc, zas, zasc, zmin, zmax, zcmp, zcz, zand_e, zor_e, zite_e, zbite_e, zif_e, znot_e, z_add, z_sub, z_mul, z_and, z_or, z_xor, z_shl, z_shr, zcpy, -List.getElem?_cons_succ, zg_0, zg_1, zg_2, zg_3, zg_4, zg_5, zg_6, zg_7, zg_8, zg_9, qL_isTable, zb_ne, h, aWays, okW]
  · have e := zlt_y ht (by decide)
    have ct : (nI t).toNatClampNeg = t := nI_clamp (by omega)
    have h8 := (hT t ht).1.2
    have ow := okw y
    cases hy : zlt y 10001 && !decide (y = nI 0) with
    | false =>
      rw [hy] at ow
      have hok : okW T (nI t) y = false := by unfold okW; rw [hy, Bool.and_false]
      refine ⟨M, ?_, zsc.refl M⟩
      cases h1 : xe_cd .lt y (nI 1) with
      | true => simp [zf_L_ways, zmeth, xm_en, zret, zretz, zretv, zseq, zst, zinc, zkl, zskip, zk, zi, za, zbin, zdiv, zrem, zgi, zgr, zld, zldr, zlen, zn, zc, zcall, zcallv, zrcv, zdo, zdov, zpf, zpfc, zas, zasc, zmin, zmax, zcmp, zcz, zand_e, zor_e, zite_e, zbite_e, zif_e, znot_e, z_add, z_sub, z_mul, z_and, z_or, z_xor, z_shl, z_shr, zcpy, -List.getElem?_cons_succ, zg_0, zg_1, zg_2, zg_3, zg_4, zg_5, zg_6, zg_7, zg_8, zg_9, qL_isTable, zb_ne, e, h1, aWays, hok]
      | false =>
        have h2 : xe_cd .gt y (nI 10000) = true := by simpa [h1] using ow
        simp [zf_L_ways, zmeth, xm_en, zret, zretz, zretv, zseq, zst, zinc, zkl, zskip, zk, zi, za, zbin, zdiv, zrem, zgi, zgr, zld, zldr, zlen, zn, zc, zcall, zcallv, zrcv, zdo, zdov, zpf, zpfc, zas, zasc, zmin, zmax, zcmp, zcz, zand_e, zor_e, zite_e, zbite_e, zif_e, znot_e, z_add, z_sub, z_mul, z_and, z_or, z_xor, z_shl, z_shr, zcpy, -List.getElem?_cons_succ, zg_0, zg_1, zg_2, zg_3, zg_4, zg_5, zg_6, zg_7, zg_8, zg_9, qL_isTable, zb_ne, e, h1, h2, aWays, hok]
    | true =>
      rw [hy] at ow
      have hok : okW T (nI t) y = true := by unfold okW; rw [hy, e]; rfl
      simp only [Bool.not_true, Bool.or_eq_false_iff] at ow
      obtain ⟨m, rfl, hm1, hm2⟩ := ywd hy
      have cm : (nI m).toNatClampNeg = m := nI_clamp (by omega)
      by_cases h6 : 6 < (T t).1
      · refine ⟨M, ?_, zsc.refl M⟩
        simp (disch := omega) [zf_L_ways, zmeth, xm_en, zret, zretz, zretv, zseq, zst, zinc, zkl, zskip, zk, zi, za, zbin, zdiv, zrem, zgi, zgr, zld, zldr, zlen, zn, zc, zcall, zcallv, zrcv, zdo, zdov, zpf, zpfc, zas, zasc, zmin, zmax, zcmp, zcz, zand_e, zor_e, zite_e, zbite_e, zif_e, znot_e, z_add, z_sub, z_mul, z_and, z_or, z_xor, z_shl, z_shr, zcpy, -List.getElem?_cons_succ, zg_0, zg_1, zg_2, zg_3, zg_4, zg_5, zg_6, zg_7, zg_8, zg_9, zt_0, zt_12, zt_20, zt_26, zt_32, zf_0_0, zf_0_1, zf_0_2, zf_0_3, zf_0_4, zf_12_0, zf_12_1, zf_12_2, zf_12_4, zf_12_5, zf_20_1, zf_20_2, zf_20_3, zf_20_4, zf_20_6, zf_26_0, zf_26_1, zf_26_2, zf_26_3, zf_32_0, zf_32_1, zf_32_3, zf_32_4, zf_32_5, zf_32_6, qL_isTable, zb_ne, e, ow.1, ow.2, aWays, hok, ct, zi_1, zf_1, nI_clamp, ztb_tag (tb4 ht), (hC t ht).1, zc_gt, h6]
      · obtain ⟨M', g1, g2, -⟩ := qE_count (tb4 ht) (hC t ht) (hT t ht) (by omega) (show m < 2 ^ 30 by omega) hm1
        refine ⟨M', ?_, g2⟩
        simp (disch := omega) [zf_L_ways, zmeth, xm_en, zret, zretz, zretv, zseq, zst, zinc, zkl, zskip, zk, zi, za, zbin, zdiv, zrem, zgi, zgr, zld, zldr, zlen, zn, zc, zcall, zcallv, zrcv, zdo, zdov, zpf, zpfc, zas, zasc, zmin, zmax, zcmp, zcz, zand_e, zor_e, zite_e, zbite_e, zif_e, znot_e, z_add, z_sub, z_mul, z_and, z_or, z_xor, z_shl, z_shr, zcpy, -List.getElem?_cons_succ, zg_0, zg_1, zg_2, zg_3, zg_4, zg_5, zg_6, zg_7, zg_8, zg_9, zt_0, zt_12, zt_20, zt_26, zt_32, zf_0_0, zf_0_1, zf_0_2, zf_0_3, zf_0_4, zf_12_0, zf_12_1, zf_12_2, zf_12_4, zf_12_5, zf_20_1, zf_20_2, zf_20_3, zf_20_4, zf_20_6, zf_26_0, zf_26_1, zf_26_2, zf_26_3, zf_32_0, zf_32_1, zf_32_3, zf_32_4, zf_32_5, zf_32_6, qL_isTable, zb_ne, e, ow.1, ow.2, aWays, hok, ct, cm, zi_1, zf_1, nI_clamp, ztb_tag (tb4 ht), (hC t ht).1, zc_gt, h6, g1]
theorem zin_w (x : Int32) : (xe_cd .ge x (nI 1) && xe_cd .le x (nI 10000)) = (zlt x 10001 && !decide (x = nI 0)) := zin1 x (by decide)
theorem qM_ways {T : tS} {M : zM} (x y : Int32) (hR : RS T M) (hT : TO T) : ∃ M', zf_M_ways [.ref 32, .int x, .int y] M = some (some (aWays T x y), M') ∧ zsr M M' := by
  rcases z3 x (n := 4) (by decide) with h | ⟨t, ht, rfl⟩
  · refine ⟨M, ?_, zsr.refl M⟩
    simp [zf_M_ways, zmeth, xm_en, zret, zretz, zretv, zseq, zst, zinc, zkl, zskip, zk, zi, za, zbin, zdiv, zrem, zgi, zgr, zld, zldr, zlen, zn, zc, zcall, zcallv, zrcv, zdo, zdov, zpf, zpfc, zas, zasc, zmin, zmax, zcmp, zcz, zand_e, zor_e, zite_e, zbite_e, zif_e, znot_e, z_add, z_sub, z_mul, z_and, z_or, z_xor, z_shl, z_shr, zcpy, -List.getElem?_cons_succ, zg_0, zg_1, zg_2, zg_3, zg_4, zg_5, zg_6, zg_7, zg_8, zg_9, qM_isTable, zb_ne, h, aWays, okW]
  · have e := zlt_y ht (by decide)
    have ct : (nI t).toNatClampNeg = t := nI_clamp (by omega)
    have h8 := (hT t ht).1.2
    cases hy : zlt y 10001 && !decide (y = nI 0) with
    | false =>
      have hok : okW T (nI t) y = false := by unfold okW; rw [hy, Bool.and_false]
      refine ⟨M, ?_, zsr.refl M⟩
      simp [zf_M_ways, zmeth, xm_en, zret, zretz, zretv, zseq, zst, zinc, zkl, zskip, zk, zi, za, zbin, zdiv, zrem, zgi, zgr, zld, zldr, zlen, zn, zc, zcall, zcallv, zrcv, zdo, zdov, zpf, zpfc, zas, zasc, zmin, zmax, zcmp, zcz, zand_e, zor_e, zite_e, zbite_e, zif_e, znot_e, z_add, z_sub, z_mul, z_and, z_or, z_xor, z_shl, z_shr, zcpy, -List.getElem?_cons_succ, zg_0, zg_1, zg_2, zg_3, zg_4, zg_5, zg_6, zg_7, zg_8, zg_9, qM_isTable, qM_in, zin_w, hy, zb_ne, e, aWays, hok]
    | true =>
      have hok : okW T (nI t) y = true := by unfold okW; rw [hy, e]; rfl
      obtain ⟨m, rfl, hm1, hm2⟩ := ywd hy
      have cm : (nI m).toNatClampNeg = m := nI_clamp (by omega)
      by_cases h6 : 6 < (T t).1
      · refine ⟨M, ?_, zsr.refl M⟩
        simp (disch := omega) [zf_M_ways, zmeth, xm_en, zret, zretz, zretv, zseq, zst, zinc, zkl, zskip, zk, zi, za, zbin, zdiv, zrem, zgi, zgr, zld, zldr, zlen, zn, zc, zcall, zcallv, zrcv, zdo, zdov, zpf, zpfc, zas, zasc, zmin, zmax, zcmp, zcz, zand_e, zor_e, zite_e, zbite_e, zif_e, znot_e, z_add, z_sub, z_mul, z_and, z_or, z_xor, z_shl, z_shr, zcpy, -List.getElem?_cons_succ, zg_0, zg_1, zg_2, zg_3, zg_4, zg_5, zg_6, zg_7, zg_8, zg_9, zt_0, zt_12, zt_20, zt_26, zt_32, zf_0_0, zf_0_1, zf_0_2, zf_0_3, zf_0_4, zf_12_0, zf_12_1, zf_12_2, zf_12_4, zf_12_5, zf_20_1, zf_20_2, zf_20_3, zf_20_4, zf_20_6, zf_26_0, zf_26_1, zf_26_2, zf_26_3, zf_32_0, zf_32_1, zf_32_3, zf_32_4, zf_32_5, zf_32_6, qM_isTable, qM_in, zin_w, hy, zb_ne, e, aWays, hok, ct, zi_33, nI_clamp, (hR t ht).1, zc_gt, h6]
      · obtain ⟨M', g1, g2, -⟩ := qM_ends ht (hR t ht) (hT t ht) (by omega) (show m < 2 ^ 30 by omega) hm1
        refine ⟨M', ?_, g2⟩
        simp (disch := omega) [zf_M_ways, zmeth, xm_en, zret, zretz, zretv, zseq, zst, zinc, zkl, zskip, zk, zi, za, zbin, zdiv, zrem, zgi, zgr, zld, zldr, zlen, zn, zc, zcall, zcallv, zrcv, zdo, zdov, zpf, zpfc, zas, zasc, zmin, zmax, zcmp, zcz, zand_e, zor_e, zite_e, zbite_e, zif_e, znot_e, z_add, z_sub, z_mul, z_and, z_or, z_xor, z_shl, z_shr, zcpy, -List.getElem?_cons_succ, zg_0, zg_1, zg_2, zg_3, zg_4, zg_5, zg_6, zg_7, zg_8, zg_9, zt_0, zt_12, zt_20, zt_26, zt_32, zf_0_0, zf_0_1, zf_0_2, zf_0_3, zf_0_4, zf_12_0, zf_12_1, zf_12_2, zf_12_4, zf_12_5, zf_20_1, zf_20_2, zf_20_3, zf_20_4, zf_20_6, zf_26_0, zf_26_1, zf_26_2, zf_26_3, zf_32_0, zf_32_1, zf_32_3, zf_32_4, zf_32_5, zf_32_6, qM_isTable, qM_in, zin_w, hy, zb_ne, e, aWays, hok, ct, cm, zi_33, nI_clamp, (hR t ht).1, zc_gt, h6, g1]
/-! end -/
def cpl (T : tS) (y : Int32) : List tC := comps (T y.toNatClampNeg).1 (holes (T y.toNatClampNeg).1 (T y.toNatClampNeg).2) (T y.toNatClampNeg).2
def okE (T : tS) (x y : Int32) : Bool := zlt x 4 && zlt y 4 && (!decide (6 < (T y.toNatClampNeg).1) && !(cpl T y).isEmpty)
def sE (T : tS) (x y : Int32) : tS := bif okE T x y then tset T x.toNatClampNeg (T y.toNatClampNeg).1 ((cpl T y).getD 0 (T y.toNatClampNeg).2) else T
def aE (T : tS) (x y : Int32) : Int32 := bif zlt x 4 && zlt y 4 then (bif decide (6 < (T y.toNatClampNeg).1) then -2 else zb (okE T x y)) else -1
theorem qL_end {T : tS} {M : zM} (x y : Int32) (hC : CS T M) (hT : TO T) : ∃ M', zf_L_end [.ref 0, .int x, .int y] M = some (some (aE T x y), M') ∧ CS (sE T x y) M' ∧ zhi M M' := by
  rcases z3 x (n := 4) (by decide) with h | ⟨s, hs, rfl⟩
  · refine ⟨M, ?_, by simpa [sE, okE, h] using hC, zhi.refl M⟩
    simp [zf_L_end, zmeth, xm_en, zret, zretz, zretv, zseq, zst, zinc, zkl, zskip, zk, zi, za, zbin, zdiv, zrem, zgi, zgr, zld, zldr, zlen, zn, zc, zcall, zcallv, zrcv, zdo, zdov, zpf, zpfc, zas, zasc, zmin, zmax, zcmp, zcz, zand_e, zor_e, zite_e, zbite_e, zif_e, znot_e, z_add, z_sub, z_mul, z_and, z_or, z_xor, z_shl, z_shr, zcpy, -List.getElem?_cons_succ, zg_0, zg_1, zg_2, zg_3, zg_4, zg_5, zg_6, zg_7, zg_8, zg_9, qL_isTable, zb_ne, h, aE]
  · have e := zlt_y hs (by decide)
    rcases z3 y (n := 4) (by decide) with h | ⟨t, ht, rfl⟩
    · refine ⟨M, ?_, by simpa [sE, okE, h] using hC, zhi.refl M⟩
      simp [zf_L_end, zmeth, xm_en, zret, zretz, zretv, zseq, zst, zinc, zkl, zskip, zk, zi, za, zbin, zdiv, zrem, zgi, zgr, zld, zldr, zlen, zn, zc, zcall, zcallv, zrcv, zdo, zdov, zpf, zpfc, zas, zasc, zmin, zmax, zcmp, zcz, zand_e, zor_e, zite_e, zbite_e, zif_e, znot_e, z_add, z_sub, z_mul, z_and, z_or, z_xor, z_shl, z_shr, zcpy, -List.getElem?_cons_succ, zg_0, zg_1, zg_2, zg_3, zg_4, zg_5, zg_6, zg_7, zg_8, zg_9, qL_isTable, zb_ne, e, h, aE]
    · have e2 := zlt_y ht (by decide)
      have ct : (nI t).toNatClampNeg = t := nI_clamp (by omega)
      have cs : (nI s).toNatClampNeg = s := nI_clamp (by omega)
      have h8 := (hT t ht).1.2
      by_cases h6 : 6 < (T t).1
      · refine ⟨M, ?_, by simpa [sE, okE, ct, h6] using hC, zhi.refl M⟩
        simp (disch := omega) [zf_L_end, zmeth, xm_en, zret, zretz, zretv, zseq, zst, zinc, zkl, zskip, zk, zi, za, zbin, zdiv, zrem, zgi, zgr, zld, zldr, zlen, zn, zc, zcall, zcallv, zrcv, zdo, zdov, zpf, zpfc, zas, zasc, zmin, zmax, zcmp, zcz, zand_e, zor_e, zite_e, zbite_e, zif_e, znot_e, z_add, z_sub, z_mul, z_and, z_or, z_xor, z_shl, z_shr, zcpy, -List.getElem?_cons_succ, zg_0, zg_1, zg_2, zg_3, zg_4, zg_5, zg_6, zg_7, zg_8, zg_9, zt_0, zt_12, zt_20, zt_26, zt_32, zf_0_0, zf_0_1, zf_0_2, zf_0_3, zf_0_4, zf_12_0, zf_12_1, zf_12_2, zf_12_4, zf_12_5, zf_20_1, zf_20_2, zf_20_3, zf_20_4, zf_20_6, zf_26_0, zf_26_1, zf_26_2, zf_26_3, zf_32_0, zf_32_1, zf_32_3, zf_32_4, zf_32_5, zf_32_6, qL_isTable, zb_ne, e, e2, aE, ct, zi_1, zf_1, nI_clamp, ztb_tag (tb4 ht), (hC t ht).1, zc_gt, h6]
      · obtain ⟨M', g1, g2, g3⟩ := qE_count (most := 1) (tb4 ht) (hC t ht) (hT t ht) (by omega) (by decide) (by decide)
        have ec : comps (T t).1 (holes (T t).1 (T t).2) (T t).2 = cpl T (nI t) := by unfold cpl; rw [ct]
        rw [ec] at g1 g3
        cases hl : cpl T (nI t) with
        | nil =>
          rw [hl] at g1
          have hok : okE T (nI s) (nI t) = false := by simp [okE, hl]
          refine ⟨M', ?_, by simpa [sE, hok] using hC.sc g2, g2.hi⟩
          have e0 : xe_cd .eq (nI 0) 0 = true := by decide
          simp only [List.length_nil, Nat.min_zero] at g1
          simp (disch := omega) [zf_L_end, zmeth, xm_en, zret, zretz, zretv, zseq, zst, zinc, zkl, zskip, zk, zi, za, zbin, zdiv, zrem, zgi, zgr, zld, zldr, zlen, zn, zc, zcall, zcallv, zrcv, zdo, zdov, zpf, zpfc, zas, zasc, zmin, zmax, zcmp, zcz, zand_e, zor_e, zite_e, zbite_e, zif_e, znot_e, z_add, z_sub, z_mul, z_and, z_or, z_xor, z_shl, z_shr, zcpy, -List.getElem?_cons_succ, zg_0, zg_1, zg_2, zg_3, zg_4, zg_5, zg_6, zg_7, zg_8, zg_9, zt_0, zt_12, zt_20, zt_26, zt_32, zf_0_0, zf_0_1, zf_0_2, zf_0_3, zf_0_4, zf_12_0, zf_12_1, zf_12_2, zf_12_4, zf_12_5, zf_20_1, zf_20_2, zf_20_3, zf_20_4, zf_20_6, zf_26_0, zf_26_1, zf_26_2, zf_26_3, zf_32_0, zf_32_1, zf_32_3, zf_32_4, zf_32_5, zf_32_6, qL_isTable, zb_ne, e, e2, aE, ct, hok, zi_1, zf_1, nI_clamp, ztb_tag (tb4 ht), (hC t ht).1, zc_gt, h6, g1, e0, zb_F]
        | cons d l =>
          have hok : okE T (nI s) (nI t) = true := by simp [okE, hl, e, e2, ct, h6]
          have em : min 1 (cpl T (nI t)).length = 1 := by rw [hl, List.length_cons]; omega
          rw [em] at g1
          have k13 := g3 (by rw [hl]; simp)
          have e0 : xe_cd .eq (nI 1) 0 = false := by decide
          refine ⟨zto M' (2 + 2 * s) 13, ?_, ?_, zhi.trans g2.hi (zhi_to hs)⟩
          · simp (disch := omega) [zf_L_end, zmeth, xm_en, zret, zretz, zretv, zseq, zst, zinc, zkl, zskip, zk, zi, za, zbin, zdiv, zrem, zgi, zgr, zld, zldr, zlen, zn, zc, zcall, zcallv, zrcv, zdo, zdov, zpf, zpfc, zas, zasc, zmin, zmax, zcmp, zcz, zand_e, zor_e, zite_e, zbite_e, zif_e, znot_e, z_add, z_sub, z_mul, z_and, z_or, z_xor, z_shl, z_shr, zcpy, -List.getElem?_cons_succ, zg_0, zg_1, zg_2, zg_3, zg_4, zg_5, zg_6, zg_7, zg_8, zg_9, zt_0, zt_12, zt_20, zt_26, zt_32, zf_0_0, zf_0_1, zf_0_2, zf_0_3, zf_0_4, zf_12_0, zf_12_1, zf_12_2, zf_12_4, zf_12_5, zf_20_1, zf_20_2, zf_20_3, zf_20_4, zf_20_6, zf_26_0, zf_26_1, zf_26_2, zf_26_3, zf_32_0, zf_32_1, zf_32_3, zf_32_4, zf_32_5, zf_32_6, qL_isTable, zb_ne, e, e2, aE, ct, hok, zi_1, zf_1, nI_clamp, ztb_tag (tb4 ht), ztb_tag (tb4 hs), (hC t ht).1, zc_gt, h6, g1, e0, qT_takeOver (tb4 hs) tb13, zb_T, zc_ne0]
          · simp only [sE, hok, cond_true, ct, cs]
            exact CS_to hs tb13 h8 (hC.sc g2) k13
theorem qM_end {T : tS} {M : zM} (x y : Int32) (hR : RS T M) (hT : TO T) : ∃ M', zf_M_end [.ref 32, .int x, .int y] M = some (some (aE T x y), M') ∧ RS (sE T x y) M' ∧ TO (sE T x y) ∧ zlo M M' := by
  rcases z3 x (n := 4) (by decide) with h | ⟨s, hs, rfl⟩
  · refine ⟨M, ?_, by simpa [sE, okE, h] using hR, by simpa [sE, okE, h] using hT, zlo.refl M⟩
    simp [zf_M_end, zmeth, xm_en, zret, zretz, zretv, zseq, zst, zinc, zkl, zskip, zk, zi, za, zbin, zdiv, zrem, zgi, zgr, zld, zldr, zlen, zn, zc, zcall, zcallv, zrcv, zdo, zdov, zpf, zpfc, zas, zasc, zmin, zmax, zcmp, zcz, zand_e, zor_e, zite_e, zbite_e, zif_e, znot_e, z_add, z_sub, z_mul, z_and, z_or, z_xor, z_shl, z_shr, zcpy, -List.getElem?_cons_succ, zg_0, zg_1, zg_2, zg_3, zg_4, zg_5, zg_6, zg_7, zg_8, zg_9, qM_isTable, zb_ne, h, aE]
  · have e := zlt_y hs (by decide)
    rcases z3 y (n := 4) (by decide) with h | ⟨t, ht, rfl⟩
    · refine ⟨M, ?_, by simpa [sE, okE, h] using hR, by simpa [sE, okE, h] using hT, zlo.refl M⟩
      simp [zf_M_end, zmeth, xm_en, zret, zretz, zretv, zseq, zst, zinc, zkl, zskip, zk, zi, za, zbin, zdiv, zrem, zgi, zgr, zld, zldr, zlen, zn, zc, zcall, zcallv, zrcv, zdo, zdov, zpf, zpfc, zas, zasc, zmin, zmax, zcmp, zcz, zand_e, zor_e, zite_e, zbite_e, zif_e, znot_e, z_add, z_sub, z_mul, z_and, z_or, z_xor, z_shl, z_shr, zcpy, -List.getElem?_cons_succ, zg_0, zg_1, zg_2, zg_3, zg_4, zg_5, zg_6, zg_7, zg_8, zg_9, qM_isTable, zb_ne, e, h, aE]
    · have e2 := zlt_y ht (by decide)
      have ct : (nI t).toNatClampNeg = t := nI_clamp (by omega)
      have cs : (nI s).toNatClampNeg = s := nI_clamp (by omega)
      have h8 := (hT t ht).1.2
      by_cases h6 : 6 < (T t).1
      · refine ⟨M, ?_, by simpa [sE, okE, ct, h6] using hR, by simpa [sE, okE, ct, h6] using hT, zlo.refl M⟩
        simp (disch := omega) [zf_M_end, zmeth, xm_en, zret, zretz, zretv, zseq, zst, zinc, zkl, zskip, zk, zi, za, zbin, zdiv, zrem, zgi, zgr, zld, zldr, zlen, zn, zc, zcall, zcallv, zrcv, zdo, zdov, zpf, zpfc, zas, zasc, zmin, zmax, zcmp, zcz, zand_e, zor_e, zite_e, zbite_e, zif_e, znot_e, z_add, z_sub, z_mul, z_and, z_or, z_xor, z_shl, z_shr, zcpy, -List.getElem?_cons_succ, zg_0, zg_1, zg_2, zg_3, zg_4, zg_5, zg_6, zg_7, zg_8, zg_9, zt_0, zt_12, zt_20, zt_26, zt_32, zf_0_0, zf_0_1, zf_0_2, zf_0_3, zf_0_4, zf_12_0, zf_12_1, zf_12_2, zf_12_4, zf_12_5, zf_20_1, zf_20_2, zf_20_3, zf_20_4, zf_20_6, zf_26_0, zf_26_1, zf_26_2, zf_26_3, zf_32_0, zf_32_1, zf_32_3, zf_32_4, zf_32_5, zf_32_6, qM_isTable, zb_ne, e, e2, aE, ct, zi_33, nI_clamp, (hR t ht).1, zc_gt, h6]
      · obtain ⟨M', g1, g2, g3⟩ := qM_ends (most := 1) ht (hR t ht) (hT t ht) (by omega) (by decide) (by decide)
        have ec : comps (T t).1 (holes (T t).1 (T t).2) (T t).2 = cpl T (nI t) := by unfold cpl; rw [ct]
        rw [ec] at g1 g3
        cases hl : cpl T (nI t) with
        | nil =>
          rw [hl] at g1
          have hok : okE T (nI s) (nI t) = false := by simp [okE, hl]
          refine ⟨M', ?_, by simpa [sE, hok] using hR.sr hT g2, by simpa [sE, hok] using hT, g2.lo⟩
          have e0 : xe_cd .eq (nI 0) (nI 1) = false := by decide
          simp only [List.length_nil, Nat.min_zero] at g1
          simp (disch := omega) [zf_M_end, zmeth, xm_en, zret, zretz, zretv, zseq, zst, zinc, zkl, zskip, zk, zi, za, zbin, zdiv, zrem, zgi, zgr, zld, zldr, zlen, zn, zc, zcall, zcallv, zrcv, zdo, zdov, zpf, zpfc, zas, zasc, zmin, zmax, zcmp, zcz, zand_e, zor_e, zite_e, zbite_e, zif_e, znot_e, z_add, z_sub, z_mul, z_and, z_or, z_xor, z_shl, z_shr, zcpy, -List.getElem?_cons_succ, zg_0, zg_1, zg_2, zg_3, zg_4, zg_5, zg_6, zg_7, zg_8, zg_9, zt_0, zt_12, zt_20, zt_26, zt_32, zf_0_0, zf_0_1, zf_0_2, zf_0_3, zf_0_4, zf_12_0, zf_12_1, zf_12_2, zf_12_4, zf_12_5, zf_20_1, zf_20_2, zf_20_3, zf_20_4, zf_20_6, zf_26_0, zf_26_1, zf_26_2, zf_26_3, zf_32_0, zf_32_1, zf_32_3, zf_32_4, zf_32_5, zf_32_6, qM_isTable, zb_ne, e, e2, aE, ct, hok, zi_33, nI_clamp, (hR t ht).1, zc_gt, h6, g1, e0, zb_F]
        | cons d l =>
          have hok : okE T (nI s) (nI t) = true := by simp [okE, hl, e, e2, ct, h6]
          have em : min 1 (cpl T (nI t)).length = 1 := by rw [hl, List.length_cons]; omega
          rw [em] at g1
          have r4 := g3 (by rw [hl, List.length_cons]; omega)
          have e0 : xe_cd .eq (nI 1) (nI 1) = true := by decide
          have hin : (cpl T (nI t)).getD (1 - 1) (T t).2 ∈ comps (T t).1 (holes (T t).1 (T t).2) (T t).2 := by
            rw [ec, hl]
            exact List.mem_cons_self
          refine ⟨zcp M' s 4 64, ?_, ?_, ?_, zlo.trans g2.lo zlo_cp⟩
          · simp (disch := omega) [zf_M_end, zmeth, xm_en, zret, zretz, zretv, zseq, zst, zinc, zkl, zskip, zk, zi, za, zbin, zdiv, zrem, zgi, zgr, zld, zldr, zlen, zn, zc, zcall, zcallv, zrcv, zdo, zdov, zpf, zpfc, zas, zasc, zmin, zmax, zcmp, zcz, zand_e, zor_e, zite_e, zbite_e, zif_e, znot_e, z_add, z_sub, z_mul, z_and, z_or, z_xor, z_shl, z_shr, zcpy, -List.getElem?_cons_succ, zg_0, zg_1, zg_2, zg_3, zg_4, zg_5, zg_6, zg_7, zg_8, zg_9, zt_0, zt_12, zt_20, zt_26, zt_32, zf_0_0, zf_0_1, zf_0_2, zf_0_3, zf_0_4, zf_12_0, zf_12_1, zf_12_2, zf_12_4, zf_12_5, zf_20_1, zf_20_2, zf_20_3, zf_20_4, zf_20_6, zf_26_0, zf_26_1, zf_26_2, zf_26_3, zf_32_0, zf_32_1, zf_32_3, zf_32_4, zf_32_5, zf_32_6, qM_isTable, zb_ne, e, e2, aE, ct, hok, zi_33, nI_clamp, (hR t ht).1, zc_gt, h6, g1, e0, qM_copies, zb_T, zc_ne0]
          · simp only [sE, hok, cond_true, ct, cs]
            exact RS_cp4 hT hs h8 hR g2 r4
          · simp only [sE, hok, cond_true, ct, cs]
            exact TO_set hT (comps_ok _ _ (hT t ht) (holes_ok (hT t ht)) _ hin)
