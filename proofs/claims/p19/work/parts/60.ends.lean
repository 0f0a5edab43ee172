/-! endings: all full tables over a table's cells, in order -/
def okv (n : Nat) (c : tC) (h v : Nat) : Bool := zall (fun k => !decide (c (h / 8) k = v) && !decide (c k (h % 8) = v)) n
def sgs (g : Nat → List tC) : Nat → Nat → List tC
  | _, 0 => []
  | i, d + 1 => g i ++ sgs g (i + 1) d
def comps (n : Nat) : List Nat → tC → List tC
  | [], c => [c]
  | h :: hs, c => sgs (fun v => bif okv n c h v then comps n hs (cset c (h / 8) (h % 8) v) else []) 0 n
def cg (n : Nat) (hs : List Nat) (h : Nat) (c : tC) (v : Nat) : List tC := bif okv n c h v then comps n hs (cset c (h / 8) (h % 8) v) else []
theorem comps_c (n h : Nat) (hs : List Nat) (c : tC) : comps n (h :: hs) c = sgs (cg n hs h c) 0 n := rfl
theorem sgs_skip {g : Nat → List tC} : ∀ (e d i : Nat), (∀ j, i ≤ j → j < i + e → g j = []) → sgs g i (e + d) = sgs g (i + e) d
  | 0, d, i, _ => by rw [Nat.zero_add, Nat.add_zero]
  | e + 1, d, i, h => by
    rw [show e + 1 + d = (e + d) + 1 by omega]
    show g i ++ sgs g (i + 1) (e + d) = _
    rw [h i (Nat.le_refl _) (by omega), sgs_skip e d (i + 1) (fun j h1 h2 => h j (by omega) (by omega)), List.nil_append]
    congr 1
    omega
theorem okv_st {n a b v h : Nat} {c : tC} (ha : a < n) (hb : b < n) (eh : h = 8 * a + b) (h8 : n ≤ 8) (hc : c a b = 8) (hv : v < 8) : zany (tSt n c a b v) n = !okv n c h v := by
  have e1 : h / 8 = a := by omega
  have e2 : h % 8 = b := by omega
  rw [Bool.eq_iff_iff, zany_t]
  simp only [Bool.not_eq_true', ← Bool.not_eq_true, okv, zall_t, e1, e2]
  constructor
  · rintro ⟨i, hi, g⟩ q
    have := q i hi
    simp only [tSt, Bool.or_eq_true, Bool.and_eq_true, Bool.not_eq_true', decide_eq_false_iff_not, decide_eq_true_eq] at g
    simp only [Bool.and_eq_true, Bool.not_eq_true', decide_eq_false_iff_not] at this
    rcases g with g | g
    · exact this.1 g.2
    · exact this.2 g.2
  · intro q
    refine Classical.byContradiction (fun g => q (fun i hi => ?_))
    have g1 : ¬ tSt n c a b v i = true := fun w => g ⟨i, hi, w⟩
    simp only [tSt, Bool.or_eq_true, Bool.and_eq_true, Bool.not_eq_true', decide_eq_false_iff_not, decide_eq_true_eq] at g1
    simp only [Bool.and_eq_true, Bool.not_eq_true', decide_eq_false_iff_not]
    refine ⟨fun w => g1 (Or.inl ⟨fun z => ?_, w⟩), fun w => g1 (Or.inr ⟨fun z => ?_, w⟩)⟩
    · rw [z, hc] at w; omega
    · rw [z, hc] at w; omega
/-- the reference's hand: its table c, its list of holes H -/
def eH (M : zM) (n : Nat) (H : List Nat) (c : tC) : Prop := rT M 4 n c ∧ M 32 2 = nI H.length ∧ ∀ i, i < H.length → M 35 i = nI (H.getD i 0)
theorem eH_cset {M : zM} {n a b v : Nat} {H : List Nat} {c : tC} (h8 : n ≤ 8) (ha : a < n) (hb : b < n) (h : eH M n H c) : eH (zup M 34 (256 + 8 * a + b) (zcl (-4) v)) n H (cset c a b v) := by
  refine ⟨rT_cset (t := 4) h8 ha hb h.1, ?_, fun i hi => ?_⟩
  · rw [zup_e, if_neg (by omega)]; exact h.2.1
  · rw [zup_e, if_neg (by omega)]; exact h.2.2 i hi
def lsE (t : Nat) (most f : Nat) (k : Int32) : zL := [some (Value.ref (32)), some (Value.int (nI t)), some (Value.int (nI most)), some (Value.int (nI f)), some (Value.int (k)), none, none, none]
/-- from the state (f found, at k, memory M) the loop comes to (f', k') with M' -/
def eTo (t most f : Nat) (k : Int32) (M : zM) (f' : Nat) (k' : Int32) (M' : zM) : Prop := ∀ r, zwh zc_M_ends_3 zs_M_ends_3 (lsE t most f' k') M' = some r → zwh zc_M_ends_3 zs_M_ends_3 (lsE t most f k) M = some r
/-- from there it returns most, with the table d in its hand, nothing else changed -/
def eRet (t most f : Nat) (k : Int32) (M : zM) (n : Nat) (H : List Nat) (d : tC) : Prop := ∃ ls' M', zwh zc_M_ends_3 zs_M_ends_3 (lsE t most f k) M = some (some (some (nI most)), ls', M') ∧ eH M' n H d ∧ ∀ q j, ¬ (q = 34 ∧ 256 ≤ j ∧ j < 320) → M' q j = M q j
theorem eTo.ret {t most f f' : Nat} {k k' : Int32} {M M' : zM} {n : Nat} {H : List Nat} {d : tC} (h : eTo t most f k M f' k' M') (hf : ∀ q j, ¬ (q = 34 ∧ 256 ≤ j ∧ j < 320) → M' q j = M q j) (hr : eRet t most f' k' M' n H d) : eRet t most f k M n H d := by
  obtain ⟨ls', M2, g1, g2, g3⟩ := hr
  exact ⟨ls', M2, h _ g1, g2, fun q j hq => (g3 q j hq).trans (hf q j hq)⟩
theorem eTo.trans {t most f f' f2 : Nat} {k k' k2 : Int32} {M M' M2 : zM} (h : eTo t most f k M f' k' M') (h2 : eTo t most f' k' M' f2 k2 M2) : eTo t most f k M f2 k2 M2 := fun r g => h r (h2 r g)
theorem e_leaf {M : zM} {t n most f : Nat} {H : List Nat} {c : tC} (h : eH M n H c) (hm : most < 2 ^ 30) (hf : f < most) (hH : H.length < 64) : (f + 1 = most → eRet t most f (nI H.length) M n H c) ∧ (f + 1 ≠ most → eTo t most f (nI H.length) M (f + 1) (nI H.length + -1) M) := by
  have c1 : zc_M_ends_3 (lsE t most f (nI H.length)) M = some (true, M) := by
    simp (disch := omega) [zc_M_ends_3, lsE, zmeth, xm_en, zret, zretz, zretv, zseq, zst, zinc, zkl, zskip, zk, zi, za, zbin, zdiv, zrem, zgi, zgr, zld, zldr, zlen, zn, zc, zcall, zcallv, zrcv, zdo, zdov, zpf, zpfc, zas, zasc, zmin, zmax, zcmp, zcz, zand_e, zor_e, zite_e, zbite_e, zif_e, znot_e, z_add, z_sub, z_mul, z_and, z_or, z_xor, z_shl, z_shr, zcpy, -List.getElem?_cons_succ, zg_0, zg_1, zg_2, zg_3, zg_4, zg_5, zg_6, zg_7, zg_8, zg_9, zc_lt, zc_le, zc_gt, zc_ge, zc_eq, zc_ne, zc_lt0, zc_ge0, zc_gt0, zc_eq0, zc_ne0, zb_ne, zb_eq, zb_01, z_00, z_01, z_11, zb_f, zb_T, zb_F, zbm1, zbm2, zbm5, zbm6, zbm3, zbm4, nI_clamp, zmod_n, pk_div, nI_ne0, pk_mul, nI_add, nI_1]
  refine ⟨fun e => ⟨[some (Value.ref (32)), some (Value.int (nI t)), some (Value.int (nI most)), some (Value.int (nI (f + 1))), some (Value.int (nI H.length)), none, none, none], M, zwh_r c1 ?_, h, fun _ _ _ => rfl⟩, fun e r hr => zwh_t c1 ?_ hr⟩
  · simp (disch := omega) [zs_M_ends_3, lsE, zmeth, xm_en, zret, zretz, zretv, zseq, zst, zinc, zkl, zskip, zk, zi, za, zbin, zdiv, zrem, zgi, zgr, zld, zldr, zlen, zn, zc, zcall, zcallv, zrcv, zdo, zdov, zpf, zpfc, zas, zasc, zmin, zmax, zcmp, zcz, zand_e, zor_e, zite_e, zbite_e, zif_e, znot_e, z_add, z_sub, z_mul, z_and, z_or, z_xor, z_shl, z_shr, zcpy, -List.getElem?_cons_succ, zg_0, zg_1, zg_2, zg_3, zg_4, zg_5, zg_6, zg_7, zg_8, zg_9, zc_lt, zc_le, zc_gt, zc_ge, zc_eq, zc_ne, zc_lt0, zc_ge0, zc_gt0, zc_eq0, zc_ne0, zb_ne, zb_eq, zb_01, z_00, z_01, z_11, zb_f, zb_T, zb_F, zbm1, zbm2, zbm5, zbm6, zbm3, zbm4, nI_clamp, zmod_n, pk_div, nI_ne0, pk_mul, nI_add, nI_1, zt_0, zt_12, zt_20, zt_26, zt_32, zf_0_0, zf_0_1, zf_0_2, zf_0_3, zf_0_4, zf_12_0, zf_12_1, zf_12_2, zf_12_4, zf_12_5, zf_20_1, zf_20_2, zf_20_3, zf_20_4, zf_20_6, zf_26_0, zf_26_1, zf_26_2, zf_26_3, zf_32_0, zf_32_1, zf_32_3, zf_32_4, zf_32_5, zf_32_6, h.2.1, e]
  · simp (disch := omega) [zs_M_ends_3, lsE, zmeth, xm_en, zret, zretz, zretv, zseq, zst, zinc, zkl, zskip, zk, zi, za, zbin, zdiv, zrem, zgi, zgr, zld, zldr, zlen, zn, zc, zcall, zcallv, zrcv, zdo, zdov, zpf, zpfc, zas, zasc, zmin, zmax, zcmp, zcz, zand_e, zor_e, zite_e, zbite_e, zif_e, znot_e, z_add, z_sub, z_mul, z_and, z_or, z_xor, z_shl, z_shr, zcpy, -List.getElem?_cons_succ, zg_0, zg_1, zg_2, zg_3, zg_4, zg_5, zg_6, zg_7, zg_8, zg_9, zc_lt, zc_le, zc_gt, zc_ge, zc_eq, zc_ne, zc_lt0, zc_ge0, zc_gt0, zc_eq0, zc_ne0, zb_ne, zb_eq, zb_01, z_00, z_01, z_11, zb_f, zb_T, zb_F, zbm1, zbm2, zbm5, zbm6, zbm3, zbm4, nI_clamp, zmod_n, pk_div, nI_ne0, pk_mul, nI_add, nI_1, zt_0, zt_12, zt_20, zt_26, zt_32, zf_0_0, zf_0_1, zf_0_2, zf_0_3, zf_0_4, zf_12_0, zf_12_1, zf_12_2, zf_12_4, zf_12_5, zf_20_1, zf_20_2, zf_20_3, zf_20_4, zf_20_6, zf_26_0, zf_26_1, zf_26_2, zf_26_3, zf_32_0, zf_32_1, zf_32_3, zf_32_4, zf_32_5, zf_32_6, h.2.1, e]
theorem e_in {M : zM} {t n most f a b v w : Nat} {k : Int32} {H : List Nat} {c : tC} (h : eH M n H c) (h8 : n ≤ 8) (ha : a < n) (hb : b < n) (hc : c a b = 8) (hvn : v ≤ n) (hw : w = zidx (fun x => okv n c (8 * a + b) x) v (n - v)) : zwh zc_M_ends_4 zs_M_ends_4 [some (Value.ref (32)), some (Value.int (nI t)), some (Value.int (nI most)), some (Value.int (nI f)), some (Value.int (k)), some (Value.int (nI a)), some (Value.int (nI b)), some (Value.int (nI v))] M = some (none, [some (Value.ref (32)), some (Value.int (nI t)), some (Value.int (nI most)), some (Value.int (nI f)), some (Value.int (k)), some (Value.int (nI a)), some (Value.int (nI b)), some (Value.int (nI w))], M) := by
  have le := zidx_le (p := fun x => okv n c (8 * a + b) x) (n - v) v
  have st : ∀ j, j < n → zf_M_stands [.ref 32, .int (nI 4), .int (nI a), .int (nI b), .int (nI j)] M = some (some (zb (!okv n c (8 * a + b) j)), M) := fun j hj => by
    rw [qM_stands (by decide) h.1 h8 ha hb (by omega), okv_st ha hb rfl h8 hc (by omega)]
  refine zwh_up (c := zc_M_ends_4) (s := zs_M_ends_4) (fun j => [some (Value.ref (32)), some (Value.int (nI t)), some (Value.int (nI most)), some (Value.int (nI f)), some (Value.int (k)), some (Value.int (nI a)), some (Value.int (nI b)), some (Value.int (nI j))]) (fun _ => M) (n := w) (w - v) v (by omega) ?_ ?_ ?_
  · intro j h1 h2
    have no : okv n c (8 * a + b) j = false := zidx_no (p := fun x => okv n c (8 * a + b) x) (n - v) v j h1 (by omega)
    have s := st j (by omega)
    rw [no] at s
    have hjn : j < n := by omega
    simp (disch := omega) [zc_M_ends_4, zmeth, xm_en, zret, zretz, zretv, zseq, zst, zinc, zkl, zskip, zk, zi, za, zbin, zdiv, zrem, zgi, zgr, zld, zldr, zlen, zn, zc, zcall, zcallv, zrcv, zdo, zdov, zpf, zpfc, zas, zasc, zmin, zmax, zcmp, zcz, zand_e, zor_e, zite_e, zbite_e, zif_e, znot_e, z_add, z_sub, z_mul, z_and, z_or, z_xor, z_shl, z_shr, zcpy, -List.getElem?_cons_succ, zg_0, zg_1, zg_2, zg_3, zg_4, zg_5, zg_6, zg_7, zg_8, zg_9, zc_lt, zc_le, zc_gt, zc_ge, zc_eq, zc_ne, zc_lt0, zc_ge0, zc_gt0, zc_eq0, zc_ne0, zb_ne, zb_eq, zb_01, z_00, z_01, z_11, zb_f, zb_T, zb_F, zbm1, zbm2, zbm5, zbm6, zbm3, zbm4, nI_clamp, zmod_n, pk_div, nI_ne0, pk_mul, nI_add, nI_1, zt_0, zt_12, zt_20, zt_26, zt_32, zf_0_0, zf_0_1, zf_0_2, zf_0_3, zf_0_4, zf_12_0, zf_12_1, zf_12_2, zf_12_4, zf_12_5, zf_20_1, zf_20_2, zf_20_3, zf_20_4, zf_20_6, zf_26_0, zf_26_1, zf_26_2, zf_26_3, zf_32_0, zf_32_1, zf_32_3, zf_32_4, zf_32_5, zf_32_6, zi_33, h.1.1, hjn, s]
  · intro j h1 h2
    simp (disch := omega) [zs_M_ends_4, zmeth, xm_en, zret, zretz, zretv, zseq, zst, zinc, zkl, zskip, zk, zi, za, zbin, zdiv, zrem, zgi, zgr, zld, zldr, zlen, zn, zc, zcall, zcallv, zrcv, zdo, zdov, zpf, zpfc, zas, zasc, zmin, zmax, zcmp, zcz, zand_e, zor_e, zite_e, zbite_e, zif_e, znot_e, z_add, z_sub, z_mul, z_and, z_or, z_xor, z_shl, z_shr, zcpy, -List.getElem?_cons_succ, zg_0, zg_1, zg_2, zg_3, zg_4, zg_5, zg_6, zg_7, zg_8, zg_9, zc_lt, zc_le, zc_gt, zc_ge, zc_eq, zc_ne, zc_lt0, zc_ge0, zc_gt0, zc_eq0, zc_ne0, zb_ne, zb_eq, zb_01, z_00, z_01, z_11, zb_f, zb_T, zb_F, zbm1, zbm2, zbm5, zbm6, zbm3, zbm4, nI_clamp, zmod_n, pk_div, nI_ne0, pk_mul, nI_add, nI_1]
  · rcases Nat.lt_or_ge w n with g | g
    · have yes : okv n c (8 * a + b) w = true := by
        rw [hw]
        exact zidx_lt (p := fun x => okv n c (8 * a + b) x) (n - v) v (by omega)
      have s := st w g
      rw [yes] at s
      simp (disch := omega) [zc_M_ends_4, zmeth, xm_en, zret, zretz, zretv, zseq, zst, zinc, zkl, zskip, zk, zi, za, zbin, zdiv, zrem, zgi, zgr, zld, zldr, zlen, zn, zc, zcall, zcallv, zrcv, zdo, zdov, zpf, zpfc, zas, zasc, zmin, zmax, zcmp, zcz, zand_e, zor_e, zite_e, zbite_e, zif_e, znot_e, z_add, z_sub, z_mul, z_and, z_or, z_xor, z_shl, z_shr, zcpy, -List.getElem?_cons_succ, zg_0, zg_1, zg_2, zg_3, zg_4, zg_5, zg_6, zg_7, zg_8, zg_9, zc_lt, zc_le, zc_gt, zc_ge, zc_eq, zc_ne, zc_lt0, zc_ge0, zc_gt0, zc_eq0, zc_ne0, zb_ne, zb_eq, zb_01, z_00, z_01, z_11, zb_f, zb_T, zb_F, zbm1, zbm2, zbm5, zbm6, zbm3, zbm4, nI_clamp, zmod_n, pk_div, nI_ne0, pk_mul, nI_add, nI_1, zt_0, zt_12, zt_20, zt_26, zt_32, zf_0_0, zf_0_1, zf_0_2, zf_0_3, zf_0_4, zf_12_0, zf_12_1, zf_12_2, zf_12_4, zf_12_5, zf_20_1, zf_20_2, zf_20_3, zf_20_4, zf_20_6, zf_26_0, zf_26_1, zf_26_2, zf_26_3, zf_32_0, zf_32_1, zf_32_3, zf_32_4, zf_32_5, zf_32_6, zi_33, h.1.1, g, s]
    · have g2 : ¬ w < n := by omega
      simp (disch := omega) [zc_M_ends_4, zmeth, xm_en, zret, zretz, zretv, zseq, zst, zinc, zkl, zskip, zk, zi, za, zbin, zdiv, zrem, zgi, zgr, zld, zldr, zlen, zn, zc, zcall, zcallv, zrcv, zdo, zdov, zpf, zpfc, zas, zasc, zmin, zmax, zcmp, zcz, zand_e, zor_e, zite_e, zbite_e, zif_e, znot_e, z_add, z_sub, z_mul, z_and, z_or, z_xor, z_shl, z_shr, zcpy, -List.getElem?_cons_succ, zg_0, zg_1, zg_2, zg_3, zg_4, zg_5, zg_6, zg_7, zg_8, zg_9, zc_lt, zc_le, zc_gt, zc_ge, zc_eq, zc_ne, zc_lt0, zc_ge0, zc_gt0, zc_eq0, zc_ne0, zb_ne, zb_eq, zb_01, z_00, z_01, z_11, zb_f, zb_T, zb_F, zbm1, zbm2, zbm5, zbm6, zbm3, zbm4, nI_clamp, zmod_n, pk_div, nI_ne0, pk_mul, nI_add, nI_1, zt_0, zt_12, zt_20, zt_26, zt_32, zf_0_0, zf_0_1, zf_0_2, zf_0_3, zf_0_4, zf_12_0, zf_12_1, zf_12_2, zf_12_4, zf_12_5, zf_20_1, zf_20_2, zf_20_3, zf_20_4, zf_20_6, zf_26_0, zf_26_1, zf_26_2, zf_26_3, zf_32_0, zf_32_1, zf_32_3, zf_32_4, zf_32_5, zf_32_6, zi_33, h.1.1, g2]
theorem zup_zup (M : zM) (k j : Nat) (x y : Int32) : zup (zup M k j x) k j y = zup M k j y := by
  funext q i
  rw [zup_e, zup_e, zup_e]
  split <;> rfl
/-- at a hole: the next element that fits, or back -/
theorem e_step {M : zM} {t n most f k a b u v : Nat} {H : List Nat} {c : tC} (h : eH M n H c) (h8 : n ≤ 8) (hk : k < H.length) (hH : H.length < 64) (hh : H.getD k 0 = 8 * a + b) (ha : a < n) (hb : b < n) (hc : c a b = 8) (huv : (u = 8 ∧ v = 0) ∨ (u < n ∧ v = u + 1)) : (zidx (fun x => okv n c (8 * a + b) x) v (n - v) < n → eTo t most f (nI k) (zup M 34 (256 + 8 * a + b) (zcl (-4) u)) f (nI (k + 1)) (zup M 34 (256 + 8 * a + b) (zcl (-4) (zidx (fun x => okv n c (8 * a + b) x) v (n - v))))) ∧ (¬ zidx (fun x => okv n c (8 * a + b) x) v (n - v) < n → eTo t most f (nI k) (zup M 34 (256 + 8 * a + b) (zcl (-4) u)) f (nI k + -1) M) := by
  have hv := eH_cset (v := u) h8 ha hb h
  have m0 : M 34 (256 + 8 * a + b) = -4 := by
    have := h.1.2 a b ha hb
    have e8 : zcl (-4) 8 = -4 := rfl
    rw [hc, e8] at this
    simpa using this
  have back : zup (zup M 34 (256 + 8 * a + b) (zcl (-4) u)) 34 (256 + 8 * a + b) (-4) = M := by rw [zup_zup, zup_id m0]
  have cell := qM_rcell (M := zup M 34 (256 + 8 * a + b) (zcl (-4) u)) (t := 4) (by decide) hv.1 h8 ha hb
  have ecs : cset c a b u a b = u := by simp [cset]
  rw [ecs] at cell
  have p0 := qM_puts (M := zup M 34 (256 + 8 * a + b) (zcl (-4) u)) (t := 4) (a := a) (b := b) (v := -4) (by omega)
  simp only [Nat.reduceMul] at p0
  rw [back] at p0
  have hole := hv.2.2 k hk
  rw [hh] at hole
  have inn := e_in (t := t) (most := most) (f := f) (k := nI k) (v := v) h h8 ha hb hc (by omega) rfl
  have d1 : (8 * a + b) / 8 = a := by omega
  have d2 : (8 * a + b) % 8 = b := by omega
  have nk : ¬ k = H.length := by omega
  have c1 : zc_M_ends_3 (lsE t most f (nI k)) (zup M 34 (256 + 8 * a + b) (zcl (-4) u)) = some (true, zup M 34 (256 + 8 * a + b) (zcl (-4) u)) := by
    simp (disch := omega) [zc_M_ends_3, lsE, zmeth, xm_en, zret, zretz, zretv, zseq, zst, zinc, zkl, zskip, zk, zi, za, zbin, zdiv, zrem, zgi, zgr, zld, zldr, zlen, zn, zc, zcall, zcallv, zrcv, zdo, zdov, zpf, zpfc, zas, zasc, zmin, zmax, zcmp, zcz, zand_e, zor_e, zite_e, zbite_e, zif_e, znot_e, z_add, z_sub, z_mul, z_and, z_or, z_xor, z_shl, z_shr, zcpy, -List.getElem?_cons_succ, zg_0, zg_1, zg_2, zg_3, zg_4, zg_5, zg_6, zg_7, zg_8, zg_9, zc_lt, zc_le, zc_gt, zc_ge, zc_eq, zc_ne, zc_lt0, zc_ge0, zc_gt0, zc_eq0, zc_ne0, zb_ne, zb_eq, zb_01, z_00, z_01, z_11, zb_f, zb_T, zb_F, zbm1, zbm2, zbm5, zbm6, zbm3, zbm4, nI_clamp, zmod_n, pk_div, nI_ne0, pk_mul, nI_add, nI_1]
  have hsz := h.1.1
  generalize hw : zidx (fun x => okv n c (8 * a + b) x) v (n - v) = w at inn ⊢
  have p1 := qM_puts (M := M) (t := 4) (a := a) (b := b) (v := nI w) (by omega)
  simp only [Nat.reduceMul] at p1
  rcases huv with ⟨rfl, rfl⟩ | ⟨hu, rfl⟩
  · refine ⟨fun g r hr => zwh_t c1 ?_ hr, fun g r hr => zwh_t c1 ?_ hr⟩
    · have ez : zcl (-4) w = nI w := zcl_lt (by omega)
      rw [ez]
      simp (disch := omega) [zs_M_ends_3, lsE, zmeth, xm_en, zret, zretz, zretv, zseq, zst, zinc, zkl, zskip, zk, zi, za, zbin, zdiv, zrem, zgi, zgr, zld, zldr, zlen, zn, zc, zcall, zcallv, zrcv, zdo, zdov, zpf, zpfc, zas, zasc, zmin, zmax, zcmp, zcz, zand_e, zor_e, zite_e, zbite_e, zif_e, znot_e, z_add, z_sub, z_mul, z_and, z_or, z_xor, z_shl, z_shr, zcpy, -List.getElem?_cons_succ, zg_0, zg_1, zg_2, zg_3, zg_4, zg_5, zg_6, zg_7, zg_8, zg_9, zc_lt, zc_le, zc_gt, zc_ge, zc_eq, zc_ne, zc_lt0, zc_ge0, zc_gt0, zc_eq0, zc_ne0, zb_ne, zb_eq, zb_01, z_00, z_01, z_11, zb_f, zb_T, zb_F, zbm1, zbm2, zbm5, zbm6, zbm3, zbm4, nI_clamp, zmod_n, pk_div, nI_ne0, pk_mul, nI_add, nI_1, zt_0, zt_12, zt_20, zt_26, zt_32, zf_0_0, zf_0_1, zf_0_2, zf_0_3, zf_0_4, zf_12_0, zf_12_1, zf_12_2, zf_12_4, zf_12_5, zf_20_1, zf_20_2, zf_20_3, zf_20_4, zf_20_6, zf_26_0, zf_26_1, zf_26_2, zf_26_3, zf_32_0, zf_32_1, zf_32_3, zf_32_4, zf_32_5, zf_32_6, hv.2.1, nk, zi_35, hole, d1, d2, cell, zcl_m4, p0, inn, zi_33, hsz, g, p1]
    · have hwl := zidx_le (p := fun x => okv n c (8 * a + b) x) (n - 0) 0
      simp (disch := omega) [zs_M_ends_3, lsE, zmeth, xm_en, zret, zretz, zretv, zseq, zst, zinc, zkl, zskip, zk, zi, za, zbin, zdiv, zrem, zgi, zgr, zld, zldr, zlen, zn, zc, zcall, zcallv, zrcv, zdo, zdov, zpf, zpfc, zas, zasc, zmin, zmax, zcmp, zcz, zand_e, zor_e, zite_e, zbite_e, zif_e, znot_e, z_add, z_sub, z_mul, z_and, z_or, z_xor, z_shl, z_shr, zcpy, -List.getElem?_cons_succ, zg_0, zg_1, zg_2, zg_3, zg_4, zg_5, zg_6, zg_7, zg_8, zg_9, zc_lt, zc_le, zc_gt, zc_ge, zc_eq, zc_ne, zc_lt0, zc_ge0, zc_gt0, zc_eq0, zc_ne0, zb_ne, zb_eq, zb_01, z_00, z_01, z_11, zb_f, zb_T, zb_F, zbm1, zbm2, zbm5, zbm6, zbm3, zbm4, nI_clamp, zmod_n, pk_div, nI_ne0, pk_mul, nI_add, nI_1, zt_0, zt_12, zt_20, zt_26, zt_32, zf_0_0, zf_0_1, zf_0_2, zf_0_3, zf_0_4, zf_12_0, zf_12_1, zf_12_2, zf_12_4, zf_12_5, zf_20_1, zf_20_2, zf_20_3, zf_20_4, zf_20_6, zf_26_0, zf_26_1, zf_26_2, zf_26_3, zf_32_0, zf_32_1, zf_32_3, zf_32_4, zf_32_5, zf_32_6, hv.2.1, nk, zi_35, hole, d1, d2, cell, zcl_m4, p0, inn, zi_33, hsz, g]
  · have eu : zcl (-4) u = nI u := zcl_lt (by omega)
    have nu : ¬ 8 ≤ u := by omega
    refine ⟨fun g r hr => zwh_t c1 ?_ hr, fun g r hr => zwh_t c1 ?_ hr⟩
    · have ez : zcl (-4) w = nI w := zcl_lt (by omega)
      rw [ez]
      rw [eu] at cell p0 hv hole ⊢
      simp (disch := omega) [zs_M_ends_3, lsE, zmeth, xm_en, zret, zretz, zretv, zseq, zst, zinc, zkl, zskip, zk, zi, za, zbin, zdiv, zrem, zgi, zgr, zld, zldr, zlen, zn, zc, zcall, zcallv, zrcv, zdo, zdov, zpf, zpfc, zas, zasc, zmin, zmax, zcmp, zcz, zand_e, zor_e, zite_e, zbite_e, zif_e, znot_e, z_add, z_sub, z_mul, z_and, z_or, z_xor, z_shl, z_shr, zcpy, -List.getElem?_cons_succ, zg_0, zg_1, zg_2, zg_3, zg_4, zg_5, zg_6, zg_7, zg_8, zg_9, zc_lt, zc_le, zc_gt, zc_ge, zc_eq, zc_ne, zc_lt0, zc_ge0, zc_gt0, zc_eq0, zc_ne0, zb_ne, zb_eq, zb_01, z_00, z_01, z_11, zb_f, zb_T, zb_F, zbm1, zbm2, zbm5, zbm6, zbm3, zbm4, nI_clamp, zmod_n, pk_div, nI_ne0, pk_mul, nI_add, nI_1, zt_0, zt_12, zt_20, zt_26, zt_32, zf_0_0, zf_0_1, zf_0_2, zf_0_3, zf_0_4, zf_12_0, zf_12_1, zf_12_2, zf_12_4, zf_12_5, zf_20_1, zf_20_2, zf_20_3, zf_20_4, zf_20_6, zf_26_0, zf_26_1, zf_26_2, zf_26_3, zf_32_0, zf_32_1, zf_32_3, zf_32_4, zf_32_5, zf_32_6, hv.2.1, nk, zi_35, hole, d1, d2, cell, p0, inn, zi_33, hsz, g, p1]
    · have hwl := zidx_le (p := fun x => okv n c (8 * a + b) x) (n - (u + 1)) (u + 1)
      rw [eu] at cell p0 hv hole ⊢
      simp (disch := omega) [zs_M_ends_3, lsE, zmeth, xm_en, zret, zretz, zretv, zseq, zst, zinc, zkl, zskip, zk, zi, za, zbin, zdiv, zrem, zgi, zgr, zld, zldr, zlen, zn, zc, zcall, zcallv, zrcv, zdo, zdov, zpf, zpfc, zas, zasc, zmin, zmax, zcmp, zcz, zand_e, zor_e, zite_e, zbite_e, zif_e, znot_e, z_add, z_sub, z_mul, z_and, z_or, z_xor, z_shl, z_shr, zcpy, -List.getElem?_cons_succ, zg_0, zg_1, zg_2, zg_3, zg_4, zg_5, zg_6, zg_7, zg_8, zg_9, zc_lt, zc_le, zc_gt, zc_ge, zc_eq, zc_ne, zc_lt0, zc_ge0, zc_gt0, zc_eq0, zc_ne0, zb_ne, zb_eq, zb_01, z_00, z_01, z_11, zb_f, zb_T, zb_F, zbm1, zbm2, zbm5, zbm6, zbm3, zbm4, nI_clamp, zmod_n, pk_div, nI_ne0, pk_mul, nI_add, nI_1, zt_0, zt_12, zt_20, zt_26, zt_32, zf_0_0, zf_0_1, zf_0_2, zf_0_3, zf_0_4, zf_12_0, zf_12_1, zf_12_2, zf_12_4, zf_12_5, zf_20_1, zf_20_2, zf_20_3, zf_20_4, zf_20_6, zf_26_0, zf_26_1, zf_26_2, zf_26_3, zf_32_0, zf_32_1, zf_32_3, zf_32_4, zf_32_5, zf_32_6, hv.2.1, nk, zi_35, hole, d1, d2, cell, p0, inn, zi_33, hsz, g]
theorem getD_l {α : Type} {x y : List α} {i : Nat} {d : α} (h : i < x.length) : (x ++ y).getD i d = x.getD i d := by
  rw [List.getD_eq_getElem?_getD, List.getD_eq_getElem?_getD, List.getElem?_append_left h]
theorem getD_r {α : Type} {x y : List α} {i : Nat} {d : α} (h : x.length ≤ i) : (x ++ y).getD i d = y.getD (i - x.length) d := by
  rw [List.getD_eq_getElem?_getD, List.getD_eq_getElem?_getD, List.getElem?_append_right h]
theorem getD_d {α : Type} {x : List α} {i : Nat} {d e : α} (h : i < x.length) : x.getD i d = x.getD i e := by
  rw [List.getD_eq_getElem?_getD, List.getD_eq_getElem?_getD, List.getElem?_eq_getElem h]
  rfl
/-- the holes are cells of the table, empty, each but once -/
def hOK (n : Nat) (hs : List Nat) (c : tC) : Prop := hs.Nodup ∧ ∀ h ∈ hs, ∃ a b, h = 8 * a + b ∧ a < n ∧ b < n ∧ c a b = 8
theorem hOK_c {n h a b v : Nat} {hs : List Nat} {c : tC} (h8 : n ≤ 8) (H : hOK n (h :: hs) c) (eh : h = 8 * a + b) (hb : b < n) : hOK n hs (cset c a b v) := by
  obtain ⟨h1, h2⟩ := H
  rw [List.nodup_cons] at h1
  refine ⟨h1.2, fun x hx => ?_⟩
  obtain ⟨p, q, e, hp, hq, hc⟩ := h2 x (List.mem_cons_of_mem _ hx)
  refine ⟨p, q, e, hp, hq, ?_⟩
  unfold cset
  rw [if_neg ?_]
  · exact hc
  · rintro ⟨rfl, rfl⟩
    rw [e, ← eh] at hx
    exact h1.1 hx
theorem e_all {t n most : Nat} {H : List Nat} (h8 : n ≤ 8) (hm : most < 2 ^ 30) (hH : H.length < 64) : ∀ (hs : List Nat) (k : Nat) (c : tC) (M : zM) (f : Nat), H.drop k = hs → k + hs.length = H.length → eH M n H c → hOK n hs c → f < most → (f + (comps n hs c).length < most → eTo t most f (nI k) M (f + (comps n hs c).length) (nI k + -1) M) ∧ (most ≤ f + (comps n hs c).length → eRet t most f (nI k) M n H ((comps n hs c).getD (most - f - 1) c))
  | [], k, c, M, f, hd, hk, h, ho, hf => by
    have ek : k = H.length := by simpa using hk
    subst ek
    have g := e_leaf (t := t) (most := most) (f := f) h hm hf hH
    refine ⟨fun q => g.2 ?_, fun q => ?_⟩
    · simp only [comps, List.length_singleton] at q
      omega
    · simp only [comps, List.length_singleton] at q
      have e : f + 1 = most := by omega
      have e2 : most - f - 1 = 0 := by omega
      rw [e2]
      exact g.1 e
  | h :: hs, k, c, M, f, hd, hk, he, ho, hf => by
    obtain ⟨a, b, eh, ha, hb, hc⟩ := ho.2 h List.mem_cons_self
    have hkl : k < H.length := by rw [← hk, List.length_cons]; omega
    have hget : H.getD k 0 = 8 * a + b := by
      have : H[k]? = some h := by
        have q : (H.drop k)[0]? = some h := by rw [hd]; rfl
        rw [List.getElem?_drop] at q
        simpa using q
      rw [List.getD_eq_getElem?_getD, this, ← eh]
      rfl
    have hd2 : H.drop (k + 1) = hs := by
      rw [← List.drop_drop, hd]
      rfl
    have e1 : h / 8 = a := by omega
    have e2 : h % 8 = b := by omega
    have m0 : M 34 (256 + 8 * a + b) = zcl (-4) 8 := by
      have := he.1.2 a b ha hb
      rw [hc] at this
      simpa using this
    have inner : ∀ (d v u f : Nat), v + d = n → ((u = 8 ∧ v = 0) ∨ (u < n ∧ v = u + 1)) → f < most → (f + (sgs (cg n hs h c) v d).length < most → eTo t most f (nI k) (zup M 34 (256 + 8 * a + b) (zcl (-4) u)) (f + (sgs (cg n hs h c) v d).length) (nI k + -1) M) ∧ (most ≤ f + (sgs (cg n hs h c) v d).length → eRet t most f (nI k) (zup M 34 (256 + 8 * a + b) (zcl (-4) u)) n H ((sgs (cg n hs h c) v d).getD (most - f - 1) c)) := by
      intro d
      induction d using Nat.strongRecOn with
      | ind d ih =>
        intro v u f hvd huv hf
        have st := e_step (t := t) (most := most) (f := f) (v := v) (u := u) he h8 hkl hH hget ha hb hc huv
        have dn : n - v = d := by omega
        rw [dn] at st
        have le := zidx_le (p := fun x => okv n c (8 * a + b) x) d v
        have no : ∀ j, v ≤ j → j < zidx (fun x => okv n c (8 * a + b) x) v d → cg n hs h c j = [] := fun j h1 h2 => by
          have := zidx_no (p := fun x => okv n c (8 * a + b) x) d v j h1 h2
          unfold cg
          rw [eh, this]
          rfl
        by_cases hw : zidx (fun x => okv n c (8 * a + b) x) v d < n
        · have yes : okv n c (8 * a + b) (zidx (fun x => okv n c (8 * a + b) x) v d) = true := zidx_lt (p := fun x => okv n c (8 * a + b) x) d v (by omega)
          have s1 := st.1 hw
          clear st
          generalize zidx (fun x => okv n c (8 * a + b) x) v d = w at le no hw yes s1
          have es : sgs (cg n hs h c) v d = comps n hs (cset c a b w) ++ sgs (cg n hs h c) (w + 1) (n - (w + 1)) := by
            have q1 := sgs_skip (g := cg n hs h c) (w - v) (n - w) v (fun j h1 h2 => no j h1 (by omega))
            have q2 : w - v + (n - w) = d := by omega
            have q3 : v + (w - v) = w := by omega
            have q4 : n - w = (n - (w + 1)) + 1 := by omega
            rw [q2, q3, q4] at q1
            rw [q1]
            show cg n hs h c w ++ _ = _
            congr 1
            unfold cg
            rw [eh, yes, cond_true]
            congr 2 <;> omega
          have hM2 := eH_cset (v := w) h8 ha hb he
          have out := e_all (t := t) h8 hm hH hs (k + 1) (cset c a b w) (zup M 34 (256 + 8 * a + b) (zcl (-4) w)) f hd2 (by rw [List.length_cons] at hk; omega) hM2 (hOK_c h8 ho eh hb) hf
          rw [pk_m1] at out
          have fr : ∀ q j, ¬ (q = 34 ∧ 256 ≤ j ∧ j < 320) → zup M 34 (256 + 8 * a + b) (zcl (-4) w) q j = zup M 34 (256 + 8 * a + b) (zcl (-4) u) q j := fun q j hq => by rw [zup_e, if_neg (by omega), zup_e, if_neg (by omega)]
          rw [es, List.length_append]
          by_cases hl : f + (comps n hs (cset c a b w)).length < most
          · have i2 := ih (n - (w + 1)) (by omega) (w + 1) w (f + (comps n hs (cset c a b w)).length) (by omega) (Or.inr ⟨hw, rfl⟩) hl
            have t2 := s1.trans (out.1 hl)
            refine ⟨fun q => ?_, fun q => ?_⟩
            · have := t2.trans (i2.1 (by omega))
              rw [← Nat.add_assoc f]
              exact this
            · have := t2.ret fr (i2.2 (by omega))
              rw [getD_r (by omega)]
              have e9 : most - f - 1 - (comps n hs (cset c a b w)).length = most - (f + (comps n hs (cset c a b w)).length) - 1 := by omega
              rw [e9]
              exact this
          · refine ⟨fun q => by omega, fun q => ?_⟩
            have := s1.ret fr (out.2 (by omega))
            rw [getD_l (by omega)]
            rw [getD_d (e := cset c a b w) (by omega)]
            exact this
        · have es : sgs (cg n hs h c) v d = [] := by
            have q1 := sgs_skip (g := cg n hs h c) d 0 v (fun j h1 h2 => no j h1 (by omega))
            rw [Nat.add_zero] at q1
            rw [q1]
            rfl
          rw [es]
          refine ⟨fun _ => st.2 hw, fun q => ?_⟩
          simp only [List.length_nil] at q
          omega
    have r := inner n 0 8 f (by omega) (Or.inl ⟨rfl, rfl⟩) hf
    rw [zup_id m0] at r
    rw [comps_c]
    exact r
