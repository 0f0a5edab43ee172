/-! squares -/
def hit (I : Int) (many : Nat) (seg : List Nat) : Option Nat := if (many : Int) ≤ I ∧ I < many + seg.length then some (seg.getD (I.toNat - many) 0) else none
def segs (g : Nat → List Nat) : Nat → Nat → List Nat
  | _, 0 => []
  | i, d + 1 => g i ++ segs g (i + 1) d
theorem hit_nil (I : Int) (many : Nat) : hit I many [] = none := by
  unfold hit
  rw [if_neg (by simp only [List.length_nil]; omega)]
theorem hit_app_some {I : Int} {many v : Nat} {a b : List Nat} (h : hit I many a = some v) : hit I many (a ++ b) = some v := by
  unfold hit at h ⊢
  split at h
  · rename_i g
    rw [if_pos (by rw [List.length_append]; omega), ← h]
    congr 1
    rw [List.getD_eq_getElem?_getD, List.getD_eq_getElem?_getD, List.getElem?_append_left (by omega)]
  · cases h
theorem hit_app_none {I : Int} {many : Nat} {a b : List Nat} (h : hit I many a = none) : hit I many (a ++ b) = hit I (many + a.length) b := by
  unfold hit at h ⊢
  split at h
  · cases h
  · rename_i g
    by_cases g2 : (many : Int) ≤ I ∧ I < many + (a ++ b).length
    · rw [List.length_append] at g2
      rw [if_pos (by rw [List.length_append]; omega), if_pos (by omega)]
      congr 1
      rw [List.getD_eq_getElem?_getD, List.getD_eq_getElem?_getD, List.getElem?_append_right (by omega)]
      congr 2
      omega
    · rw [List.length_append] at g2
      rw [if_neg (by rw [List.length_append]; omega), if_neg (by omega)]
def zsg (s : zS) (ls : zL) (N : zM) (I : Int) (many : Nat) (seg : List Nat) (after : Nat → zL) : Prop := (∀ v, hit I many seg = some v → ∃ ls', s ls N = some (some (some (nI v)), ls', N)) ∧ (hit I many seg = none → s ls N = some (none, after (many + seg.length), N))
theorem zwh_seg {c : zB} {s : zS} {N : zM} {I : Int} {K : Nat} (P : Nat → Prop) (hP : ∀ many (seg : List Nat), P many → hit I many seg = none → P (many + seg.length)) (L : Nat → Nat → zL) (g : Nat → List Nat) {n : Nat} (he : ∀ many, P many → many ≤ K → c (L n many) N = some (false, N)) : ∀ (d i : Nat), i + d = n → (∀ j many, i ≤ j → j < n → P many → many ≤ K → c (L j many) N = some (true, N)) → (∀ j many, i ≤ j → j < n → P many → many + (g j).length ≤ K → zsg s (L j many) N I many (g j) (L (j + 1))) → ∀ many, P many → many + (segs g i d).length ≤ K → zsg (zwh c s) (L i many) N I many (segs g i d) (L n)
  | 0, i, h, _, _, many, hp, hK => by
    have : i = n := by omega
    subst this
    refine ⟨fun v hv => ?_, fun _ => ?_⟩
    · rw [segs, hit_nil] at hv
      cases hv
    · exact zwh_f (he many hp (by omega))
  | d + 1, i, h, hc, hs, many, hp, hK => by
    have hl : (segs g i (d + 1)).length = (g i).length + (segs g (i + 1) d).length := by rw [segs, List.length_append]
    obtain ⟨s1, s2⟩ := hs i many (Nat.le_refl _) (by omega) hp (by omega)
    have c1 := hc i many (Nat.le_refl _) (by omega) hp (by omega)
    cases hh : hit I many (g i) with
    | some w =>
      obtain ⟨ls', g1⟩ := s1 w hh
      have g2 : hit I many (segs g i (d + 1)) = some w := hit_app_some hh
      refine ⟨fun v hv => ?_, fun hn => ?_⟩
      · rw [g2] at hv
        cases hv
        exact ⟨ls', zwh_r c1 g1⟩
      · rw [g2] at hn
        cases hn
    | none =>
      have g1 := s2 hh
      have ih := zwh_seg P hP L g he d (i + 1) (by omega) (fun j m h1 h2 => hc j m (by omega) h2) (fun j m h1 h2 => hs j m (by omega) h2) (many + (g i).length) (hP _ _ hp hh) (by omega)
      have e : hit I many (segs g i (d + 1)) = hit I (many + (g i).length) (segs g (i + 1) d) := hit_app_none hh
      refine ⟨fun v hv => ?_, fun hn => ?_⟩
      · rw [e] at hv
        obtain ⟨ls', g3⟩ := ih.1 v hv
        exact ⟨ls', zwh_t c1 g1 g3⟩
      · rw [e] at hn
        have g3 := ih.2 hn
        rw [hl, ← Nat.add_assoc]
        exact zwh_t c1 g1 g3
theorem segs_len {g : Nat → List Nat} {b : Nat} : ∀ (d i : Nat), (∀ j, (g j).length ≤ b) → (segs g i d).length ≤ d * b
  | 0, i, _ => by simp [segs]
  | d + 1, i, h => by
    rw [segs, List.length_append, Nat.succ_mul]
    have := segs_len d (i + 1) h
    have := h i
    omega
theorem segs_map {g : Nat → List Nat} {f : Nat → Nat} : ∀ (d i : Nat), segs (fun j => (g j).map f) i d = (segs g i d).map f
  | 0, i => rfl
  | d + 1, i => by rw [segs, segs, List.map_append, segs_map]
theorem segs_congr {g h : Nat → List Nat} : ∀ (d i : Nat), (∀ j, i ≤ j → j < i + d → g j = h j) → segs g i d = segs h i d
  | 0, i, _ => rfl
  | d + 1, i, H => by rw [segs, segs, H i (Nat.le_refl _) (by omega), segs_congr d (i + 1) (fun j h1 h2 => H j (by omega) (by omega))]
theorem segs_mem {g : Nat → List Nat} {v : Nat} : ∀ (d i : Nat), v ∈ segs g i d → ∃ j, i ≤ j ∧ j < i + d ∧ v ∈ g j
  | 0, i, h => by simp [segs] at h
  | d + 1, i, h => by
    rw [segs] at h
    rcases List.mem_append.mp h with h1 | h1
    · exact ⟨i, Nat.le_refl _, by omega, h1⟩
    · obtain ⟨j, a, b, c⟩ := segs_mem d (i + 1) h1
      exact ⟨j, by omega, by omega, c⟩
theorem hit_mem {I : Int} {many v : Nat} {l : List Nat} (h : hit I many l = some v) : v ∈ l := by
  unfold hit at h
  split at h
  · rename_i g
    have hl : I.toNat - many < l.length := by omega
    rw [List.getD_eq_getElem?_getD, List.getElem?_eq_getElem hl] at h
    simp only [Option.getD_some, Option.some.injEq] at h
    rw [← h]
    exact List.getElem_mem hl
  · cases h
def sqB (c : tC) (a e b d : Nat) : Bool := decide (c a b = c e d) && decide (c a d = c e b)
def q4 (c : tC) (o a e b d : Nat) : List Nat := bif sqB c a e b d then [o + 8 * b + d] else []
def q3 (n : Nat) (c : tC) (o a e b : Nat) : List Nat := segs (q4 c o a e b) (b + 1) (n - (b + 1))
def q2 (n : Nat) (c : tC) (o a e : Nat) : List Nat := segs (q3 n c o a e) 1 (n - 1)
def q1 (n : Nat) (c : tC) (a : Nat) : List Nat := segs (fun e => q2 n c (512 * a + 64 * e) a e) (a + 1) (n - (a + 1))
def sqs (n : Nat) (c : tC) : List Nat := segs (q1 n c) 1 (n - 1)
theorem q4_len (c : tC) (o a e b d : Nat) : (q4 c o a e b d).length ≤ 1 := by
  unfold q4
  cases sqB c a e b d <;> simp
theorem q3_len {n : Nat} (h8 : n ≤ 8) (c : tC) (o a e b : Nat) : (q3 n c o a e b).length ≤ 8 := by
  have := segs_len (g := q4 c o a e b) (b := 1) (n - (b + 1)) (b + 1) (fun j => q4_len c o a e b j)
  unfold q3
  omega
theorem q2_len {n : Nat} (h8 : n ≤ 8) (c : tC) (o a e : Nat) : (q2 n c o a e).length ≤ 64 := by
  have := segs_len (g := q3 n c o a e) (b := 8) (n - 1) 1 (fun j => q3_len h8 c o a e j)
  unfold q2
  omega
theorem q1_len {n : Nat} (h8 : n ≤ 8) (c : tC) (a : Nat) : (q1 n c a).length ≤ 512 := by
  have := segs_len (g := fun e => q2 n c (512 * a + 64 * e) a e) (b := 64) (n - (a + 1)) (a + 1) (fun j => q2_len h8 c _ a j)
  unfold q1
  omega
theorem sqs_len {n : Nat} (h8 : n ≤ 8) (c : tC) : (sqs n c).length ≤ 4096 := by
  have := segs_len (g := q1 n c) (b := 512) (n - 1) 1 (fun j => q1_len h8 c j)
  unfold sqs
  omega
theorem hit_1 {I : Int} {many v : Nat} : hit I many [v] = if (many : Int) = I then some v else none := by
  unfold hit
  by_cases h : (many : Int) = I
  · rw [if_pos h, if_pos (by simp only [List.length_singleton]; omega)]
    have : I.toNat - many = 0 := by omega
    rw [this]
    rfl
  · rw [if_neg h, if_neg (by simp only [List.length_singleton]; omega)]
theorem zeqI {many : Nat} {x : Int32} (hm : many < 2 ^ 31) : xe_cd .eq (nI many) x = decide ((many : Int) = x.toInt) := by
  show decide (nI many = x) = _
  refine decide_eq_decide.mpr ?_
  rw [← Int32.toInt_inj, nI_toInt hm]
/-! the reference -/
theorem qM_sq4 {M : zM} {t n a e b : Nat} {c : tC} {x : Int32} (ht : t < 4) (h : rT M t n c) (h8 : n ≤ 8) (hf : tF n c) (ha : a < n) (he : e < n) (hb : b < n) (many : Nat) (hm : many + (q3 n c (512 * a + 64 * e) a e b).length ≤ 5000) : zsg (zwh zc_M_squares_4 zs_M_squares_4) [some (Value.ref (32)), some (Value.int (nI t)), some (Value.int (x)), some (Value.int (nI n)), some (Value.int (nI many)), some (Value.int (nI a)), some (Value.int (nI e)), some (Value.int (nI b)), some (Value.int (nI (b + 1)))] M x.toInt many (q3 n c (512 * a + 64 * e) a e b) (fun m => [some (Value.ref (32)), some (Value.int (nI t)), some (Value.int (x)), some (Value.int (nI n)), some (Value.int (nI m)), some (Value.int (nI a)), some (Value.int (nI e)), some (Value.int (nI b)), some (Value.int (nI n))]) := by
  have h6 : t < 6 := by omega
  refine zwh_seg (K := 5000) (fun _ => True) (fun _ _ _ _ => trivial) (fun j m => [some (Value.ref (32)), some (Value.int (nI t)), some (Value.int (x)), some (Value.int (nI n)), some (Value.int (nI m)), some (Value.int (nI a)), some (Value.int (nI e)), some (Value.int (nI b)), some (Value.int (nI j))]) (q4 c (512 * a + 64 * e) a e b) (n := n) ?_ (n - (b + 1)) (b + 1) (by omega) ?_ ?_ many trivial hm
  · intro m _ _
    simp (disch := omega) [zc_M_squares_4, zmeth, xm_en, zret, zretz, zretv, zseq, zst, zinc, zkl, zskip, zk, zi, za, zbin, zdiv, zrem, zgi, zgr, zld, zldr, zlen, zn, zc, zcall, zcallv, zrcv, zdo, zdov, zpf, zpfc, zas, zasc, zmin, zmax, zcmp, zcz, zand_e, zor_e, zite_e, zbite_e, zif_e, znot_e, z_add, z_sub, z_mul, z_and, z_or, z_xor, z_shl, z_shr, zcpy, -List.getElem?_cons_succ, zg_0, zg_1, zg_2, zg_3, zg_4, zg_5, zg_6, zg_7, zg_8, zg_9, zc_lt, zc_le, zc_gt, zc_ge, zc_eq, zc_ne, zc_lt0, zc_ge0, zc_gt0, zc_eq0, zc_ne0, zb_ne, zb_eq, zb_01, z_00, z_01, z_11, zb_f, zb_T, zb_F, zbm1, zbm2, zbm5, zbm6, zbm3, zbm4, nI_clamp, zmod_n, pk_div, nI_ne0, pk_mul, nI_add, nI_1]
  · intro j m _ h2 _ _
    simp (disch := omega) [zc_M_squares_4, zmeth, xm_en, zret, zretz, zretv, zseq, zst, zinc, zkl, zskip, zk, zi, za, zbin, zdiv, zrem, zgi, zgr, zld, zldr, zlen, zn, zc, zcall, zcallv, zrcv, zdo, zdov, zpf, zpfc, zas, zasc, zmin, zmax, zcmp, zcz, zand_e, zor_e, zite_e, zbite_e, zif_e, znot_e, z_add, z_sub, z_mul, z_and, z_or, z_xor, z_shl, z_shr, zcpy, -List.getElem?_cons_succ, zg_0, zg_1, zg_2, zg_3, zg_4, zg_5, zg_6, zg_7, zg_8, zg_9, zc_lt, zc_le, zc_gt, zc_ge, zc_eq, zc_ne, zc_lt0, zc_ge0, zc_gt0, zc_eq0, zc_ne0, zb_ne, zb_eq, zb_01, z_00, z_01, z_11, zb_f, zb_T, zb_F, zbm1, zbm2, zbm5, zbm6, zbm3, zbm4, nI_clamp, zmod_n, pk_div, nI_ne0, pk_mul, nI_add, nI_1, h2]
  · intro j m _ h2 _ hK
    have f1 := hf a b ha hb
    have f2 := hf e j he h2
    have f3 := hf a j ha h2
    have f4 := hf e b he hb
    have m1 := qM_mul h6 h h8 hf ha hb
    have m2 := qM_mul h6 h h8 hf he h2
    have m3 := qM_mul h6 h h8 hf ha h2
    have m4 := qM_mul h6 h h8 hf he hb
    have hm2 : m < 2 ^ 31 := by omega
    unfold q4
    cases hs : sqB c a e b j with
    | false =>
      refine ⟨fun v hv => (by rw [cond_false, hit_nil] at hv; cases hv), fun _ => ?_⟩
      unfold sqB at hs
      simp (disch := omega) [zs_M_squares_4, zmeth, xm_en, zret, zretz, zretv, zseq, zst, zinc, zkl, zskip, zk, zi, za, zbin, zdiv, zrem, zgi, zgr, zld, zldr, zlen, zn, zc, zcall, zcallv, zrcv, zdo, zdov, zpf, zpfc, zas, zasc, zmin, zmax, zcmp, zcz, zand_e, zor_e, zite_e, zbite_e, zif_e, znot_e, z_add, z_sub, z_mul, z_and, z_or, z_xor, z_shl, z_shr, zcpy, -List.getElem?_cons_succ, zg_0, zg_1, zg_2, zg_3, zg_4, zg_5, zg_6, zg_7, zg_8, zg_9, zc_lt, zc_le, zc_gt, zc_ge, zc_eq, zc_ne, zc_lt0, zc_ge0, zc_gt0, zc_eq0, zc_ne0, zb_ne, zb_eq, zb_01, z_00, z_01, z_11, zb_f, zb_T, zb_F, zbm1, zbm2, zbm5, zbm6, zbm3, zbm4, nI_clamp, zmod_n, pk_div, nI_ne0, pk_mul, nI_add, nI_1, zt_0, zt_12, zt_20, zt_26, zt_32, zf_0_0, zf_0_1, zf_0_2, zf_0_3, zf_0_4, zf_12_0, zf_12_1, zf_12_2, zf_12_4, zf_12_5, zf_20_1, zf_20_2, zf_20_3, zf_20_4, zf_20_6, zf_26_0, zf_26_1, zf_26_2, zf_26_3, zf_32_0, zf_32_1, zf_32_3, zf_32_4, zf_32_5, zf_32_6, m1, m2, m3, m4, hs]
    | true =>
      unfold sqB at hs
      rw [cond_true]
      by_cases hh : (m : Int) = x.toInt
      · refine ⟨fun v hv => ?_, fun hn => ?_⟩
        · rw [hit_1, if_pos hh] at hv
          cases hv
          refine ⟨[some (Value.ref (32)), some (Value.int (nI t)), some (Value.int (x)), some (Value.int (nI n)), some (Value.int (nI m)), some (Value.int (nI a)), some (Value.int (nI e)), some (Value.int (nI b)), some (Value.int (nI j))], ?_⟩
          simp (disch := omega) [zs_M_squares_4, zmeth, xm_en, zret, zretz, zretv, zseq, zst, zinc, zkl, zskip, zk, zi, za, zbin, zdiv, zrem, zgi, zgr, zld, zldr, zlen, zn, zc, zcall, zcallv, zrcv, zdo, zdov, zpf, zpfc, zas, zasc, zmin, zmax, zcmp, zcz, zand_e, zor_e, zite_e, zbite_e, zif_e, znot_e, z_add, z_sub, z_mul, z_and, z_or, z_xor, z_shl, z_shr, zcpy, -List.getElem?_cons_succ, zg_0, zg_1, zg_2, zg_3, zg_4, zg_5, zg_6, zg_7, zg_8, zg_9, zc_lt, zc_le, zc_gt, zc_ge, zc_eq, zc_ne, zc_lt0, zc_ge0, zc_gt0, zc_eq0, zc_ne0, zb_ne, zb_eq, zb_01, z_00, z_01, z_11, zb_f, zb_T, zb_F, zbm1, zbm2, zbm5, zbm6, zbm3, zbm4, nI_clamp, zmod_n, pk_div, nI_ne0, pk_mul, nI_add, nI_1, zt_0, zt_12, zt_20, zt_26, zt_32, zf_0_0, zf_0_1, zf_0_2, zf_0_3, zf_0_4, zf_12_0, zf_12_1, zf_12_2, zf_12_4, zf_12_5, zf_20_1, zf_20_2, zf_20_3, zf_20_4, zf_20_6, zf_26_0, zf_26_1, zf_26_2, zf_26_3, zf_32_0, zf_32_1, zf_32_3, zf_32_4, zf_32_5, zf_32_6, m1, m2, m3, m4, hs, zeqI hm2, hh, Nat.add_assoc]
        · rw [hit_1, if_pos hh] at hn
          cases hn
      · refine ⟨fun v hv => ?_, fun hn => ?_⟩
        · rw [hit_1, if_neg hh] at hv
          cases hv
        · simp (disch := omega) [zs_M_squares_4, zmeth, xm_en, zret, zretz, zretv, zseq, zst, zinc, zkl, zskip, zk, zi, za, zbin, zdiv, zrem, zgi, zgr, zld, zldr, zlen, zn, zc, zcall, zcallv, zrcv, zdo, zdov, zpf, zpfc, zas, zasc, zmin, zmax, zcmp, zcz, zand_e, zor_e, zite_e, zbite_e, zif_e, znot_e, z_add, z_sub, z_mul, z_and, z_or, z_xor, z_shl, z_shr, zcpy, -List.getElem?_cons_succ, zg_0, zg_1, zg_2, zg_3, zg_4, zg_5, zg_6, zg_7, zg_8, zg_9, zc_lt, zc_le, zc_gt, zc_ge, zc_eq, zc_ne, zc_lt0, zc_ge0, zc_gt0, zc_eq0, zc_ne0, zb_ne, zb_eq, zb_01, z_00, z_01, z_11, zb_f, zb_T, zb_F, zbm1, zbm2, zbm5, zbm6, zbm3, zbm4, nI_clamp, zmod_n, pk_div, nI_ne0, pk_mul, nI_add, nI_1, zt_0, zt_12, zt_20, zt_26, zt_32, zf_0_0, zf_0_1, zf_0_2, zf_0_3, zf_0_4, zf_12_0, zf_12_1, zf_12_2, zf_12_4, zf_12_5, zf_20_1, zf_20_2, zf_20_3, zf_20_4, zf_20_6, zf_26_0, zf_26_1, zf_26_2, zf_26_3, zf_32_0, zf_32_1, zf_32_3, zf_32_4, zf_32_5, zf_32_6, m1, m2, m3, m4, hs, zeqI hm2, hh]
theorem zsg_kl {s : zS} {ls ls0 : zL} {N : zM} {I : Int} {many k i : Nat} {seg : List Nat} {e : zE} {v : Value} {aft aft2 : Nat → zL} (he : e ls N = some (v, N)) (hi : i < ls.length) (hl : ls.set i (some v) = ls0) (h : zsg s ls0 N I many seg aft) (ha : ∀ m, (aft m).take k ++ List.replicate ((aft m).length - k) none = aft2 m) : zsg (zkl k (zseq (zst i e) s)) ls N I many seg aft2 := by
  refine ⟨fun w hw => ?_, fun hn => ?_⟩
  · obtain ⟨ls', g⟩ := h.1 w hw
    refine ⟨ls', ?_⟩
    simp only [zkl, zseq, zst, he, if_pos hi, hl, g]
  · have g := h.2 hn
    simp only [zkl, zseq, zst, he, if_pos hi, hl, g, ha]
theorem zsg_inc {s : zS} {ls : zL} {N : zM} {I : Int} {many i j : Nat} {seg : List Nat} {aft aft2 : Nat → zL} (h : zsg s ls N I many seg aft) (h1 : ∀ m, (aft m)[i]? = some (some (.int (nI j)))) (h2 : ∀ m, (aft m).set i (some (.int (nI (j + 1)))) = aft2 m) : zsg (zseq s (zinc i 1)) ls N I many seg aft2 := by
  refine ⟨fun w hw => ?_, fun hn => ?_⟩
  · obtain ⟨ls', g⟩ := h.1 w hw
    refine ⟨ls', ?_⟩
    simp only [zseq, g]
  · have g := h.2 hn
    simp only [zseq, g, zinc, h1, nI_1, h2]
theorem qM_sq3 {M : zM} {t n a e : Nat} {c : tC} {x : Int32} (ht : t < 4) (h : rT M t n c) (h1n : 1 ≤ n) (h8 : n ≤ 8) (hf : tF n c) (ha : a < n) (he : e < n) (many : Nat) (hm : many + (q2 n c (512 * a + 64 * e) a e).length ≤ 5000) : zsg (zwh zc_M_squares_3 zs_M_squares_3) [some (Value.ref (32)), some (Value.int (nI t)), some (Value.int (x)), some (Value.int (nI n)), some (Value.int (nI many)), some (Value.int (nI a)), some (Value.int (nI e)), some (Value.int (nI 1)), none] M x.toInt many (q2 n c (512 * a + 64 * e) a e) (fun m => [some (Value.ref (32)), some (Value.int (nI t)), some (Value.int (x)), some (Value.int (nI n)), some (Value.int (nI m)), some (Value.int (nI a)), some (Value.int (nI e)), some (Value.int (nI n)), none]) := by
  refine zwh_seg (K := 5000) (fun _ => True) (fun _ _ _ _ => trivial) (fun j m => [some (Value.ref (32)), some (Value.int (nI t)), some (Value.int (x)), some (Value.int (nI n)), some (Value.int (nI m)), some (Value.int (nI a)), some (Value.int (nI e)), some (Value.int (nI j)), none]) (q3 n c (512 * a + 64 * e) a e) (n := n) ?_ (n - 1) 1 (by omega) ?_ ?_ many trivial hm
  · intro m _ _
    simp (disch := omega) [zc_M_squares_3, zmeth, xm_en, zret, zretz, zretv, zseq, zst, zinc, zkl, zskip, zk, zi, za, zbin, zdiv, zrem, zgi, zgr, zld, zldr, zlen, zn, zc, zcall, zcallv, zrcv, zdo, zdov, zpf, zpfc, zas, zasc, zmin, zmax, zcmp, zcz, zand_e, zor_e, zite_e, zbite_e, zif_e, znot_e, z_add, z_sub, z_mul, z_and, z_or, z_xor, z_shl, z_shr, zcpy, -List.getElem?_cons_succ, zg_0, zg_1, zg_2, zg_3, zg_4, zg_5, zg_6, zg_7, zg_8, zg_9, zc_lt, zc_le, zc_gt, zc_ge, zc_eq, zc_ne, zc_lt0, zc_ge0, zc_gt0, zc_eq0, zc_ne0, zb_ne, zb_eq, zb_01, z_00, z_01, z_11, zb_f, zb_T, zb_F, zbm1, zbm2, zbm5, zbm6, zbm3, zbm4, nI_clamp, zmod_n, pk_div, nI_ne0, pk_mul, nI_add, nI_1]
  · intro j m _ h2 _ _
    simp (disch := omega) [zc_M_squares_3, zmeth, xm_en, zret, zretz, zretv, zseq, zst, zinc, zkl, zskip, zk, zi, za, zbin, zdiv, zrem, zgi, zgr, zld, zldr, zlen, zn, zc, zcall, zcallv, zrcv, zdo, zdov, zpf, zpfc, zas, zasc, zmin, zmax, zcmp, zcz, zand_e, zor_e, zite_e, zbite_e, zif_e, znot_e, z_add, z_sub, z_mul, z_and, z_or, z_xor, z_shl, z_shr, zcpy, -List.getElem?_cons_succ, zg_0, zg_1, zg_2, zg_3, zg_4, zg_5, zg_6, zg_7, zg_8, zg_9, zc_lt, zc_le, zc_gt, zc_ge, zc_eq, zc_ne, zc_lt0, zc_ge0, zc_gt0, zc_eq0, zc_ne0, zb_ne, zb_eq, zb_01, z_00, z_01, z_11, zb_f, zb_T, zb_F, zbm1, zbm2, zbm5, zbm6, zbm3, zbm4, nI_clamp, zmod_n, pk_div, nI_ne0, pk_mul, nI_add, nI_1, h2]
  · intro j m _ h2 _ hK
    refine zsg_inc (zsg_kl (v := .int (nI (j + 1))) ?_ ?_ rfl (qM_sq4 ht h h8 hf ha he h2 m hK) (fun m => rfl)) (fun m => rfl) (fun m => rfl)
    · simp (disch := omega) [zmeth, xm_en, zret, zretz, zretv, zseq, zst, zinc, zkl, zskip, zk, zi, za, zbin, zdiv, zrem, zgi, zgr, zld, zldr, zlen, zn, zc, zcall, zcallv, zrcv, zdo, zdov, zpf, zpfc, zas, zasc, zmin, zmax, zcmp, zcz, zand_e, zor_e, zite_e, zbite_e, zif_e, znot_e, z_add, z_sub, z_mul, z_and, z_or, z_xor, z_shl, z_shr, zcpy, -List.getElem?_cons_succ, zg_0, zg_1, zg_2, zg_3, zg_4, zg_5, zg_6, zg_7, zg_8, zg_9, zc_lt, zc_le, zc_gt, zc_ge, zc_eq, zc_ne, zc_lt0, zc_ge0, zc_gt0, zc_eq0, zc_ne0, zb_ne, zb_eq, zb_01, z_00, z_01, z_11, zb_f, zb_T, zb_F, zbm1, zbm2, zbm5, zbm6, zbm3, zbm4, nI_clamp, zmod_n, pk_div, nI_ne0, pk_mul, nI_add, nI_1]
    · exact Nat.le_of_ble_eq_true rfl
theorem qM_sq2 {M : zM} {t n a : Nat} {c : tC} {x : Int32} (ht : t < 4) (h : rT M t n c) (h1n : 1 ≤ n) (h8 : n ≤ 8) (hf : tF n c) (ha : a < n) (many : Nat) (hm : many + (q1 n c a).length ≤ 5000) : zsg (zwh zc_M_squares_2 zs_M_squares_2) [some (Value.ref (32)), some (Value.int (nI t)), some (Value.int (x)), some (Value.int (nI n)), some (Value.int (nI many)), some (Value.int (nI a)), some (Value.int (nI (a + 1))), none, none] M x.toInt many (q1 n c a) (fun m => [some (Value.ref (32)), some (Value.int (nI t)), some (Value.int (x)), some (Value.int (nI n)), some (Value.int (nI m)), some (Value.int (nI a)), some (Value.int (nI n)), none, none]) := by
  refine zwh_seg (K := 5000) (fun _ => True) (fun _ _ _ _ => trivial) (fun j m => [some (Value.ref (32)), some (Value.int (nI t)), some (Value.int (x)), some (Value.int (nI n)), some (Value.int (nI m)), some (Value.int (nI a)), some (Value.int (nI j)), none, none]) (fun e => q2 n c (512 * a + 64 * e) a e) (n := n) ?_ (n - (a + 1)) (a + 1) (by omega) ?_ ?_ many trivial hm
  · intro m _ _
    simp (disch := omega) [zc_M_squares_2, zmeth, xm_en, zret, zretz, zretv, zseq, zst, zinc, zkl, zskip, zk, zi, za, zbin, zdiv, zrem, zgi, zgr, zld, zldr, zlen, zn, zc, zcall, zcallv, zrcv, zdo, zdov, zpf, zpfc, zas, zasc, zmin, zmax, zcmp, zcz, zand_e, zor_e, zite_e, zbite_e, zif_e, znot_e, z_add, z_sub, z_mul, z_and, z_or, z_xor, z_shl, z_shr, zcpy, -List.getElem?_cons_succ, zg_0, zg_1, zg_2, zg_3, zg_4, zg_5, zg_6, zg_7, zg_8, zg_9, zc_lt, zc_le, zc_gt, zc_ge, zc_eq, zc_ne, zc_lt0, zc_ge0, zc_gt0, zc_eq0, zc_ne0, zb_ne, zb_eq, zb_01, z_00, z_01, z_11, zb_f, zb_T, zb_F, zbm1, zbm2, zbm5, zbm6, zbm3, zbm4, nI_clamp, zmod_n, pk_div, nI_ne0, pk_mul, nI_add, nI_1]
  · intro j m _ h2 _ _
    simp (disch := omega) [zc_M_squares_2, zmeth, xm_en, zret, zretz, zretv, zseq, zst, zinc, zkl, zskip, zk, zi, za, zbin, zdiv, zrem, zgi, zgr, zld, zldr, zlen, zn, zc, zcall, zcallv, zrcv, zdo, zdov, zpf, zpfc, zas, zasc, zmin, zmax, zcmp, zcz, zand_e, zor_e, zite_e, zbite_e, zif_e, znot_e, z_add, z_sub, z_mul, z_and, z_or, z_xor, z_shl, z_shr, zcpy, -List.getElem?_cons_succ, zg_0, zg_1, zg_2, zg_3, zg_4, zg_5, zg_6, zg_7, zg_8, zg_9, zc_lt, zc_le, zc_gt, zc_ge, zc_eq, zc_ne, zc_lt0, zc_ge0, zc_gt0, zc_eq0, zc_ne0, zb_ne, zb_eq, zb_01, z_00, z_01, z_11, zb_f, zb_T, zb_F, zbm1, zbm2, zbm5, zbm6, zbm3, zbm4, nI_clamp, zmod_n, pk_div, nI_ne0, pk_mul, nI_add, nI_1, h2]
  · intro j m _ h2 _ hK
    refine zsg_inc (zsg_kl (v := .int (nI 1)) rfl ?_ rfl (qM_sq3 ht h h1n h8 hf ha h2 m hK) (fun m => rfl)) (fun m => rfl) (fun m => rfl)
    exact Nat.le_of_ble_eq_true rfl
theorem qM_sq1 {M : zM} {t n : Nat} {c : tC} {x : Int32} (ht : t < 4) (h : rT M t n c) (h1n : 1 ≤ n) (h8 : n ≤ 8) (hf : tF n c) : zsg (zwh zc_M_squares_1 zs_M_squares_1) [some (Value.ref (32)), some (Value.int (nI t)), some (Value.int (x)), some (Value.int (nI n)), some (Value.int (nI 0)), some (Value.int (nI 1)), none, none, none] M x.toInt 0 (sqs n c) (fun m => [some (Value.ref (32)), some (Value.int (nI t)), some (Value.int (x)), some (Value.int (nI n)), some (Value.int (nI m)), some (Value.int (nI n)), none, none, none]) := by
  refine zwh_seg (K := 5000) (fun _ => True) (fun _ _ _ _ => trivial) (fun j m => [some (Value.ref (32)), some (Value.int (nI t)), some (Value.int (x)), some (Value.int (nI n)), some (Value.int (nI m)), some (Value.int (nI j)), none, none, none]) (q1 n c) (n := n) ?_ (n - 1) 1 (by omega) ?_ ?_ 0 trivial (by have := sqs_len h8 c; unfold sqs at this; omega)
  · intro m _ _
    simp (disch := omega) [zc_M_squares_1, zmeth, xm_en, zret, zretz, zretv, zseq, zst, zinc, zkl, zskip, zk, zi, za, zbin, zdiv, zrem, zgi, zgr, zld, zldr, zlen, zn, zc, zcall, zcallv, zrcv, zdo, zdov, zpf, zpfc, zas, zasc, zmin, zmax, zcmp, zcz, zand_e, zor_e, zite_e, zbite_e, zif_e, znot_e, z_add, z_sub, z_mul, z_and, z_or, z_xor, z_shl, z_shr, zcpy, -List.getElem?_cons_succ, zg_0, zg_1, zg_2, zg_3, zg_4, zg_5, zg_6, zg_7, zg_8, zg_9, zc_lt, zc_le, zc_gt, zc_ge, zc_eq, zc_ne, zc_lt0, zc_ge0, zc_gt0, zc_eq0, zc_ne0, zb_ne, zb_eq, zb_01, z_00, z_01, z_11, zb_f, zb_T, zb_F, zbm1, zbm2, zbm5, zbm6, zbm3, zbm4, nI_clamp, zmod_n, pk_div, nI_ne0, pk_mul, nI_add, nI_1]
  · intro j m _ h2 _ _
    simp (disch := omega) [zc_M_squares_1, zmeth, xm_en, zret, zretz, zretv, zseq, zst, zinc, zkl, zskip, zk, zi, za, zbin, zdiv, zrem, zgi, zgr, zld, zldr, zlen, zn, zc, zcall, zcallv, zrcv, zdo, zdov, zpf, zpfc, zas, zasc, zmin, zmax, zcmp, zcz, zand_e, zor_e, zite_e, zbite_e, zif_e, znot_e, z_add, z_sub, z_mul, z_and, z_or, z_xor, z_shl, z_shr, zcpy, -List.getElem?_cons_succ, zg_0, zg_1, zg_2, zg_3, zg_4, zg_5, zg_6, zg_7, zg_8, zg_9, zc_lt, zc_le, zc_gt, zc_ge, zc_eq, zc_ne, zc_lt0, zc_ge0, zc_gt0, zc_eq0, zc_ne0, zb_ne, zb_eq, zb_01, z_00, z_01, z_11, zb_f, zb_T, zb_F, zbm1, zbm2, zbm5, zbm6, zbm3, zbm4, nI_clamp, zmod_n, pk_div, nI_ne0, pk_mul, nI_add, nI_1, h2]
  · intro j m _ h2 _ hK
    refine zsg_inc (zsg_kl (v := .int (nI (j + 1))) ?_ ?_ rfl (qM_sq2 ht h h1n h8 hf h2 m hK) (fun m => rfl)) (fun m => rfl) (fun m => rfl)
    · simp (disch := omega) [zmeth, xm_en, zret, zretz, zretv, zseq, zst, zinc, zkl, zskip, zk, zi, za, zbin, zdiv, zrem, zgi, zgr, zld, zldr, zlen, zn, zc, zcall, zcallv, zrcv, zdo, zdov, zpf, zpfc, zas, zasc, zmin, zmax, zcmp, zcz, zand_e, zor_e, zite_e, zbite_e, zif_e, znot_e, z_add, z_sub, z_mul, z_and, z_or, z_xor, z_shl, z_shr, zcpy, -List.getElem?_cons_succ, zg_0, zg_1, zg_2, zg_3, zg_4, zg_5, zg_6, zg_7, zg_8, zg_9, zc_lt, zc_le, zc_gt, zc_ge, zc_eq, zc_ne, zc_lt0, zc_ge0, zc_gt0, zc_eq0, zc_ne0, zb_ne, zb_eq, zb_01, z_00, z_01, z_11, zb_f, zb_T, zb_F, zbm1, zbm2, zbm5, zbm6, zbm3, zbm4, nI_clamp, zmod_n, pk_div, nI_ne0, pk_mul, nI_add, nI_1]
    · exact Nat.le_of_ble_eq_true rfl
/-- the i-th square, by the code's number; NONE -/
def aSq (n : Nat) (c : tC) (x : Int32) : Int32 := match hit x.toInt 0 (sqs n c) with
  | some v => nI v
  | none => if x < 0 then nI (sqs n c).length else -4
theorem qM_squares {M : zM} {t n : Nat} {c : tC} {x : Int32} (ht : t < 4) (h : rT M t n c) (h1n : 1 ≤ n) (h8 : n ≤ 8) (hf : tF n c) : zf_M_squares [.ref 32, .int (nI t), .int x] M = some (some (aSq n c x), M) := by
  have R := qM_sq1 (x := x) ht h h1n h8 hf
  unfold aSq
  cases hh : hit x.toInt 0 (sqs n c) with
  | some v =>
    obtain ⟨ls', g⟩ := R.1 v hh
    simp (disch := omega) [zf_M_squares, zmeth, xm_en, zret, zretz, zretv, zseq, zst, zinc, zkl, zskip, zk, zi, za, zbin, zdiv, zrem, zgi, zgr, zld, zldr, zlen, zn, zc, zcall, zcallv, zrcv, zdo, zdov, zpf, zpfc, zas, zasc, zmin, zmax, zcmp, zcz, zand_e, zor_e, zite_e, zbite_e, zif_e, znot_e, z_add, z_sub, z_mul, z_and, z_or, z_xor, z_shl, z_shr, zcpy, -List.getElem?_cons_succ, zg_0, zg_1, zg_2, zg_3, zg_4, zg_5, zg_6, zg_7, zg_8, zg_9, zt_0, zt_12, zt_20, zt_26, zt_32, zf_0_0, zf_0_1, zf_0_2, zf_0_3, zf_0_4, zf_12_0, zf_12_1, zf_12_2, zf_12_4, zf_12_5, zf_20_1, zf_20_2, zf_20_3, zf_20_4, zf_20_6, zf_26_0, zf_26_1, zf_26_2, zf_26_3, zf_32_0, zf_32_1, zf_32_3, zf_32_4, zf_32_5, zf_32_6, zi_33, nI_clamp, h.1, g]
  | none =>
    have g := R.2 hh
    have e : xe_cd .lt x 0 = decide (x < 0) := rfl
    by_cases hx : x < 0
    · simp (disch := omega) [zf_M_squares, zmeth, xm_en, zret, zretz, zretv, zseq, zst, zinc, zkl, zskip, zk, zi, za, zbin, zdiv, zrem, zgi, zgr, zld, zldr, zlen, zn, zc, zcall, zcallv, zrcv, zdo, zdov, zpf, zpfc, zas, zasc, zmin, zmax, zcmp, zcz, zand_e, zor_e, zite_e, zbite_e, zif_e, znot_e, z_add, z_sub, z_mul, z_and, z_or, z_xor, z_shl, z_shr, zcpy, -List.getElem?_cons_succ, zg_0, zg_1, zg_2, zg_3, zg_4, zg_5, zg_6, zg_7, zg_8, zg_9, zt_0, zt_12, zt_20, zt_26, zt_32, zf_0_0, zf_0_1, zf_0_2, zf_0_3, zf_0_4, zf_12_0, zf_12_1, zf_12_2, zf_12_4, zf_12_5, zf_20_1, zf_20_2, zf_20_3, zf_20_4, zf_20_6, zf_26_0, zf_26_1, zf_26_2, zf_26_3, zf_32_0, zf_32_1, zf_32_3, zf_32_4, zf_32_5, zf_32_6, zi_33, nI_clamp, h.1, g, e, hx]
    · simp (disch := omega) [zf_M_squares, zmeth, xm_en, zret, zretz, zretv, zseq, zst, zinc, zkl, zskip, zk, zi, za, zbin, zdiv, zrem, zgi, zgr, zld, zldr, zlen, zn, zc, zcall, zcallv, zrcv, zdo, zdov, zpf, zpfc, zas, zasc, zmin, zmax, zcmp, zcz, zand_e, zor_e, zite_e, zbite_e, zif_e, znot_e, z_add, z_sub, z_mul, z_and, z_or, z_xor, z_shl, z_shr, zcpy, -List.getElem?_cons_succ, zg_0, zg_1, zg_2, zg_3, zg_4, zg_5, zg_6, zg_7, zg_8, zg_9, zt_0, zt_12, zt_20, zt_26, zt_32, zf_0_0, zf_0_1, zf_0_2, zf_0_3, zf_0_4, zf_12_0, zf_12_1, zf_12_2, zf_12_4, zf_12_5, zf_20_1, zf_20_2, zf_20_3, zf_20_4, zf_20_6, zf_26_0, zf_26_1, zf_26_2, zf_26_3, zf_32_0, zf_32_1, zf_32_3, zf_32_4, zf_32_5, zf_32_6, zi_33, nI_clamp, h.1, g, e, hx]
