/-! the class's endings: filling -/
theorem mRow_t {n a v : Nat} {c : tC} : (mRow n c a).testBit v = true ↔ v < 8 ∧ ∃ y, y < n ∧ c a y = v := by
  unfold mRow
  rw [zim_t, zany_t]
  simp only [Bool.and_eq_true, decide_eq_true_eq]
  constructor
  · rintro ⟨i, hi, h1, h2⟩
    exact ⟨by omega, i, hi, h2⟩
  · rintro ⟨h1, i, hi, h2⟩
    exact ⟨i, hi, by omega, h2⟩
theorem mCol_t {n b v : Nat} {c : tC} : (mCol n c b).testBit v = true ↔ v < 8 ∧ ∃ x, x < n ∧ c x b = v := by
  unfold mCol
  rw [zim_t, zany_t]
  simp only [Bool.and_eq_true, decide_eq_true_eq]
  constructor
  · rintro ⟨i, hi, h1, h2⟩
    exact ⟨by omega, i, hi, h2⟩
  · rintro ⟨h1, i, hi, h2⟩
    exact ⟨i, hi, by omega, h2⟩
theorem okv_m {n a b v h : Nat} {c : tC} (eh : h = 8 * a + b) (hb : b < 8) (hv : v < 8) : okv n c h v = !((mRow n c a ||| mCol n c b).testBit v) := by
  have e1 : h / 8 = a := by omega
  have e2 : h % 8 = b := by omega
  rw [Bool.eq_iff_iff, Bool.not_eq_true', ← Bool.not_eq_true, Nat.testBit_or, Bool.or_eq_true, mRow_t, mCol_t]
  unfold okv
  rw [zall_t, e1, e2]
  simp only [Bool.and_eq_true, Bool.not_eq_true', decide_eq_false_iff_not]
  constructor
  · rintro g (⟨-, y, hy, q⟩ | ⟨-, y, hy, q⟩)
    · exact (g y hy).1 q
    · exact (g y hy).2 q
  · intro g i hi
    exact ⟨fun q => g (Or.inl ⟨hv, i, hi, q⟩), fun q => g (Or.inr ⟨hv, i, hi, q⟩)⟩
theorem mRow_cs {n a b v : Nat} {c : tC} (hb : b < n) (hv : v < 8) (hc : c a b = 8) : mRow n (cset c a b v) a = mRow n c a ||| 2 ^ v := by
  refine tb_ext (fun w => ?_)
  rw [Nat.testBit_or, Bool.or_eq_true, mRow_t, mRow_t, Nat.testBit_two_pow, decide_eq_true_eq]
  unfold cset
  constructor
  · rintro ⟨h1, y, hy, q⟩
    split at q
    · exact Or.inr q
    · exact Or.inl ⟨h1, y, hy, q⟩
  · rintro (⟨h1, y, hy, q⟩ | q)
    · refine ⟨h1, y, hy, ?_⟩
      rw [if_neg ?_]
      · exact q
      · rintro ⟨-, rfl⟩
        omega
    · exact ⟨by omega, b, hb, by rw [if_pos ⟨rfl, rfl⟩]; exact q⟩
theorem mCol_cs {n a b v : Nat} {c : tC} (ha : a < n) (hv : v < 8) (hc : c a b = 8) : mCol n (cset c a b v) b = mCol n c b ||| 2 ^ v := by
  refine tb_ext (fun w => ?_)
  rw [Nat.testBit_or, Bool.or_eq_true, mCol_t, mCol_t, Nat.testBit_two_pow, decide_eq_true_eq]
  unfold cset
  constructor
  · rintro ⟨h1, y, hy, q⟩
    split at q
    · exact Or.inr q
    · exact Or.inl ⟨h1, y, hy, q⟩
  · rintro (⟨h1, y, hy, q⟩ | q)
    · refine ⟨h1, y, hy, ?_⟩
      rw [if_neg ?_]
      · exact q
      · rintro ⟨rfl, -⟩
        omega
    · exact ⟨by omega, a, ha, by rw [if_pos ⟨rfl, rfl⟩]; exact q⟩
theorem mRow_ne {n a b v x : Nat} {c : tC} (hx : x ≠ a) : mRow n (cset c a b v) x = mRow n c x := by
  unfold mRow cset
  refine zim_congr (fun i _ => by rw [if_neg (by omega)]) (fun i _ => by rw [if_neg (by omega)])
theorem mCol_ne {n a b v y : Nat} {c : tC} (hy : y ≠ b) : mCol n (cset c a b v) y = mCol n c y := by
  unfold mCol cset
  refine zim_congr (fun i _ => by rw [if_neg (by omega)]) (fun i _ => by rw [if_neg (by omega)])
theorem unbit : ∀ s, s < 256 → ∀ v, v < 8 → s.testBit v = false → nI (s ||| 2 ^ v) &&& ~~~nI (2 ^ v) = nI s := by decide +kernel
theorem and_bit (s v : Nat) : s &&& 2 ^ v = bif s.testBit v then 2 ^ v else 0 := by
  refine tb_ext (fun w => ?_)
  rw [Nat.testBit_and, Bool.and_eq_true, Nat.testBit_two_pow, decide_eq_true_eq]
  constructor
  · rintro ⟨h1, rfl⟩
    rw [h1, cond_true, Nat.testBit_two_pow]
    simp
  · intro h
    cases hs : s.testBit v with
    | false => rw [hs] at h; simp at h
    | true =>
      rw [hs, cond_true, Nat.testBit_two_pow, decide_eq_true_eq] at h
      subst h
      exact ⟨hs, rfl⟩
def KF (M : zM) (n : Nat) (H hs : List Nat) (c : tC) (most f : Nat) : Prop := M 15 0 = nI n ∧ (M 12 3 = nI H.length ∧ ∀ i, i < H.length → M 17 i = nI (H.getD i 0)) ∧ ((∀ a, a < n → M 18 a = nI (mRow n c a)) ∧ ∀ b, b < n → M 19 b = nI (mCol n c b)) ∧ (∀ a b, a < n → b < n → 8 * a + b ∉ hs → M 16 (8 * a + b) = zcl (-1) (c a b)) ∧ M 12 6 = nI f ∧ M 12 7 = nI most
def FR (M M' : zM) : Prop := ∀ q j, q ≠ 13 → q ≠ 14 → q ≠ 16 → q ≠ 18 → q ≠ 19 → ¬ (q = 12 ∧ j = 6) → M' q j = M q j
/-- what comes of the first table: R was found, f before it -/
def FT (M M' : zM) (n f : Nat) (R : List tC) (c : tC) : Prop := (f = 0 → R ≠ [] → kT M' 13 n (R.getD 0 c)) ∧ (f ≠ 0 ∨ R = [] → ∀ j, M' 13 j = M 13 j ∧ M' 14 j = M 14 j)
theorem FR.trans {M M1 M2 : zM} (h : FR M M1) (h2 : FR M1 M2) : FR M M2 := fun q j a b c d e f => (h2 q j a b c d e f).trans (h q j a b c d e f)
theorem FT.app {M M1 M2 : zM} {n f f1 : Nat} {R1 R2 : List tC} {c d : tC} (h1 : FT M M1 n f R1 c) (h2 : FT M1 M2 n f1 R2 d) (e : f1 = 0 ↔ f = 0 ∧ R1 = []) : FT M M2 n f (R1 ++ R2) c := by
  refine ⟨fun hf hR => ?_, fun hq j => ?_⟩
  · by_cases g : R1 = []
    · subst g
      have h3 := h2.1 (e.mpr ⟨hf, rfl⟩) (by simpa using hR)
      have hl : 0 < R2.length := List.length_pos_iff.mpr (by simpa using hR)
      rw [List.nil_append, getD_d (e := d) hl]
      exact h3
    · have h3 := h1.1 hf g
      have h4 := h2.2 (Or.inl (fun q => g (e.mp q).2))
      rw [getD_l (List.length_pos_iff.mpr g)]
      exact h3.same (fun j => (h4 j).1) (fun j => (h4 j).2)
  · have q1 : f ≠ 0 ∨ R1 = [] := by
      rcases hq with q | q
      · exact Or.inl q
      · exact Or.inr (List.append_eq_nil_iff.mp q).1
    have q2 : f1 ≠ 0 ∨ R2 = [] := by
      rcases hq with q | q
      · exact Or.inl (fun z => q (e.mp z).1)
      · exact Or.inr (List.append_eq_nil_iff.mp q).2
    have a1 := h1.2 q1 j
    have a2 := h2.2 q2 j
    exact ⟨a2.1.trans a1.1, a2.2.trans a1.2⟩
theorem fl_leaf {M : zM} {n most f k fuel : Nat} {H : List Nat} {c : tC} (h8 : n ≤ 8) (hk : k = H.length) (hH : H.length < 64) (hm : most < 2 ^ 30) (hf : f < most) (h : KF M n H [] c most f) : ∃ M', zf_Endings_fill (fuel + 1) [.ref 12, .int (nI k)] M = some (none, M') ∧ KF M' n H [] c most (f + 1) ∧ FR M M' ∧ FT M M' n f [c] c := by
  subst hk
  obtain ⟨g1, ⟨g2, g3⟩, ⟨g4, g5⟩, g6, g7, g8⟩ := h
  have k15 : kT M 15 n c := ⟨g1, fun a b ha hb => g6 a b ha hb List.not_mem_nil⟩
  by_cases hz : f = 0
  · subst hz
    have e6 : zto M 13 15 12 6 = nI 0 := by unfold zto; rw [if_neg (by omega), if_neg (by omega)]; exact g7
    refine ⟨zup (zto M 13 15) 12 6 (nI 1), ?_, ⟨?_, ⟨?_, fun i hi => ?_⟩, ⟨fun a ha => ?_, fun b hb => ?_⟩, fun a b ha hb hn => ?_, ?_, ?_⟩, fun q j q1 q2 q3 q4 q5 q6 => ?_, ⟨fun _ _ => ?_, fun q => ?_⟩⟩
    · simp (disch := omega) [zf_Endings_fill, zf_Endings_keepFound, zmeth, xm_en, zret, zretz, zretv, zseq, zst, zinc, zkl, zskip, zk, zi, za, zbin, zdiv, zrem, zgi, zgr, zld, zldr, zlen, zn, zc, zcall, zcallv, zrcv, zdo, zdov, zpf, zpfc, zas, zasc, zmin, zmax, zcmp, zcz, zand_e, zor_e, zite_e, zbite_e, zif_e, znot_e, z_add, z_sub, z_mul, z_and, z_or, z_xor, z_shl, z_shr, zcpy, -List.getElem?_cons_succ, zg_0, zg_1, zg_2, zg_3, zg_4, zg_5, zg_6, zg_7, zg_8, zg_9, zc_lt, zc_le, zc_gt, zc_ge, zc_eq, zc_ne, zc_lt0, zc_ge0, zc_gt0, zc_eq0, zc_ne0, zb_ne, zb_eq, zb_01, z_00, z_01, z_11, zb_f, zb_T, zb_F, zbm1, zbm2, zbm5, zbm6, zbm3, zbm4, nI_clamp, zmod_n, pk_div, nI_ne0, pk_mul, nI_add, nI_1, zt_0, zt_12, zt_20, zt_26, zt_32, zf_0_0, zf_0_1, zf_0_2, zf_0_3, zf_0_4, zf_12_0, zf_12_1, zf_12_2, zf_12_4, zf_12_5, zf_20_1, zf_20_2, zf_20_3, zf_20_4, zf_20_6, zf_26_0, zf_26_1, zf_26_2, zf_26_3, zf_32_0, zf_32_1, zf_32_3, zf_32_4, zf_32_5, zf_32_6, g2, g7, ztb_tag tb13, qT_takeOver tb13 tb15, e6]
    all_goals try (rw [zup_e, if_neg (by omega)]; unfold zto; rw [if_neg (by omega), if_neg (by omega)])
    · exact g1
    · exact g2
    · exact g3 i hi
    · exact g4 a ha
    · exact g5 b hb
    · exact g6 a b ha hb hn
    · rw [zup_e, if_pos ⟨rfl, rfl⟩]
    · exact g8
    · have := kT_to (k := 13) tb13 tb15 h8 k15
      exact this.same (fun j => by rw [zup_e, if_neg (by omega)]) (fun j => by rw [zup_e, if_neg (by omega)])
    · rcases q with q | q
      · exact absurd rfl q
      · cases q
  · refine ⟨zup M 12 6 (nI (f + 1)), ?_, ⟨?_, ⟨?_, fun i hi => ?_⟩, ⟨fun a ha => ?_, fun b hb => ?_⟩, fun a b ha hb hn => ?_, ?_, ?_⟩, fun q j q1 q2 q3 q4 q5 q6 => ?_, ⟨fun q _ => absurd q hz, fun q j => ⟨?_, ?_⟩⟩⟩
    · simp (disch := omega) [zf_Endings_fill, zf_Endings_keepFound, zmeth, xm_en, zret, zretz, zretv, zseq, zst, zinc, zkl, zskip, zk, zi, za, zbin, zdiv, zrem, zgi, zgr, zld, zldr, zlen, zn, zc, zcall, zcallv, zrcv, zdo, zdov, zpf, zpfc, zas, zasc, zmin, zmax, zcmp, zcz, zand_e, zor_e, zite_e, zbite_e, zif_e, znot_e, z_add, z_sub, z_mul, z_and, z_or, z_xor, z_shl, z_shr, zcpy, -List.getElem?_cons_succ, zg_0, zg_1, zg_2, zg_3, zg_4, zg_5, zg_6, zg_7, zg_8, zg_9, zc_lt, zc_le, zc_gt, zc_ge, zc_eq, zc_ne, zc_lt0, zc_ge0, zc_gt0, zc_eq0, zc_ne0, zb_ne, zb_eq, zb_01, z_00, z_01, z_11, zb_f, zb_T, zb_F, zbm1, zbm2, zbm5, zbm6, zbm3, zbm4, nI_clamp, zmod_n, pk_div, nI_ne0, pk_mul, nI_add, nI_1, zt_0, zt_12, zt_20, zt_26, zt_32, zf_0_0, zf_0_1, zf_0_2, zf_0_3, zf_0_4, zf_12_0, zf_12_1, zf_12_2, zf_12_4, zf_12_5, zf_20_1, zf_20_2, zf_20_3, zf_20_4, zf_20_6, zf_26_0, zf_26_1, zf_26_2, zf_26_3, zf_32_0, zf_32_1, zf_32_3, zf_32_4, zf_32_5, zf_32_6, g2, g7, hz]
    all_goals try (rw [zup_e, if_neg (by omega)])
    · exact g1
    · exact g2
    · exact g3 i hi
    · exact g4 a ha
    · exact g5 b hb
    · exact g6 a b ha hb hn
    · rw [zup_e, if_pos ⟨rfl, rfl⟩]
    · exact g8
theorem fl_in {M : zM} {n most f f2 k a b v fuel : Nat} {H hs : List Nat} {c : tC} (h8 : n ≤ 8) (hk : k < H.length) (hH : H.length < 64) (hm : most < 2 ^ 30) (ha : a < n) (hb : b < n) (hc : c a b = 8) (hv : v < n) (hok : okv n c (8 * a + b) v = true) (hno : 8 * a + b ∉ hs) (h : KF M n H ((8 * a + b) :: hs) c most f)
    (hcall : ∀ M1, KF M1 n H hs (cset c a b v) most f → ∃ M2, zf_Endings_fill fuel [.ref 12, .int (nI (k + 1))] M1 = some (none, M2) ∧ KF M2 n H hs (cset c a b v) most f2 ∧ FR M1 M2 ∧ FT M1 M2 n f (comps n hs (cset c a b v)) (cset c a b v)) : ∃ M', zs_Endings_fill_1 (zf_Endings_fill fuel) [some (Value.ref (12)), some (Value.int (nI k)), some (Value.int (nI a)), some (Value.int (nI b)), some (Value.int (nI (mRow n c a ||| mCol n c b))), some (Value.int (nI v)), none] M = some (none, [some (Value.ref (12)), some (Value.int (nI k)), some (Value.int (nI a)), some (Value.int (nI b)), some (Value.int (nI (mRow n c a ||| mCol n c b))), some (Value.int (nI (v + 1))), none], M') ∧ KF M' n H ((8 * a + b) :: hs) c most f2 ∧ FR M M' ∧ FT M M' n f (comps n hs (cset c a b v)) (cset c a b v) := by
  obtain ⟨g1, ⟨g2, g3⟩, ⟨g4, g5⟩, g6, g7, g8⟩ := h
  have hv8 : v < 8 := by omega
  have okm := okv_m (n := n) (c := c) (v := v) (h := 8 * a + b) rfl (show b < 8 by omega) hv8
  rw [hok] at okm
  have tbf : (mRow n c a ||| mCol n c b).testBit v = false := by simpa using okm.symm
  have tb2 := tbf
  rw [Nat.testBit_or, Bool.or_eq_false_iff] at tb2
  have rl : mRow n c a < 256 := zim_lt (m := 8) (fun i hi hp => by simpa using hp)
  have cl : mCol n c b < 256 := zim_lt (m := 8) (fun i hi hp => by simpa using hp)
  have s1 := nI_shl1 (v := v) (by omega)
  have ez : nI (mRow n c a ||| mCol n c b) &&& nI (2 ^ v) = nI 0 := by rw [nI_and, and_bit, tbf]; rfl
  have e0 : xe_cd .eq (nI 0) 0 = true := by decide
  have p1 := qT_put (M := M) (v := nI v) tb15 g1 h8 ha hb
  have r18 : zup M 16 (8 * a + b) (nI v) 18 a = nI (mRow n c a) := by rw [zup_e, if_neg (by omega)]; exact g4 a ha
  have r19 : zup (zup M 16 (8 * a + b) (nI v)) 18 a (nI (mRow n c a ||| 2 ^ v)) 19 b = nI (mCol n c b) := by rw [zup_e, if_neg (by omega), zup_e, if_neg (by omega)]; exact g5 b hb
  obtain ⟨M2, f1, ⟨k1, ⟨k2, k3⟩, ⟨k4, k5⟩, k6, k7, k8⟩, fr, ft⟩ := hcall (zup (zup (zup M 16 (8 * a + b) (nI v)) 18 a (nI (mRow n c a ||| 2 ^ v))) 19 b (nI (mCol n c b ||| 2 ^ v))) (by
    refine ⟨?_, ⟨?_, fun i hi => ?_⟩, ⟨fun x hx => ?_, fun y hy => ?_⟩, fun x y hx hy hn => ?_, ?_, ?_⟩
    · rw [zup_e, if_neg (by omega), zup_e, if_neg (by omega), zup_e, if_neg (by omega)]; exact g1
    · rw [zup_e, if_neg (by omega), zup_e, if_neg (by omega), zup_e, if_neg (by omega)]; exact g2
    · rw [zup_e, if_neg (by omega), zup_e, if_neg (by omega), zup_e, if_neg (by omega)]; exact g3 i hi
    · rw [zup_e, if_neg (by omega), zup_e]
      by_cases q : x = a
      · rw [if_pos ⟨rfl, q⟩, q, mRow_cs hb hv8 hc]
      · rw [if_neg (by omega), zup_e, if_neg (by omega), mRow_ne q]
        exact g4 x hx
    · rw [zup_e]
      by_cases q : y = b
      · rw [if_pos ⟨rfl, q⟩, q, mCol_cs ha hv8 hc]
      · rw [if_neg (by omega), zup_e, if_neg (by omega), zup_e, if_neg (by omega), mCol_ne q]
        exact g5 y hy
    · rw [zup_e, if_neg (by omega), zup_e, if_neg (by omega), zup_e]
      unfold cset
      by_cases q : x = a ∧ y = b
      · rw [if_pos (by omega), if_pos q, zcl_lt hv8]
      · rw [if_neg (by omega), if_neg q]
        refine g6 x y hx hy (fun z => ?_)
        rcases List.mem_cons.mp z with z | z
        · omega
        · exact hn z
    · rw [zup_e, if_neg (by omega), zup_e, if_neg (by omega), zup_e, if_neg (by omega)]; exact g7
    · rw [zup_e, if_neg (by omega), zup_e, if_neg (by omega), zup_e, if_neg (by omega)]; exact g8)
  have q18 : M2 18 a = nI (mRow n c a ||| 2 ^ v) := by rw [k4 a ha, mRow_cs hb hv8 hc]
  have u18 := unbit _ rl v hv8 tb2.1
  have q19 : zup M2 18 a (nI (mRow n c a)) 19 b = nI (mCol n c b ||| 2 ^ v) := by rw [zup_e, if_neg (by omega), k5 b hb, mCol_cs ha hv8 hc]
  have u19 := unbit _ cl v hv8 tb2.2
  refine ⟨zup (zup M2 18 a (nI (mRow n c a))) 19 b (nI (mCol n c b)), ?_, ⟨?_, ⟨?_, fun i hi => ?_⟩, ⟨fun x hx => ?_, fun y hy => ?_⟩, fun x y hx hy hn => ?_, ?_, ?_⟩, fun q j q1 q2 q3 q4 q5 q6 => ?_, ⟨fun z1 z2 => ?_, fun z j => ?_⟩⟩
  · simp (disch := omega) [zs_Endings_fill_1, zmeth, xm_en, zret, zretz, zretv, zseq, zst, zinc, zkl, zskip, zk, zi, za, zbin, zdiv, zrem, zgi, zgr, zld, zldr, zlen, zn, zc, zcall, zcallv, zrcv, zdo, zdov, zpf, zpfc, zas, zasc, zmin, zmax, zcmp, zcz, zand_e, zor_e, zite_e, zbite_e, zif_e, znot_e, z_add, z_sub, z_mul, z_and, z_or, z_xor, z_shl, z_shr, zcpy, -List.getElem?_cons_succ, zg_0, zg_1, zg_2, zg_3, zg_4, zg_5, zg_6, zg_7, zg_8, zg_9, zt_0, zt_12, zt_20, zt_26, zt_32, zf_0_0, zf_0_1, zf_0_2, zf_0_3, zf_0_4, zf_12_0, zf_12_1, zf_12_2, zf_12_4, zf_12_5, zf_20_1, zf_20_2, zf_20_3, zf_20_4, zf_20_6, zf_26_0, zf_26_1, zf_26_2, zf_26_3, zf_32_0, zf_32_1, zf_32_3, zf_32_4, zf_32_5, zf_32_6, s1, ez, e0, ztb_tag tb15, p1, zi_18, zi_19, nI_clamp, r18, r19, nI_or, nI_1, nI_add, f1, q18, u18, q19, u19]
  · rw [zup_e, if_neg (by omega), zup_e, if_neg (by omega)]; exact k1
  · rw [zup_e, if_neg (by omega), zup_e, if_neg (by omega)]; exact k2
  · rw [zup_e, if_neg (by omega), zup_e, if_neg (by omega)]; exact k3 i hi
  · rw [zup_e, if_neg (by omega), zup_e]
    by_cases q : x = a
    · rw [if_pos ⟨rfl, q⟩, q]
    · rw [if_neg (by omega), k4 x hx, mRow_ne q]
  · rw [zup_e]
    by_cases q : y = b
    · rw [if_pos ⟨rfl, q⟩, q]
    · rw [if_neg (by omega), zup_e, if_neg (by omega), k5 y hy, mCol_ne q]
  · rw [zup_e, if_neg (by omega), zup_e, if_neg (by omega), k6 x y hx hy (fun z => hn (List.mem_cons_of_mem _ z))]
    unfold cset
    rw [if_neg ?_]
    rintro ⟨rfl, rfl⟩
    exact hn List.mem_cons_self
  · rw [zup_e, if_neg (by omega), zup_e, if_neg (by omega)]; exact k7
  · rw [zup_e, if_neg (by omega), zup_e, if_neg (by omega)]; exact k8
  · rw [zup_e, if_neg (by omega), zup_e, if_neg (by omega), fr q j q1 q2 q3 q4 q5 q6, zup_e, if_neg (by omega), zup_e, if_neg (by omega), zup_e, if_neg (by omega)]
  · exact (ft.1 z1 z2).same (fun j => by rw [zup_e, if_neg (by omega), zup_e, if_neg (by omega)]) (fun j => by rw [zup_e, if_neg (by omega), zup_e, if_neg (by omega)])
  · have := ft.2 z j
    refine ⟨?_, ?_⟩
    · rw [zup_e, if_neg (by omega), zup_e, if_neg (by omega), this.1, zup_e, if_neg (by omega), zup_e, if_neg (by omega), zup_e, if_neg (by omega)]
    · rw [zup_e, if_neg (by omega), zup_e, if_neg (by omega), this.2, zup_e, if_neg (by omega), zup_e, if_neg (by omega), zup_e, if_neg (by omega)]
theorem sgs_snoc {g : Nat → List tC} : ∀ (d i : Nat), sgs g i (d + 1) = sgs g i d ++ g (i + d)
  | 0, i => by simp [sgs]
  | d + 1, i => by
    show g i ++ sgs g (i + 1) (d + 1) = (g i ++ sgs g (i + 1) d) ++ _
    rw [sgs_snoc d (i + 1), List.append_assoc]
    congr 3
    omega
theorem sgs_le {g : Nat → List tC} : ∀ (d e : Nat), (sgs g 0 d).length ≤ (sgs g 0 (d + e)).length
  | d, 0 => Nat.le_refl _
  | d, e + 1 => by
    have := sgs_le (g := g) d e
    rw [← Nat.add_assoc, sgs_snoc, List.length_append]
    omega
theorem fl_all {n most : Nat} {H : List Nat} (h8 : n ≤ 8) (hm : most < 2 ^ 30) (hH : H.length ≤ 25) : ∀ (hs : List Nat) (k : Nat) (c : tC) (M : zM) (f fuel : Nat), H.drop k = hs → k + hs.length = H.length → KF M n H hs c most f → hOK n hs c → f < most → hs.length < fuel → ∃ M', zf_Endings_fill fuel [.ref 12, .int (nI k)] M = some (none, M') ∧ KF M' n H hs c most (min most (f + (comps n hs c).length)) ∧ FR M M' ∧ FT M M' n f (comps n hs c) c
  | [], k, c, M, f, fuel, hd, hk, h, ho, hf, hfu => by
    obtain ⟨fu, rfl⟩ : ∃ fu, fuel = fu + 1 := ⟨fuel - 1, by omega⟩
    have e : min most (f + (comps n [] c).length) = f + 1 := by
      simp only [comps, List.length_singleton]
      omega
    rw [e]
    exact fl_leaf h8 (by simpa using hk) (by omega) hm hf h
  | h :: hs, k, c, M, f, fuel, hd, hk, he, ho, hf, hfu => by
    obtain ⟨fu, rfl⟩ : ∃ fu, fuel = fu + 1 := ⟨fuel - 1, by omega⟩
    obtain ⟨a, b, eh, ha, hb, hc⟩ := ho.2 h List.mem_cons_self
    subst eh
    have hkl : k < H.length := by rw [← hk, List.length_cons]; omega
    have hget : H.getD k 0 = 8 * a + b := by
      have : H[k]? = some (8 * a + b) := by
        have q : (H.drop k)[0]? = some (8 * a + b) := by rw [hd]; rfl
        rw [List.getElem?_drop] at q
        simpa using q
      rw [List.getD_eq_getElem?_getD, this]
      rfl
    have hd2 : H.drop (k + 1) = hs := by
      rw [← List.drop_drop, hd]
      rfl
    have hno : 8 * a + b ∉ hs := (List.nodup_cons.mp ho.1).1
    have rl : mRow n c a < 256 := zim_lt (m := 8) (fun i hi hp => by simpa using hp)
    have cl : mCol n c b < 256 := zim_lt (m := 8) (fun i hi hp => by simpa using hp)
    have loop : ∀ (d v : Nat) (M' : zM), v + d = n → KF M' n H ((8 * a + b) :: hs) c most (min most (f + (sgs (cg n hs (8 * a + b) c) 0 v).length)) → FR M M' → FT M M' n f (sgs (cg n hs (8 * a + b) c) 0 v) c → ∃ M2 y, zwh (zc_Endings_fill_1 (zf_Endings_fill fu)) (zs_Endings_fill_1 (zf_Endings_fill fu)) [some (Value.ref (12)), some (Value.int (nI k)), some (Value.int (nI a)), some (Value.int (nI b)), some (Value.int (nI (mRow n c a ||| mCol n c b))), some (Value.int (nI v)), none] M' = some (none, [some (Value.ref (12)), some (Value.int (nI k)), some (Value.int (nI a)), some (Value.int (nI b)), some (Value.int (nI (mRow n c a ||| mCol n c b))), some (Value.int (nI y)), none], M2) ∧ KF M2 n H ((8 * a + b) :: hs) c most (min most (f + (sgs (cg n hs (8 * a + b) c) 0 n).length)) ∧ FR M M2 ∧ FT M M2 n f (sgs (cg n hs (8 * a + b) c) 0 n) c := by
      intro d
      induction d with
      | zero =>
        intro v M' hv kf fr ft
        have : v = n := by omega
        subst this
        refine ⟨M', v, zwh_f ?_, kf, fr, ft⟩
        simp (disch := omega) [zc_Endings_fill_1, zmeth, xm_en, zret, zretz, zretv, zseq, zst, zinc, zkl, zskip, zk, zi, za, zbin, zdiv, zrem, zgi, zgr, zld, zldr, zlen, zn, zc, zcall, zcallv, zrcv, zdo, zdov, zpf, zpfc, zas, zasc, zmin, zmax, zcmp, zcz, zand_e, zor_e, zite_e, zbite_e, zif_e, znot_e, z_add, z_sub, z_mul, z_and, z_or, z_xor, z_shl, z_shr, zcpy, -List.getElem?_cons_succ, zg_0, zg_1, zg_2, zg_3, zg_4, zg_5, zg_6, zg_7, zg_8, zg_9, zc_lt, zc_le, zc_gt, zc_ge, zc_eq, zc_ne, zc_lt0, zc_ge0, zc_gt0, zc_eq0, zc_ne0, zb_ne, zb_eq, zb_01, z_00, z_01, z_11, zb_f, zb_T, zb_F, zbm1, zbm2, zbm5, zbm6, zbm3, zbm4, nI_clamp, zmod_n, pk_div, nI_ne0, pk_mul, nI_add, nI_1, zt_0, zt_12, zt_20, zt_26, zt_32, zf_0_0, zf_0_1, zf_0_2, zf_0_3, zf_0_4, zf_12_0, zf_12_1, zf_12_2, zf_12_4, zf_12_5, zf_20_1, zf_20_2, zf_20_3, zf_20_4, zf_20_6, zf_26_0, zf_26_1, zf_26_2, zf_26_3, zf_32_0, zf_32_1, zf_32_3, zf_32_4, zf_32_5, zf_32_6, ztb_tag tb15, kf.1]
      | succ d ih =>
        intro v M' hv kf fr ft
        have hvn : v < n := by omega
        have le1 := sgs_le (g := cg n hs (8 * a + b) c) v (n - v)
        rw [show v + (n - v) = n by omega] at le1
        by_cases hfull : most ≤ f + (sgs (cg n hs (8 * a + b) c) 0 v).length
        · have e1 : min most (f + (sgs (cg n hs (8 * a + b) c) 0 v).length) = most := by omega
          have e2 : min most (f + (sgs (cg n hs (8 * a + b) c) 0 n).length) = most := by omega
          rw [e1] at kf
          refine ⟨M', v, zwh_f ?_, by rw [e2]; exact kf, fr, ?_⟩
          · simp (disch := omega) [zc_Endings_fill_1, zmeth, xm_en, zret, zretz, zretv, zseq, zst, zinc, zkl, zskip, zk, zi, za, zbin, zdiv, zrem, zgi, zgr, zld, zldr, zlen, zn, zc, zcall, zcallv, zrcv, zdo, zdov, zpf, zpfc, zas, zasc, zmin, zmax, zcmp, zcz, zand_e, zor_e, zite_e, zbite_e, zif_e, znot_e, z_add, z_sub, z_mul, z_and, z_or, z_xor, z_shl, z_shr, zcpy, -List.getElem?_cons_succ, zg_0, zg_1, zg_2, zg_3, zg_4, zg_5, zg_6, zg_7, zg_8, zg_9, zc_lt, zc_le, zc_gt, zc_ge, zc_eq, zc_ne, zc_lt0, zc_ge0, zc_gt0, zc_eq0, zc_ne0, zb_ne, zb_eq, zb_01, z_00, z_01, z_11, zb_f, zb_T, zb_F, zbm1, zbm2, zbm5, zbm6, zbm3, zbm4, nI_clamp, zmod_n, pk_div, nI_ne0, pk_mul, nI_add, nI_1, zt_0, zt_12, zt_20, zt_26, zt_32, zf_0_0, zf_0_1, zf_0_2, zf_0_3, zf_0_4, zf_12_0, zf_12_1, zf_12_2, zf_12_4, zf_12_5, zf_20_1, zf_20_2, zf_20_3, zf_20_4, zf_20_6, zf_26_0, zf_26_1, zf_26_2, zf_26_3, zf_32_0, zf_32_1, zf_32_3, zf_32_4, zf_32_5, zf_32_6, ztb_tag tb15, kf.1, kf.2.2.2.2.1, kf.2.2.2.2.2]
          · have ea : ∃ R2, sgs (cg n hs (8 * a + b) c) 0 n = sgs (cg n hs (8 * a + b) c) 0 v ++ R2 := by
              have key : ∀ e, ∃ R2, sgs (cg n hs (8 * a + b) c) 0 (v + e) = sgs (cg n hs (8 * a + b) c) 0 v ++ R2 := by
                intro e
                induction e with
                | zero => exact ⟨[], by rw [Nat.add_zero, List.append_nil]⟩
                | succ e ih =>
                  obtain ⟨R2, q⟩ := ih
                  exact ⟨R2 ++ cg n hs (8 * a + b) c (0 + (v + e)), by rw [← Nat.add_assoc, sgs_snoc, q, List.append_assoc]⟩
              have := key (n - v)
              rwa [show v + (n - v) = n by omega] at this
            obtain ⟨R2, ea⟩ := ea
            rw [ea]
            refine FT.app (f1 := 1) (d := c) ft ⟨fun q => absurd q (by decide), fun _ j => ⟨rfl, rfl⟩⟩ ⟨fun q => absurd q (by decide), fun q => ?_⟩
            obtain ⟨q1, q2⟩ := q
            rw [q2] at hfull
            simp only [List.length_nil] at hfull
            omega
        · have e1 : min most (f + (sgs (cg n hs (8 * a + b) c) 0 v).length) = f + (sgs (cg n hs (8 * a + b) c) 0 v).length := by omega
          have hlt : f + (sgs (cg n hs (8 * a + b) c) 0 v).length < most := by omega
          rw [e1] at kf
          have c1 : zc_Endings_fill_1 (zf_Endings_fill fu) [some (Value.ref (12)), some (Value.int (nI k)), some (Value.int (nI a)), some (Value.int (nI b)), some (Value.int (nI (mRow n c a ||| mCol n c b))), some (Value.int (nI v)), none] M' = some (true, M') := by
            simp (disch := omega) [zc_Endings_fill_1, zmeth, xm_en, zret, zretz, zretv, zseq, zst, zinc, zkl, zskip, zk, zi, za, zbin, zdiv, zrem, zgi, zgr, zld, zldr, zlen, zn, zc, zcall, zcallv, zrcv, zdo, zdov, zpf, zpfc, zas, zasc, zmin, zmax, zcmp, zcz, zand_e, zor_e, zite_e, zbite_e, zif_e, znot_e, z_add, z_sub, z_mul, z_and, z_or, z_xor, z_shl, z_shr, zcpy, -List.getElem?_cons_succ, zg_0, zg_1, zg_2, zg_3, zg_4, zg_5, zg_6, zg_7, zg_8, zg_9, zc_lt, zc_le, zc_gt, zc_ge, zc_eq, zc_ne, zc_lt0, zc_ge0, zc_gt0, zc_eq0, zc_ne0, zb_ne, zb_eq, zb_01, z_00, z_01, z_11, zb_f, zb_T, zb_F, zbm1, zbm2, zbm5, zbm6, zbm3, zbm4, nI_clamp, zmod_n, pk_div, nI_ne0, pk_mul, nI_add, nI_1, zt_0, zt_12, zt_20, zt_26, zt_32, zf_0_0, zf_0_1, zf_0_2, zf_0_3, zf_0_4, zf_12_0, zf_12_1, zf_12_2, zf_12_4, zf_12_5, zf_20_1, zf_20_2, zf_20_3, zf_20_4, zf_20_6, zf_26_0, zf_26_1, zf_26_2, zf_26_3, zf_32_0, zf_32_1, zf_32_3, zf_32_4, zf_32_5, zf_32_6, ztb_tag tb15, kf.1, kf.2.2.2.2.1, kf.2.2.2.2.2, hvn, hlt]
          have es : sgs (cg n hs (8 * a + b) c) 0 (v + 1) = sgs (cg n hs (8 * a + b) c) 0 v ++ cg n hs (8 * a + b) c v := by rw [sgs_snoc, Nat.zero_add]
          have d1 : (8 * a + b) / 8 = a := by omega
          have d2 : (8 * a + b) % 8 = b := by omega
          cases hok : okv n c (8 * a + b) v with
          | true =>
            have ec : cg n hs (8 * a + b) c v = comps n hs (cset c a b v) := by unfold cg; rw [hok, d1, d2]; rfl
            obtain ⟨M2, s1, kf2, fr2, ft2⟩ := fl_in (fuel := fu) (f2 := min most (f + (sgs (cg n hs (8 * a + b) c) 0 v).length + (comps n hs (cset c a b v)).length)) h8 hkl (by omega) hm ha hb hc hvn hok hno kf (fun M1 q => fl_all h8 hm hH hs (k + 1) (cset c a b v) M1 _ fu hd2 (by rw [List.length_cons] at hk; omega) q (hOK_c h8 ho rfl hb) hlt (by rw [List.length_cons] at hfu; omega))
            obtain ⟨M3, y, w1, w2, w3, w4⟩ := ih (v + 1) M2 (by omega) (by rw [es, ec, List.length_append, ← Nat.add_assoc]; exact kf2) (fr.trans fr2) (by
              rw [es, ec]
              refine FT.app ft ft2 ⟨fun q => ?_, fun q => ?_⟩
              · exact ⟨by omega, List.eq_nil_of_length_eq_zero (by omega)⟩
              · rw [q.1, q.2]; rfl)
            exact ⟨M3, y, zwh_t c1 s1 w1, w2, w3, w4⟩
          | false =>
            have ec : cg n hs (8 * a + b) c v = [] := by unfold cg; rw [hok]; rfl
            have okm := okv_m (n := n) (c := c) (v := v) (h := 8 * a + b) rfl (show b < 8 by omega) (show v < 8 by omega)
            rw [hok] at okm
            have tbt : (mRow n c a ||| mCol n c b).testBit v = true := by
              cases q : (mRow n c a ||| mCol n c b).testBit v with
              | true => rfl
              | false => rw [q] at okm; cases okm
            have ez : nI (mRow n c a ||| mCol n c b) &&& nI (2 ^ v) = nI (2 ^ v) := by rw [nI_and, and_bit, tbt]; rfl
            have p2 : 2 ^ v < 2 ^ 8 := Nat.pow_lt_pow_right (by decide) (by omega)
            have p0 : 0 < 2 ^ v := Nat.two_pow_pos v
            have e0 : xe_cd .eq (nI (2 ^ v)) 0 = false := by rw [zc_eq0 (by omega)]; exact decide_eq_false (by omega)
            have sh := nI_shl1 (v := v) (by omega)
            have s1 : zs_Endings_fill_1 (zf_Endings_fill fu) [some (Value.ref (12)), some (Value.int (nI k)), some (Value.int (nI a)), some (Value.int (nI b)), some (Value.int (nI (mRow n c a ||| mCol n c b))), some (Value.int (nI v)), none] M' = some (none, [some (Value.ref (12)), some (Value.int (nI k)), some (Value.int (nI a)), some (Value.int (nI b)), some (Value.int (nI (mRow n c a ||| mCol n c b))), some (Value.int (nI (v + 1))), none], M') := by
              simp (disch := omega) [zs_Endings_fill_1, zmeth, xm_en, zret, zretz, zretv, zseq, zst, zinc, zkl, zskip, zk, zi, za, zbin, zdiv, zrem, zgi, zgr, zld, zldr, zlen, zn, zc, zcall, zcallv, zrcv, zdo, zdov, zpf, zpfc, zas, zasc, zmin, zmax, zcmp, zcz, zand_e, zor_e, zite_e, zbite_e, zif_e, znot_e, z_add, z_sub, z_mul, z_and, z_or, z_xor, z_shl, z_shr, zcpy, -List.getElem?_cons_succ, zg_0, zg_1, zg_2, zg_3, zg_4, zg_5, zg_6, zg_7, zg_8, zg_9, sh, ez, e0, nI_1]
            obtain ⟨M3, y, w1, w2, w3, w4⟩ := ih (v + 1) M' (by omega) (by rw [es, ec, List.append_nil, e1]; exact kf) fr (by rw [es, ec, List.append_nil]; exact ft)
            exact ⟨M3, y, zwh_t c1 s1 w1, w2, w3, w4⟩
    obtain ⟨M2, y, w1, w2, w3, w4⟩ := loop n 0 M (by omega) (by
      have : min most (f + (sgs (cg n hs (8 * a + b) c) 0 0).length) = f := by
        simp only [sgs, List.length_nil]
        omega
      rw [this]
      exact he) (fun _ _ _ _ _ _ _ _ => rfl) ⟨fun _ q => absurd rfl q, fun _ _ => ⟨rfl, rfl⟩⟩
    refine ⟨M2, ?_, w2, w3, w4⟩
    have g17 := he.2.1.2 k hkl
    rw [hget] at g17
    have g18 := he.2.2.1.1 a ha
    have g19 := he.2.2.1.2 b hb
    have d1 : (8 * a + b) / 8 = a := by omega
    have d2 : (8 * a + b) % 8 = b := by omega
    have nk : ¬ H.length ≤ k := by omega
    simp (disch := omega) [zf_Endings_fill, zmeth, xm_en, zret, zretz, zretv, zseq, zst, zinc, zkl, zskip, zk, zi, za, zbin, zdiv, zrem, zgi, zgr, zld, zldr, zlen, zn, zc, zcall, zcallv, zrcv, zdo, zdov, zpf, zpfc, zas, zasc, zmin, zmax, zcmp, zcz, zand_e, zor_e, zite_e, zbite_e, zif_e, znot_e, z_add, z_sub, z_mul, z_and, z_or, z_xor, z_shl, z_shr, zcpy, -List.getElem?_cons_succ, zg_0, zg_1, zg_2, zg_3, zg_4, zg_5, zg_6, zg_7, zg_8, zg_9, zc_lt, zc_le, zc_gt, zc_ge, zc_eq, zc_ne, zc_lt0, zc_ge0, zc_gt0, zc_eq0, zc_ne0, zb_ne, zb_eq, zb_01, z_00, z_01, z_11, zb_f, zb_T, zb_F, zbm1, zbm2, zbm5, zbm6, zbm3, zbm4, nI_clamp, zmod_n, pk_div, nI_ne0, pk_mul, nI_add, nI_1, zt_0, zt_12, zt_20, zt_26, zt_32, zf_0_0, zf_0_1, zf_0_2, zf_0_3, zf_0_4, zf_12_0, zf_12_1, zf_12_2, zf_12_4, zf_12_5, zf_20_1, zf_20_2, zf_20_3, zf_20_4, zf_20_6, zf_26_0, zf_26_1, zf_26_2, zf_26_3, zf_32_0, zf_32_1, zf_32_3, zf_32_4, zf_32_5, zf_32_6, he.2.1.1, nk, zi_17, g17, d1, d2, zi_18, g18, zi_19, g19, nI_or, w1]
