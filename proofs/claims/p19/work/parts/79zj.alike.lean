/-! alike: the class with its answer -/
/-- D is c under another naming that takes u to 0 -/
def AL (n u : Nat) (c D : tC) : Prop := ∃ g : Nat → Nat, (∀ k, k < n → g k < n) ∧ (∀ k k', k < n → k' < n → g k = g k' → k = k') ∧ g u = 0 ∧ ∀ x y, x < n → y < n → g (c x y) = D (g x) (g y)
theorem PL_mp {n : Nat} {g : Nat → Nat} (h1 : 1 ≤ n) (hl : ∀ k, k < n → g k < n) (hi : ∀ k k', k < n → k' < n → g k = g k' → k = k') (h0 : g 0 = 0) : PL n ((List.range n).map g) ∧ ∀ k, k < n → gd ((List.range n).map g) k = g k := by
  have gA : ∀ k, k < n → gd ((List.range n).map g) k = g k := fun k hk => by
    rw [gd_map g (by rw [List.length_range]; exact hk), gd_rg hk]
  have lA : ((List.range n).map g).length = n := by rw [List.length_map, List.length_range]
  exact ⟨⟨lA, nd_gd (fun i j a b e => by
    rw [lA] at a b
    rw [gA i a, gA j b] at e
    exact hi i j a b e), fun x hx => by
    obtain ⟨k, k1, k2⟩ := List.mem_map.mp hx
    rw [← k2]
    exact hl k (List.mem_range.mp k1), (gA 0 (by omega)).trans h0⟩, gA⟩
theorem AL_iff {n : Nat} {c D : tC} (h1 : 1 ≤ n) (hf : tF n c) : (∃ l, PL n l ∧ ex [0] l ∧ HM n c D l) ↔ AL n 0 c D := by
  constructor
  · intro ⟨l, a, _, b⟩
    exact ⟨gd l, fun k hk => a.gl hk, fun k k' x y e => by rw [← a.pg x, ← a.pg y, e], a.2.2.2, b⟩
  · intro ⟨g, a, b, d, e⟩
    obtain ⟨p, q⟩ := PL_mp h1 a b d
    refine ⟨_, p, PL_ex0 h1 p, fun x y hx hy => ?_⟩
    rw [q _ (hf x y hx hy), q x hx, q y hy]
    exact e x y hx hy
theorem qR_areAlikeF {M : zM} {k1 k2 n1 n2 : Nat} {c D : tC} (hk1 : ztb k1) (hk2 : ztb k2) (h1 : kT M k1 n1 c) (h2 : kT M k2 n2 D) (b1 : 1 ≤ n1) (a1 : n1 ≤ 8) (a2 : n2 ≤ 8) (hc : ∀ a, a < n1 → c 0 a = a ∧ c a 0 = a) (hD : ∀ a, a < n2 → D 0 a = a ∧ D a 0 = a) (hf1 : tF n1 c) (hf2 : tF n2 D) : ∃ (b : Bool) (M' : zM), zf_Renamings_areAlike [.ref 26, .ref k1, .ref k2] M = some (some (zb b), M') ∧ (∀ q j, q ≠ 29 → M' q j = M q j) ∧ (b = true ↔ n1 = n2 ∧ AL n1 0 c D) := by
  have f : ∀ k, ztb k → ∀ j, zup M 29 0 (nI 0) k j = M k j ∧ zup M 29 0 (nI 0) (k + 1) j = M (k + 1) j := fun k hk j => ⟨by rw [zup_e, if_neg (by unfold ztb at hk; omega)], by rw [zup_e, if_neg (by unfold ztb at hk; omega)]⟩
  have f1 : kT (zup M 29 0 (nI 0)) k1 n1 c := h1.same (fun j => (f k1 hk1 j).1) (fun j => (f k1 hk1 j).2)
  have f2 : kT (zup M 29 0 (nI 0)) k2 n2 D := h2.same (fun j => (f k2 hk2 j).1) (fun j => (f k2 hk2 j).2)
  have g1 := f1.1
  have g2 := f2.1
  by_cases hn : n1 = n2
  · subst hn
    have h0 : MF (zup M 29 0 (nI 0)) (zup M 29 0 (nI 0)) [0] := ⟨fun i hi => by
      have : i = 0 := by simp only [List.length_singleton] at hi; omega
      rw [this, zup_e, if_pos ⟨rfl, rfl⟩]
      rfl, fun _ _ _ => rfl⟩
    have t0 : TK 1 [0] := ⟨by decide, fun v => by
      rw [List.mem_singleton]
      cases v with
      | zero => exact ⟨fun _ => rfl, fun _ => by decide⟩
      | succ m =>
        rw [Nat.testBit_succ]
        have : Nat.testBit (1 / 2) m = false := Nat.zero_testBit m
        rw [this]
        exact ⟨fun z => by (cases z), fun z => by omega⟩⟩
    obtain ⟨b, M', e1, q1, i1⟩ := qR_matchF hk1 hk2 f1 f2 a1 hc hD hf1 hf2 (n1 - 1) 10 [0] 1 _ (by omega) (by rw [List.length_singleton]; omega) (PP_0 b1) t0 h0 (fun e => by
      have e1 : n1 = 1 := e.symm
      have hc0 := hc 0 (by omega)
      have hD0 := hD 0 (by omega)
      intro x y hx hy
      have x0 : x = 0 := by omega
      have y0 : y = 0 := by omega
      subst x0
      subst y0
      rw [hc0.1]
      show 0 = D 0 0
      rw [hD0.1])
    rw [List.length_singleton] at e1
    refine ⟨b, M', ?_, fun q j hq => by rw [q1.2 q j hq, zup_e, if_neg (by omega)], i1.trans ((AL_iff b1 hf1).trans ⟨fun z => ⟨rfl, z⟩, fun z => z.2⟩)⟩
    simp (disch := omega) [zf_Renamings_areAlike, zmeth, xm_en, zret, zretz, zretv, zseq, zst, zinc, zkl, zskip, zk, zi, za, zbin, zdiv, zrem, zgi, zgr, zld, zldr, zlen, zn, zc, zcall, zcallv, zrcv, zdo, zdov, zpf, zpfc, zas, zasc, zmin, zmax, zcmp, zcz, zand_e, zor_e, zite_e, zbite_e, zif_e, znot_e, z_add, z_sub, z_mul, z_and, z_or, z_xor, z_shl, z_shr, zcpy, -List.getElem?_cons_succ, zg_0, zg_1, zg_2, zg_3, zg_4, zg_5, zg_6, zg_7, zg_8, zg_9, zt_0, zt_12, zt_20, zt_26, zt_32, zf_0_0, zf_0_1, zf_0_2, zf_0_3, zf_0_4, zf_12_0, zf_12_1, zf_12_2, zf_12_4, zf_12_5, zf_20_1, zf_20_2, zf_20_3, zf_20_4, zf_20_6, zf_26_0, zf_26_1, zf_26_2, zf_26_3, zf_32_0, zf_32_1, zf_32_3, zf_32_4, zf_32_5, zf_32_6, zc_lt, zc_le, zc_gt, zc_ge, zc_eq, zc_ne, zc_lt0, zc_ge0, zc_gt0, zc_eq0, zc_ne0, zb_ne, zb_eq, zb_01, z_00, z_01, z_11, zb_f, zb_T, zb_F, zbm1, zbm2, zbm5, zbm6, zbm3, zbm4, nI_clamp, zmod_n, pk_div, nI_ne0, pk_mul, nI_add, nI_1, ztb_tag hk1, ztb_tag hk2, g1, g2, zi_29, e1]
  · refine ⟨false, zup M 29 0 (nI 0), ?_, fun q j hq => by rw [zup_e, if_neg (by omega)], fun z => by (cases z), fun z => absurd z.1 hn⟩
    · simp (disch := omega) [zf_Renamings_areAlike, zmeth, xm_en, zret, zretz, zretv, zseq, zst, zinc, zkl, zskip, zk, zi, za, zbin, zdiv, zrem, zgi, zgr, zld, zldr, zlen, zn, zc, zcall, zcallv, zrcv, zdo, zdov, zpf, zpfc, zas, zasc, zmin, zmax, zcmp, zcz, zand_e, zor_e, zite_e, zbite_e, zif_e, znot_e, z_add, z_sub, z_mul, z_and, z_or, z_xor, z_shl, z_shr, zcpy, -List.getElem?_cons_succ, zg_0, zg_1, zg_2, zg_3, zg_4, zg_5, zg_6, zg_7, zg_8, zg_9, zt_0, zt_12, zt_20, zt_26, zt_32, zf_0_0, zf_0_1, zf_0_2, zf_0_3, zf_0_4, zf_12_0, zf_12_1, zf_12_2, zf_12_4, zf_12_5, zf_20_1, zf_20_2, zf_20_3, zf_20_4, zf_20_6, zf_26_0, zf_26_1, zf_26_2, zf_26_3, zf_32_0, zf_32_1, zf_32_3, zf_32_4, zf_32_5, zf_32_6, zc_lt, zc_le, zc_gt, zc_ge, zc_eq, zc_ne, zc_lt0, zc_ge0, zc_gt0, zc_eq0, zc_ne0, zb_ne, zb_eq, zb_01, z_00, z_01, z_11, zb_f, zb_T, zb_F, zbm1, zbm2, zbm5, zbm6, zbm3, zbm4, nI_clamp, zmod_n, pk_div, nI_ne0, pk_mul, nI_add, nI_1, ztb_tag hk1, ztb_tag hk2, g1, g2, zi_29, hn]
theorem sw_sw {x u : Nat} : sw (sw x u) u = x := by
  unfold sw
  by_cases h : x = 0
  · subst h
    rw [if_pos rfl]
    by_cases h2 : u = 0
    · rw [if_pos h2, h2]
    · rw [if_neg h2, if_pos rfl]
  · rw [if_neg h]
    by_cases h2 : x = u
    · rw [if_pos h2, if_pos rfl, h2]
    · rw [if_neg h2, if_neg h, if_neg h2]
theorem sw_inj {x y u : Nat} (h : sw x u = sw y u) : x = y := by rw [← sw_sw (x := x) (u := u), ← sw_sw (x := y) (u := u), h]
theorem sw_u {u : Nat} : sw u u = 0 := by
  unfold sw
  by_cases h : u = 0
  · rw [if_pos h, h]
  · rw [if_neg h, if_pos rfl]
theorem sw_0 {u : Nat} : sw 0 u = u := if_pos rfl
/-- the other table, its unit named 0 -/
def ot (c : tC) (n a b : Nat) : tC := fun x y => sw (ri c n a b (sw x (c a b)) (sw y (c a b))) (c a b)
theorem ri_F {n a b : Nat} {c : tC} (ho : tO n c) (hf : tF n c) (ha : a < n) (hb : b < n) : tF n (ri c n a b) := fun x y hx hy => hf _ _ (tov_ok ho hf hb hx).1 (tun_ok ho hf ha hy).1
theorem ri_c {n a b u v : Nat} {c : tC} (ho : tO n c) (hf : tF n c) (ha : a < n) (hb : b < n) (hu : u < n) (hv : v < n) : ri c n a b (c u b) (c a v) = c u v := by
  have p := tov_ok ho hf hb (hf u b hu hb)
  have q := tun_ok ho hf ha (hf a v ha hv)
  have h8 := ho.1.2
  have e1 : tov n c (c u b) b = u := ho.2.2.2.2 _ _ _ p.1 hu hb p.2 (by rw [p.2]; exact Nat.lt_of_lt_of_le (hf u b hu hb) h8)
  have e2 : tun n c a (c a v) = v := ho.2.2.2.1 _ _ _ ha q.1 hv q.2 (by rw [q.2]; exact Nat.lt_of_lt_of_le (hf a v ha hv) h8)
  unfold ri
  rw [e1, e2]
theorem ot_F {n a b : Nat} {c : tC} (ho : tO n c) (hf : tF n c) (ha : a < n) (hb : b < n) : tF n (ot c n a b) := fun x y hx hy => sw_lt (ri_F ho hf ha hb _ _ (sw_lt hx (hf a b ha hb)) (sw_lt hy (hf a b ha hb))) (hf a b ha hb)
theorem ot_u {n a b : Nat} {c : tC} (ho : tO n c) (hf : tF n c) (ha : a < n) (hb : b < n) : ∀ x, x < n → ot c n a b 0 x = x ∧ ot c n a b x 0 = x := fun x hx => by
  have w := hf a b ha hb
  have sx := sw_lt hx w
  have q := tun_ok ho hf ha sx
  have p := tov_ok ho hf hb sx
  have e1 := ri_c ho hf ha hb ha q.1
  rw [q.2] at e1
  have e2 := ri_c ho hf ha hb p.1 hb
  rw [p.2] at e2
  constructor
  · show sw (ri c n a b (sw 0 (c a b)) (sw x (c a b))) (c a b) = x
    rw [sw_0, e1, sw_sw]
  · show sw (ri c n a b (sw x (c a b)) (sw 0 (c a b))) (c a b) = x
    rw [sw_0, e2, sw_sw]
theorem AL_ot {n a b : Nat} {c D : tC} (ho : tO n c) (hf : tF n c) (ha : a < n) (hb : b < n) : AL n 0 (ot c n a b) D ↔ AL n (c a b) (ri c n a b) D := by
  have w := hf a b ha hb
  constructor
  · intro ⟨g, g1, g2, g3, g4⟩
    refine ⟨fun x => g (sw x (c a b)), fun k hk => g1 _ (sw_lt hk w), fun k k' hk hk' e => sw_inj (g2 _ _ (sw_lt hk w) (sw_lt hk' w) e), ?_, fun x y hx hy => ?_⟩
    · show g (sw (c a b) (c a b)) = 0
      rw [sw_u]
      exact g3
    · have := g4 _ _ (sw_lt hx w) (sw_lt hy w)
      unfold ot at this
      rw [sw_sw, sw_sw] at this
      exact this
  · intro ⟨g, g1, g2, g3, g4⟩
    refine ⟨fun x => g (sw x (c a b)), fun k hk => g1 _ (sw_lt hk w), fun k k' hk hk' e => sw_inj (g2 _ _ (sw_lt hk w) (sw_lt hk' w) e), ?_, fun x y hx hy => ?_⟩
    · show g (sw 0 (c a b)) = 0
      rw [sw_0]
      exact g3
    · show g (sw (ot c n a b x y) (c a b)) = _
      unfold ot
      rw [sw_sw]
      exact g4 _ _ (sw_lt hx w) (sw_lt hy w)
/-- the other table while it is written -/
def OF (M0 : zM) (c : tC) (n a b x y : Nat) (M : zM) : Prop := OB M0 n M ∧ ∀ u v, u < n → v < n → (u < x ∨ u = x ∧ v < y) → M 11 (8 * sw (c u b) (c a b) + sw (c a v) (c a b)) = nI (sw (c u v) (c a b))
theorem qR_buildF {M : zM} {k n a b : Nat} {c : tC} (hk : ztb k) (hk2 : k < 10) (ht : kT M k n c) (ho : tO n c) (hf : tF n c) (ha : a < n) (hb : b < n) : ∃ M', zf_Renamings_buildOther [.ref k, .int (nI a), .int (nI b), .ref 10] M = some (none, M') ∧ kT M' 10 n (ot c n a b) ∧ ∀ q j, q ≠ 10 → q ≠ 11 → M' q j = M q j := by
  have h1 : 1 ≤ n := by omega
  have h8 := ho.1.2
  have kt : ∀ {M' : zM}, OB M n M' → kT M' k n c := fun g => ht.same (fun j => g.2 _ _ (by omega) (by omega)) (fun j => g.2 _ _ (by unfold ztb at hk; omega) (by unfold ztb at hk; omega))
  have t0 := qT_mul hk ht h8 hf ha hb
  have rs := qT_restart (M := M) (m := n) tb10 h1 h8
  have o1 : OB M n (zrs M 10 n n) := by
    refine ⟨?_, fun q j q1 q2 => ?_⟩
    · unfold zrs
      rw [if_pos ⟨rfl, rfl⟩]
    · unfold zrs
      rw [if_neg (by omega), if_neg (by omega)]
  have l0 := hf a b ha hb
  have inner := fun (u : Nat) (hu : u < n) (M1 : zM) (h : OF M c n a b u 0 M1) => zwh_inv (c := zc_Renamings_buildOther_2) (s := zs_Renamings_buildOther_2) (fun v ls M' => ls = [some (Value.ref (k)), some (Value.int (nI a)), some (Value.int (nI b)), some (Value.ref (10)), some (Value.int (nI (c a b))), some (Value.int (nI u)), some (Value.int (nI v)), none, none] ∧ OF M c n a b u v M') (Q := fun r ls M' => r = none ∧ ls = [some (Value.ref (k)), some (Value.int (nI a)), some (Value.int (nI b)), some (Value.ref (10)), some (Value.int (nI (c a b))), some (Value.int (nI u)), some (Value.int (nI n)), none, none] ∧ OF M c n a b u n M') (n := n) (fun ls M' q => by
    obtain ⟨rfl, q⟩ := q
    have k1 := (kt q.1).1
    exact ⟨by simp (disch := omega) [zc_Renamings_buildOther_2, zmeth, xm_en, zret, zretz, zretv, zseq, zst, zinc, zkl, zskip, zk, zi, za, zbin, zdiv, zrem, zgi, zgr, zld, zldr, zlen, zn, zc, zcall, zcallv, zrcv, zdo, zdov, zpf, zpfc, zas, zasc, zmin, zmax, zcmp, zcz, zand_e, zor_e, zite_e, zbite_e, zif_e, znot_e, z_add, z_sub, z_mul, z_and, z_or, z_xor, z_shl, z_shr, zcpy, -List.getElem?_cons_succ, zg_0, zg_1, zg_2, zg_3, zg_4, zg_5, zg_6, zg_7, zg_8, zg_9, zc_lt, zc_le, zc_gt, zc_ge, zc_eq, zc_ne, zc_lt0, zc_ge0, zc_gt0, zc_eq0, zc_ne0, zb_ne, zb_eq, zb_01, z_00, z_01, z_11, zb_f, zb_T, zb_F, zbm1, zbm2, zbm5, zbm6, zbm3, zbm4, nI_clamp, zmod_n, pk_div, nI_ne0, pk_mul, nI_add, nI_1, ztb_tag hk, k1], rfl, rfl, q⟩) n 0 (by omega) (fun v ls M2 _ hv q => by
    obtain ⟨rfl, g, g2⟩ := q
    have k1 := (kt g).1
    refine ⟨by simp (disch := omega) [zc_Renamings_buildOther_2, zmeth, xm_en, zret, zretz, zretv, zseq, zst, zinc, zkl, zskip, zk, zi, za, zbin, zdiv, zrem, zgi, zgr, zld, zldr, zlen, zn, zc, zcall, zcallv, zrcv, zdo, zdov, zpf, zpfc, zas, zasc, zmin, zmax, zcmp, zcz, zand_e, zor_e, zite_e, zbite_e, zif_e, znot_e, z_add, z_sub, z_mul, z_and, z_or, z_xor, z_shl, z_shr, zcpy, -List.getElem?_cons_succ, zg_0, zg_1, zg_2, zg_3, zg_4, zg_5, zg_6, zg_7, zg_8, zg_9, zc_lt, zc_le, zc_gt, zc_ge, zc_eq, zc_ne, zc_lt0, zc_ge0, zc_gt0, zc_eq0, zc_ne0, zb_ne, zb_eq, zb_01, z_00, z_01, z_11, zb_f, zb_T, zb_F, zbm1, zbm2, zbm5, zbm6, zbm3, zbm4, nI_clamp, zmod_n, pk_div, nI_ne0, pk_mul, nI_add, nI_1, ztb_tag hk, k1, hv], ?_⟩
    have m1 := qT_mul hk (kt g) h8 hf hu hb
    have m2 := qT_mul hk (kt g) h8 hf ha hv
    have m3 := qT_mul hk (kt g) h8 hf hu hv
    have l1 := hf u b hu hb
    have l2 := hf a v ha hv
    have l3 := hf u v hu hv
    have s1 := qR_swap (M := M2) (x := c u b) (u := c a b) (by omega) (by omega)
    have s2 := qR_swap (M := M2) (x := c a v) (u := c a b) (by omega) (by omega)
    have s3 := qR_swap (M := M2) (x := c u v) (u := c a b) (by omega) (by omega)
    have p := qT_put (M := M2) (v := nI (sw (c u v) (c a b))) tb10 g.1 h8 (sw_lt l1 l0) (sw_lt l2 l0)
    refine ⟨none, _, zup M2 (10 + 1) (8 * sw (c u b) (c a b) + sw (c a v) (c a b)) (nI (sw (c u v) (c a b))), ?_, rfl, ⟨?_, fun q j q1 q2 => ?_⟩, fun u' v' hu' hv' z => ?_⟩
    · simp (disch := omega) [zs_Renamings_buildOther_2, zmeth, xm_en, zret, zretz, zretv, zseq, zst, zinc, zkl, zskip, zk, zi, za, zbin, zdiv, zrem, zgi, zgr, zld, zldr, zlen, zn, zc, zcall, zcallv, zrcv, zdo, zdov, zpf, zpfc, zas, zasc, zmin, zmax, zcmp, zcz, zand_e, zor_e, zite_e, zbite_e, zif_e, znot_e, z_add, z_sub, z_mul, z_and, z_or, z_xor, z_shl, z_shr, zcpy, -List.getElem?_cons_succ, zg_0, zg_1, zg_2, zg_3, zg_4, zg_5, zg_6, zg_7, zg_8, zg_9, zc_lt, zc_le, zc_gt, zc_ge, zc_eq, zc_ne, zc_lt0, zc_ge0, zc_gt0, zc_eq0, zc_ne0, zb_ne, zb_eq, zb_01, z_00, z_01, z_11, zb_f, zb_T, zb_F, zbm1, zbm2, zbm5, zbm6, zbm3, zbm4, nI_clamp, zmod_n, pk_div, nI_ne0, pk_mul, nI_add, nI_1, ztb_tag hk, ztb_tag tb10, m1, m2, m3, s1, s2, s3, p]
    · rw [zup_e, if_neg (by omega)]
      exact g.1
    · rw [zup_e, if_neg (by omega)]
      exact g.2 q j q1 q2
    · rw [zup_e]
      by_cases e : u' = u ∧ v' = v
      · rw [if_pos ⟨rfl, by rw [e.1, e.2]⟩, e.1, e.2]
      · have b1 := sw_lt (hf a v' ha hv') l0
        have b2 := sw_lt l2 l0
        have ne : ¬ (sw (c u' b) (c a b) = sw (c u b) (c a b) ∧ sw (c a v') (c a b) = sw (c a v) (c a b)) := fun w => e ⟨ho.2.2.2.2 _ _ _ hu' hu hb (sw_inj w.1) (Nat.lt_of_lt_of_le (hf u' b hu' hb) h8), ho.2.2.2.1 _ _ _ ha hv' hv (sw_inj w.2) (Nat.lt_of_lt_of_le (hf a v' ha hv') h8)⟩
        rw [if_neg (by omega)]
        exact g2 u' v' hu' hv' (by omega)) [some (Value.ref (k)), some (Value.int (nI a)), some (Value.int (nI b)), some (Value.ref (10)), some (Value.int (nI (c a b))), some (Value.int (nI u)), some (Value.int (nI 0)), none, none] M1 ⟨rfl, h⟩
  obtain ⟨r, ls, M', e1, rfl, rfl, g1⟩ := zwh_inv (c := zc_Renamings_buildOther_1) (s := zs_Renamings_buildOther_1) (fun u ls M' => ls = [some (Value.ref (k)), some (Value.int (nI a)), some (Value.int (nI b)), some (Value.ref (10)), some (Value.int (nI (c a b))), some (Value.int (nI u)), none, none, none] ∧ OF M c n a b u 0 M') (Q := fun r ls M' => r = none ∧ ls = [some (Value.ref (k)), some (Value.int (nI a)), some (Value.int (nI b)), some (Value.ref (10)), some (Value.int (nI (c a b))), some (Value.int (nI n)), none, none, none] ∧ OF M c n a b n 0 M') (n := n) (fun ls M' q => by
    obtain ⟨rfl, q⟩ := q
    have k1 := (kt q.1).1
    exact ⟨by simp (disch := omega) [zc_Renamings_buildOther_1, zmeth, xm_en, zret, zretz, zretv, zseq, zst, zinc, zkl, zskip, zk, zi, za, zbin, zdiv, zrem, zgi, zgr, zld, zldr, zlen, zn, zc, zcall, zcallv, zrcv, zdo, zdov, zpf, zpfc, zas, zasc, zmin, zmax, zcmp, zcz, zand_e, zor_e, zite_e, zbite_e, zif_e, znot_e, z_add, z_sub, z_mul, z_and, z_or, z_xor, z_shl, z_shr, zcpy, -List.getElem?_cons_succ, zg_0, zg_1, zg_2, zg_3, zg_4, zg_5, zg_6, zg_7, zg_8, zg_9, zc_lt, zc_le, zc_gt, zc_ge, zc_eq, zc_ne, zc_lt0, zc_ge0, zc_gt0, zc_eq0, zc_ne0, zb_ne, zb_eq, zb_01, z_00, z_01, z_11, zb_f, zb_T, zb_F, zbm1, zbm2, zbm5, zbm6, zbm3, zbm4, nI_clamp, zmod_n, pk_div, nI_ne0, pk_mul, nI_add, nI_1, ztb_tag hk, k1], rfl, rfl, q⟩) n 0 (by omega) (fun u ls M2 _ hu q => by
    obtain ⟨rfl, q⟩ := q
    have k1 := (kt q.1).1
    refine ⟨by simp (disch := omega) [zc_Renamings_buildOther_1, zmeth, xm_en, zret, zretz, zretv, zseq, zst, zinc, zkl, zskip, zk, zi, za, zbin, zdiv, zrem, zgi, zgr, zld, zldr, zlen, zn, zc, zcall, zcallv, zrcv, zdo, zdov, zpf, zpfc, zas, zasc, zmin, zmax, zcmp, zcz, zand_e, zor_e, zite_e, zbite_e, zif_e, znot_e, z_add, z_sub, z_mul, z_and, z_or, z_xor, z_shl, z_shr, zcpy, -List.getElem?_cons_succ, zg_0, zg_1, zg_2, zg_3, zg_4, zg_5, zg_6, zg_7, zg_8, zg_9, zc_lt, zc_le, zc_gt, zc_ge, zc_eq, zc_ne, zc_lt0, zc_ge0, zc_gt0, zc_eq0, zc_ne0, zb_ne, zb_eq, zb_01, z_00, z_01, z_11, zb_f, zb_T, zb_F, zbm1, zbm2, zbm5, zbm6, zbm3, zbm4, nI_clamp, zmod_n, pk_div, nI_ne0, pk_mul, nI_add, nI_1, ztb_tag hk, k1, hu], ?_⟩
    obtain ⟨r, ls, M3, e3, rfl, rfl, g3⟩ := inner u hu M2 q
    exact ⟨none, _, M3, by simp (disch := omega) [zs_Renamings_buildOther_1, zmeth, xm_en, zret, zretz, zretv, zseq, zst, zinc, zkl, zskip, zk, zi, za, zbin, zdiv, zrem, zgi, zgr, zld, zldr, zlen, zn, zc, zcall, zcallv, zrcv, zdo, zdov, zpf, zpfc, zas, zasc, zmin, zmax, zcmp, zcz, zand_e, zor_e, zite_e, zbite_e, zif_e, znot_e, z_add, z_sub, z_mul, z_and, z_or, z_xor, z_shl, z_shr, zcpy, -List.getElem?_cons_succ, zg_0, zg_1, zg_2, zg_3, zg_4, zg_5, zg_6, zg_7, zg_8, zg_9, zc_lt, zc_le, zc_gt, zc_ge, zc_eq, zc_ne, zc_lt0, zc_ge0, zc_gt0, zc_eq0, zc_ne0, zb_ne, zb_eq, zb_01, z_00, z_01, z_11, zb_f, zb_T, zb_F, zbm1, zbm2, zbm5, zbm6, zbm3, zbm4, nI_clamp, zmod_n, pk_div, nI_ne0, pk_mul, nI_add, nI_1, e3], rfl, g3.1, fun u' v' a1 a2 a3 => g3.2 u' v' a1 a2 (by omega)⟩) [some (Value.ref (k)), some (Value.int (nI a)), some (Value.int (nI b)), some (Value.ref (10)), some (Value.int (nI (c a b))), some (Value.int (nI 0)), none, none, none] (zrs M 10 n n) ⟨rfl, o1, fun u v a1 a2 a3 => by omega⟩
  refine ⟨M', ?_, ⟨g1.1.1, fun x y hx hy => ?_⟩, g1.1.2⟩
  · simp (disch := omega) [zf_Renamings_buildOther, zmeth, xm_en, zret, zretz, zretv, zseq, zst, zinc, zkl, zskip, zk, zi, za, zbin, zdiv, zrem, zgi, zgr, zld, zldr, zlen, zn, zc, zcall, zcallv, zrcv, zdo, zdov, zpf, zpfc, zas, zasc, zmin, zmax, zcmp, zcz, zand_e, zor_e, zite_e, zbite_e, zif_e, znot_e, z_add, z_sub, z_mul, z_and, z_or, z_xor, z_shl, z_shr, zcpy, -List.getElem?_cons_succ, zg_0, zg_1, zg_2, zg_3, zg_4, zg_5, zg_6, zg_7, zg_8, zg_9, ztb_tag hk, ztb_tag tb10, t0, ht.1, rs, e1]
  · have sx := sw_lt hx l0
    have sy := sw_lt hy l0
    have p := tov_ok ho hf hb sx
    have q := tun_ok ho hf ha sy
    have k := g1.2 _ _ p.1 q.1 (Or.inl p.1)
    rw [p.2, q.2, sw_sw, sw_sw] at k
    have o8 := ot_F ho hf ha hb x y hx hy
    rw [zcl_lt (by omega)]
    exact k
theorem qR_threeF {M : zM} {k1 k2 n1 n2 : Nat} {c D : tC} (hk1 : ztb k1) (hk2 : ztb k2) (l1 : k1 < 10) (l2 : k2 < 10) (ht : kT M k1 n1 c) (h2 : kT M k2 n2 D) (ho : tO n1 c) (hD : tO n2 D) (hf : tF n1 c) (hf2 : tF n2 D) : ∃ (b : Bool) (M' : zM), zf_Renamings_areAlikeByThree [.ref 26, .ref k1, .ref k2, .ref 10] M = some (some (zb b), M') ∧ FA M M' ∧ (b = true ↔ n1 = n2 ∧ ∃ a b, a < n1 ∧ b < n1 ∧ AL n1 (c a b) (ri c n1 a b) D) := by
  have b1 := ho.1.1
  have a1 := ho.1.2
  have a2 := hD.1.2
  have z0 := h2.1
  have z0' := ht.1
  by_cases hn : n1 = n2
  · subst hn
    have kt : ∀ {M' : zM}, FA M M' → kT M' k1 n1 c := fun g => ht.same (fun j => g _ _ (by omega) (by omega) (by omega)) (fun j => g _ _ (by unfold ztb at hk1; omega) (by unfold ztb at hk1; omega) (by omega))
    have k2t : ∀ {M' : zM}, FA M M' → kT M' k2 n1 D := fun g => h2.same (fun j => g _ _ (by omega) (by omega) (by omega)) (fun j => g _ _ (by unfold ztb at hk2; omega) (by unfold ztb at hk2; omega) (by omega))
    have inner := fun (a : Nat) (ha : a < n1) (M1 : zM) (h : FA M M1) => zwh_inv (c := zc_Renamings_areAlikeByThree_2) (s := zs_Renamings_areAlikeByThree_2) (fun j ls M' => FA M M' ∧ ls = [some (Value.ref (26)), some (Value.ref (k1)), some (Value.ref (k2)), some (Value.ref (10)), some (Value.int (nI a)), some (Value.int (nI j))] ∧ ∀ b, b < j → ¬ AL n1 (c a b) (ri c n1 a b) D) (Q := fun r ls M' => FA M M' ∧ ((r = none ∧ ls = [some (Value.ref (26)), some (Value.ref (k1)), some (Value.ref (k2)), some (Value.ref (10)), some (Value.int (nI a)), some (Value.int (nI n1))] ∧ ∀ b, b < n1 → ¬ AL n1 (c a b) (ri c n1 a b) D) ∨ (r = some (some (nI 1)) ∧ ∃ b, b < n1 ∧ AL n1 (c a b) (ri c n1 a b) D))) (n := n1) (fun ls M' q => by
      obtain ⟨q, rfl, q2⟩ := q
      have k := (kt q).1
      exact ⟨by simp (disch := omega) [zc_Renamings_areAlikeByThree_2, zmeth, xm_en, zret, zretz, zretv, zseq, zst, zinc, zkl, zskip, zk, zi, za, zbin, zdiv, zrem, zgi, zgr, zld, zldr, zlen, zn, zc, zcall, zcallv, zrcv, zdo, zdov, zpf, zpfc, zas, zasc, zmin, zmax, zcmp, zcz, zand_e, zor_e, zite_e, zbite_e, zif_e, znot_e, z_add, z_sub, z_mul, z_and, z_or, z_xor, z_shl, z_shr, zcpy, -List.getElem?_cons_succ, zg_0, zg_1, zg_2, zg_3, zg_4, zg_5, zg_6, zg_7, zg_8, zg_9, zc_lt, zc_le, zc_gt, zc_ge, zc_eq, zc_ne, zc_lt0, zc_ge0, zc_gt0, zc_eq0, zc_ne0, zb_ne, zb_eq, zb_01, z_00, z_01, z_11, zb_f, zb_T, zb_F, zbm1, zbm2, zbm5, zbm6, zbm3, zbm4, nI_clamp, zmod_n, pk_div, nI_ne0, pk_mul, nI_add, nI_1, ztb_tag hk1, k], q, Or.inl ⟨rfl, rfl, q2⟩⟩) n1 0 (by omega) (fun j ls M' _ hj q => by
      obtain ⟨q, rfl, q2⟩ := q
      have k := (kt q).1
      refine ⟨by simp (disch := omega) [zc_Renamings_areAlikeByThree_2, zmeth, xm_en, zret, zretz, zretv, zseq, zst, zinc, zkl, zskip, zk, zi, za, zbin, zdiv, zrem, zgi, zgr, zld, zldr, zlen, zn, zc, zcall, zcallv, zrcv, zdo, zdov, zpf, zpfc, zas, zasc, zmin, zmax, zcmp, zcz, zand_e, zor_e, zite_e, zbite_e, zif_e, znot_e, z_add, z_sub, z_mul, z_and, z_or, z_xor, z_shl, z_shr, zcpy, -List.getElem?_cons_succ, zg_0, zg_1, zg_2, zg_3, zg_4, zg_5, zg_6, zg_7, zg_8, zg_9, zc_lt, zc_le, zc_gt, zc_ge, zc_eq, zc_ne, zc_lt0, zc_ge0, zc_gt0, zc_eq0, zc_ne0, zb_ne, zb_eq, zb_01, z_00, z_01, z_11, zb_f, zb_T, zb_F, zbm1, zbm2, zbm5, zbm6, zbm3, zbm4, nI_clamp, zmod_n, pk_div, nI_ne0, pk_mul, nI_add, nI_1, ztb_tag hk1, k, hj], ?_⟩
      obtain ⟨M2, e2, o2, g2⟩ := qR_buildF hk1 l1 (kt q) ho hf ha hj
      have h22 : kT M2 k2 n1 D := (k2t q).same (fun j => g2 _ _ (by omega) (by omega)) (fun j => g2 _ _ (by unfold ztb at hk2; omega) (by unfold ztb at hk2; omega))
      obtain ⟨b, M3, e3, g3, i3⟩ := qR_areAlikeF tb10 hk2 o2 h22 b1 a1 a2 (ot_u ho hf ha hj) hD.2.1 (ot_F ho hf ha hj) hf2
      have q3 : FA M M3 := fun q' j' z1 z2 z3 => ((g3 q' j' z3).trans (g2 q' j' z1 z2)).trans (q q' j' z1 z2 z3)
      cases b with
      | false => exact ⟨none, _, M3, by simp (disch := omega) [zs_Renamings_areAlikeByThree_2, zmeth, xm_en, zret, zretz, zretv, zseq, zst, zinc, zkl, zskip, zk, zi, za, zbin, zdiv, zrem, zgi, zgr, zld, zldr, zlen, zn, zc, zcall, zcallv, zrcv, zdo, zdov, zpf, zpfc, zas, zasc, zmin, zmax, zcmp, zcz, zand_e, zor_e, zite_e, zbite_e, zif_e, znot_e, z_add, z_sub, z_mul, z_and, z_or, z_xor, z_shl, z_shr, zcpy, -List.getElem?_cons_succ, zg_0, zg_1, zg_2, zg_3, zg_4, zg_5, zg_6, zg_7, zg_8, zg_9, zt_0, zt_12, zt_20, zt_26, zt_32, zf_0_0, zf_0_1, zf_0_2, zf_0_3, zf_0_4, zf_12_0, zf_12_1, zf_12_2, zf_12_4, zf_12_5, zf_20_1, zf_20_2, zf_20_3, zf_20_4, zf_20_6, zf_26_0, zf_26_1, zf_26_2, zf_26_3, zf_32_0, zf_32_1, zf_32_3, zf_32_4, zf_32_5, zf_32_6, zc_lt, zc_le, zc_gt, zc_ge, zc_eq, zc_ne, zc_lt0, zc_ge0, zc_gt0, zc_eq0, zc_ne0, zb_ne, zb_eq, zb_01, z_00, z_01, z_11, zb_f, zb_T, zb_F, zbm1, zbm2, zbm5, zbm6, zbm3, zbm4, nI_clamp, zmod_n, pk_div, nI_ne0, pk_mul, nI_add, nI_1, e2, e3], q3, rfl, fun b hb z => by
          by_cases e : b = j
          · subst e
            have := i3.mpr ⟨rfl, (AL_ot ho hf ha hj).mpr z⟩
            cases this
          · exact q2 b (by omega) z⟩
      | true => exact ⟨some (some (nI 1)), _, M3, by simp (disch := omega) [zs_Renamings_areAlikeByThree_2, zmeth, xm_en, zret, zretz, zretv, zseq, zst, zinc, zkl, zskip, zk, zi, za, zbin, zdiv, zrem, zgi, zgr, zld, zldr, zlen, zn, zc, zcall, zcallv, zrcv, zdo, zdov, zpf, zpfc, zas, zasc, zmin, zmax, zcmp, zcz, zand_e, zor_e, zite_e, zbite_e, zif_e, znot_e, z_add, z_sub, z_mul, z_and, z_or, z_xor, z_shl, z_shr, zcpy, -List.getElem?_cons_succ, zg_0, zg_1, zg_2, zg_3, zg_4, zg_5, zg_6, zg_7, zg_8, zg_9, zt_0, zt_12, zt_20, zt_26, zt_32, zf_0_0, zf_0_1, zf_0_2, zf_0_3, zf_0_4, zf_12_0, zf_12_1, zf_12_2, zf_12_4, zf_12_5, zf_20_1, zf_20_2, zf_20_3, zf_20_4, zf_20_6, zf_26_0, zf_26_1, zf_26_2, zf_26_3, zf_32_0, zf_32_1, zf_32_3, zf_32_4, zf_32_5, zf_32_6, zc_lt, zc_le, zc_gt, zc_ge, zc_eq, zc_ne, zc_lt0, zc_ge0, zc_gt0, zc_eq0, zc_ne0, zb_ne, zb_eq, zb_01, z_00, z_01, z_11, zb_f, zb_T, zb_F, zbm1, zbm2, zbm5, zbm6, zbm3, zbm4, nI_clamp, zmod_n, pk_div, nI_ne0, pk_mul, nI_add, nI_1, e2, e3]; rfl, q3, Or.inr ⟨rfl, j, hj, (AL_ot ho hf ha hj).mp (i3.mp rfl).2⟩⟩) [some (Value.ref (26)), some (Value.ref (k1)), some (Value.ref (k2)), some (Value.ref (10)), some (Value.int (nI a)), some (Value.int (nI 0))] M1 ⟨h, rfl, fun b hb => absurd hb (Nat.not_lt_zero b)⟩
    obtain ⟨r, ls, M', w1, w2, w3⟩ := zwh_inv (c := zc_Renamings_areAlikeByThree_1) (s := zs_Renamings_areAlikeByThree_1) (fun j ls M' => FA M M' ∧ ls = [some (Value.ref (26)), some (Value.ref (k1)), some (Value.ref (k2)), some (Value.ref (10)), some (Value.int (nI j)), none] ∧ ∀ a b, a < j → b < n1 → ¬ AL n1 (c a b) (ri c n1 a b) D) (Q := fun r ls M' => FA M M' ∧ ((r = none ∧ ls = [some (Value.ref (26)), some (Value.ref (k1)), some (Value.ref (k2)), some (Value.ref (10)), some (Value.int (nI n1)), none] ∧ ∀ a b, a < n1 → b < n1 → ¬ AL n1 (c a b) (ri c n1 a b) D) ∨ (r = some (some (nI 1)) ∧ ∃ a b, a < n1 ∧ b < n1 ∧ AL n1 (c a b) (ri c n1 a b) D))) (n := n1) (fun ls M' q => by
      obtain ⟨q, rfl, q2⟩ := q
      have k := (kt q).1
      exact ⟨by simp (disch := omega) [zc_Renamings_areAlikeByThree_1, zmeth, xm_en, zret, zretz, zretv, zseq, zst, zinc, zkl, zskip, zk, zi, za, zbin, zdiv, zrem, zgi, zgr, zld, zldr, zlen, zn, zc, zcall, zcallv, zrcv, zdo, zdov, zpf, zpfc, zas, zasc, zmin, zmax, zcmp, zcz, zand_e, zor_e, zite_e, zbite_e, zif_e, znot_e, z_add, z_sub, z_mul, z_and, z_or, z_xor, z_shl, z_shr, zcpy, -List.getElem?_cons_succ, zg_0, zg_1, zg_2, zg_3, zg_4, zg_5, zg_6, zg_7, zg_8, zg_9, zc_lt, zc_le, zc_gt, zc_ge, zc_eq, zc_ne, zc_lt0, zc_ge0, zc_gt0, zc_eq0, zc_ne0, zb_ne, zb_eq, zb_01, z_00, z_01, z_11, zb_f, zb_T, zb_F, zbm1, zbm2, zbm5, zbm6, zbm3, zbm4, nI_clamp, zmod_n, pk_div, nI_ne0, pk_mul, nI_add, nI_1, ztb_tag hk1, k], q, Or.inl ⟨rfl, rfl, q2⟩⟩) n1 0 (by omega) (fun j ls M' _ hj q => by
      obtain ⟨q, rfl, q2⟩ := q
      have k := (kt q).1
      refine ⟨by simp (disch := omega) [zc_Renamings_areAlikeByThree_1, zmeth, xm_en, zret, zretz, zretv, zseq, zst, zinc, zkl, zskip, zk, zi, za, zbin, zdiv, zrem, zgi, zgr, zld, zldr, zlen, zn, zc, zcall, zcallv, zrcv, zdo, zdov, zpf, zpfc, zas, zasc, zmin, zmax, zcmp, zcz, zand_e, zor_e, zite_e, zbite_e, zif_e, znot_e, z_add, z_sub, z_mul, z_and, z_or, z_xor, z_shl, z_shr, zcpy, -List.getElem?_cons_succ, zg_0, zg_1, zg_2, zg_3, zg_4, zg_5, zg_6, zg_7, zg_8, zg_9, zc_lt, zc_le, zc_gt, zc_ge, zc_eq, zc_ne, zc_lt0, zc_ge0, zc_gt0, zc_eq0, zc_ne0, zb_ne, zb_eq, zb_01, z_00, z_01, z_11, zb_f, zb_T, zb_F, zbm1, zbm2, zbm5, zbm6, zbm3, zbm4, nI_clamp, zmod_n, pk_div, nI_ne0, pk_mul, nI_add, nI_1, ztb_tag hk1, k, hj], ?_⟩
      obtain ⟨r, ls, M2, e1, g1, ⟨rfl, rfl, g2⟩ | ⟨rfl, b, g2, g3⟩⟩ := inner j hj M' q
      · exact ⟨none, _, M2, by simp (disch := omega) [zs_Renamings_areAlikeByThree_1, zmeth, xm_en, zret, zretz, zretv, zseq, zst, zinc, zkl, zskip, zk, zi, za, zbin, zdiv, zrem, zgi, zgr, zld, zldr, zlen, zn, zc, zcall, zcallv, zrcv, zdo, zdov, zpf, zpfc, zas, zasc, zmin, zmax, zcmp, zcz, zand_e, zor_e, zite_e, zbite_e, zif_e, znot_e, z_add, z_sub, z_mul, z_and, z_or, z_xor, z_shl, z_shr, zcpy, -List.getElem?_cons_succ, zg_0, zg_1, zg_2, zg_3, zg_4, zg_5, zg_6, zg_7, zg_8, zg_9, zc_lt, zc_le, zc_gt, zc_ge, zc_eq, zc_ne, zc_lt0, zc_ge0, zc_gt0, zc_eq0, zc_ne0, zb_ne, zb_eq, zb_01, z_00, z_01, z_11, zb_f, zb_T, zb_F, zbm1, zbm2, zbm5, zbm6, zbm3, zbm4, nI_clamp, zmod_n, pk_div, nI_ne0, pk_mul, nI_add, nI_1, e1], g1, rfl, fun a b ha hb => by
          by_cases e : a = j
          · subst e
            exact g2 b hb
          · exact q2 a b (by omega) hb⟩
      · exact ⟨some (some (nI 1)), _, M2, by simp (disch := omega) [zs_Renamings_areAlikeByThree_1, zmeth, xm_en, zret, zretz, zretv, zseq, zst, zinc, zkl, zskip, zk, zi, za, zbin, zdiv, zrem, zgi, zgr, zld, zldr, zlen, zn, zc, zcall, zcallv, zrcv, zdo, zdov, zpf, zpfc, zas, zasc, zmin, zmax, zcmp, zcz, zand_e, zor_e, zite_e, zbite_e, zif_e, znot_e, z_add, z_sub, z_mul, z_and, z_or, z_xor, z_shl, z_shr, zcpy, -List.getElem?_cons_succ, zg_0, zg_1, zg_2, zg_3, zg_4, zg_5, zg_6, zg_7, zg_8, zg_9, zc_lt, zc_le, zc_gt, zc_ge, zc_eq, zc_ne, zc_lt0, zc_ge0, zc_gt0, zc_eq0, zc_ne0, zb_ne, zb_eq, zb_01, z_00, z_01, z_11, zb_f, zb_T, zb_F, zbm1, zbm2, zbm5, zbm6, zbm3, zbm4, nI_clamp, zmod_n, pk_div, nI_ne0, pk_mul, nI_add, nI_1, e1]; rfl, g1, Or.inr ⟨rfl, j, b, hj, g2, g3⟩⟩) [some (Value.ref (26)), some (Value.ref (k1)), some (Value.ref (k2)), some (Value.ref (10)), some (Value.int (nI 0)), none] M ⟨fun _ _ _ _ _ => rfl, rfl, fun a b ha => absurd ha (Nat.not_lt_zero a)⟩
    rcases w3 with ⟨rfl, rfl, w3⟩ | ⟨rfl, w3⟩
    · exact ⟨false, M', by simp (disch := omega) [zf_Renamings_areAlikeByThree, zmeth, xm_en, zret, zretz, zretv, zseq, zst, zinc, zkl, zskip, zk, zi, za, zbin, zdiv, zrem, zgi, zgr, zld, zldr, zlen, zn, zc, zcall, zcallv, zrcv, zdo, zdov, zpf, zpfc, zas, zasc, zmin, zmax, zcmp, zcz, zand_e, zor_e, zite_e, zbite_e, zif_e, znot_e, z_add, z_sub, z_mul, z_and, z_or, z_xor, z_shl, z_shr, zcpy, -List.getElem?_cons_succ, zg_0, zg_1, zg_2, zg_3, zg_4, zg_5, zg_6, zg_7, zg_8, zg_9, zc_lt, zc_le, zc_gt, zc_ge, zc_eq, zc_ne, zc_lt0, zc_ge0, zc_gt0, zc_eq0, zc_ne0, zb_ne, zb_eq, zb_01, z_00, z_01, z_11, zb_f, zb_T, zb_F, zbm1, zbm2, zbm5, zbm6, zbm3, zbm4, nI_clamp, zmod_n, pk_div, nI_ne0, pk_mul, nI_add, nI_1, ztb_tag hk1, ztb_tag hk2, z0, z0', w1], w2, fun z => by (cases z), fun ⟨_, a, b, x, y, z⟩ => absurd z (w3 a b x y)⟩
    · exact ⟨true, M', by simp (disch := omega) [zf_Renamings_areAlikeByThree, zmeth, xm_en, zret, zretz, zretv, zseq, zst, zinc, zkl, zskip, zk, zi, za, zbin, zdiv, zrem, zgi, zgr, zld, zldr, zlen, zn, zc, zcall, zcallv, zrcv, zdo, zdov, zpf, zpfc, zas, zasc, zmin, zmax, zcmp, zcz, zand_e, zor_e, zite_e, zbite_e, zif_e, znot_e, z_add, z_sub, z_mul, z_and, z_or, z_xor, z_shl, z_shr, zcpy, -List.getElem?_cons_succ, zg_0, zg_1, zg_2, zg_3, zg_4, zg_5, zg_6, zg_7, zg_8, zg_9, zc_lt, zc_le, zc_gt, zc_ge, zc_eq, zc_ne, zc_lt0, zc_ge0, zc_gt0, zc_eq0, zc_ne0, zb_ne, zb_eq, zb_01, z_00, z_01, z_11, zb_f, zb_T, zb_F, zbm1, zbm2, zbm5, zbm6, zbm3, zbm4, nI_clamp, zmod_n, pk_div, nI_ne0, pk_mul, nI_add, nI_1, ztb_tag hk1, ztb_tag hk2, z0, z0', w1], w2, fun _ => ⟨rfl, w3⟩, fun _ => rfl⟩
  · exact ⟨false, M, by simp (disch := omega) [zf_Renamings_areAlikeByThree, zmeth, xm_en, zret, zretz, zretv, zseq, zst, zinc, zkl, zskip, zk, zi, za, zbin, zdiv, zrem, zgi, zgr, zld, zldr, zlen, zn, zc, zcall, zcallv, zrcv, zdo, zdov, zpf, zpfc, zas, zasc, zmin, zmax, zcmp, zcz, zand_e, zor_e, zite_e, zbite_e, zif_e, znot_e, z_add, z_sub, z_mul, z_and, z_or, z_xor, z_shl, z_shr, zcpy, -List.getElem?_cons_succ, zg_0, zg_1, zg_2, zg_3, zg_4, zg_5, zg_6, zg_7, zg_8, zg_9, zc_lt, zc_le, zc_gt, zc_ge, zc_eq, zc_ne, zc_lt0, zc_ge0, zc_gt0, zc_eq0, zc_ne0, zb_ne, zb_eq, zb_01, z_00, z_01, z_11, zb_f, zb_T, zb_F, zbm1, zbm2, zbm5, zbm6, zbm3, zbm4, nI_clamp, zmod_n, pk_div, nI_ne0, pk_mul, nI_add, nI_1, ztb_tag hk1, ztb_tag hk2, z0, z0', hn], fun _ _ _ _ _ => rfl, fun z => by (cases z), fun z => absurd z.1 hn⟩
