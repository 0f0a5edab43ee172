/-! group: the class's answer; both answers are the same -/
theorem bc_ch {n i : Nat} {e : Nat → Nat → List Nat} {b : Nat → Nat} (h7 : n ≤ 7) (hB : TB n e b) : ch n b i = 1 + bc (b i) := by
  unfold ch bc
  rw [← List.countP_eq_length_filter]
  have h := cn_map (fun k => k) (fun k => (b i).testBit k) n
  rw [List.map_id'] at h
  rw [h]
  have ext : ∀ m, n ≤ m → zsum (fun k => if (b i).testBit k = true then 1 else 0) m = zsum (fun k => if (b i).testBit k = true then 1 else 0) n := by
    intro m hm
    induction hm with
    | refl => rfl
    | step hm ih =>
      rename_i m
      show zsum _ m + (if (b i).testBit m = true then 1 else 0) = _
      have hm : n ≤ m := hm
      rw [ih, if_neg (fun z => by have := (hB i m z).1.2; omega), Nat.add_zero]
  rw [ext 8 (by omega)]
theorem qT_choicesF {M0 M : zM} {n : Nat} {c : tC} {e : Nat → Nat → List Nat} {b : Nat → Nat} {K : List Nat} (h7 : n ≤ 7) (h : KS M0 n c e b K M) : zf_Turns_countChoices [.ref 20] M = some (some (nI (RL n e b n 0).length), M) := by
  have n0 := h.n
  obtain ⟨r, ls, M1, e1, rfl, v, rfl, rfl, hv⟩ := zwh_inv (c := zc_Turns_countChoices_1) (s := zs_Turns_countChoices_1) (fun i ls M' => ∃ v : Nat, ls = [some (Value.ref (20)), some (Value.int (nI v)), some (Value.int (nI i))] ∧ M' = M ∧ v * (RL n e b (n - i) i).length = (RL n e b n 0).length) (Q := fun r ls M' => r = none ∧ ∃ v : Nat, ls = [some (Value.ref (20)), some (Value.int (nI v)), some (Value.int (nI n))] ∧ M' = M ∧ v = (RL n e b n 0).length) (n := n) (fun ls M' q => by
      obtain ⟨v, rfl, rfl, q⟩ := q
      refine ⟨by simp (disch := omega) [zc_Turns_countChoices_1, zmeth, xm_en, zret, zretz, zretv, zseq, zst, zinc, zkl, zskip, zk, zi, za, zbin, zdiv, zrem, zgi, zgr, zld, zldr, zlen, zn, zc, zcall, zcallv, zrcv, zdo, zdov, zpf, zpfc, zas, zasc, zmin, zmax, zcmp, zcz, zand_e, zor_e, zite_e, zbite_e, zif_e, znot_e, z_add, z_sub, z_mul, z_and, z_or, z_xor, z_shl, z_shr, zcpy, -List.getElem?_cons_succ, zg_0, zg_1, zg_2, zg_3, zg_4, zg_5, zg_6, zg_7, zg_8, zg_9, zc_lt, zc_le, zc_gt, zc_ge, zc_eq, zc_ne, zc_lt0, zc_ge0, zc_gt0, zc_eq0, zc_ne0, zb_ne, zb_eq, zb_01, z_00, z_01, z_11, zb_f, zb_T, zb_F, zbm1, zbm2, zbm5, zbm6, zbm3, zbm4, nI_clamp, zmod_n, pk_div, nI_ne0, pk_mul, nI_add, nI_1, zt_0, zt_12, zt_20, zt_26, zt_32, zf_0_0, zf_0_1, zf_0_2, zf_0_3, zf_0_4, zf_12_0, zf_12_1, zf_12_2, zf_12_4, zf_12_5, zf_20_1, zf_20_2, zf_20_3, zf_20_4, zf_20_6, zf_26_0, zf_26_1, zf_26_2, zf_26_3, zf_32_0, zf_32_1, zf_32_3, zf_32_4, zf_32_5, zf_32_6, n0], rfl, v, rfl, rfl, ?_⟩
      rw [Nat.sub_self] at q
      have : (RL n e b 0 n).length = 1 := rfl
      rw [this, Nat.mul_one] at q
      exact q) n 0 (by omega) (fun i ls M' _ hi q => by
      obtain ⟨v, rfl, rfl, q⟩ := q
      refine ⟨by simp (disch := omega) [zc_Turns_countChoices_1, zmeth, xm_en, zret, zretz, zretv, zseq, zst, zinc, zkl, zskip, zk, zi, za, zbin, zdiv, zrem, zgi, zgr, zld, zldr, zlen, zn, zc, zcall, zcallv, zrcv, zdo, zdov, zpf, zpfc, zas, zasc, zmin, zmax, zcmp, zcz, zand_e, zor_e, zite_e, zbite_e, zif_e, znot_e, z_add, z_sub, z_mul, z_and, z_or, z_xor, z_shl, z_shr, zcpy, -List.getElem?_cons_succ, zg_0, zg_1, zg_2, zg_3, zg_4, zg_5, zg_6, zg_7, zg_8, zg_9, zc_lt, zc_le, zc_gt, zc_ge, zc_eq, zc_ne, zc_lt0, zc_ge0, zc_gt0, zc_eq0, zc_ne0, zb_ne, zb_eq, zb_01, z_00, z_01, z_11, zb_f, zb_T, zb_F, zbm1, zbm2, zbm5, zbm6, zbm3, zbm4, nI_clamp, zmod_n, pk_div, nI_ne0, pk_mul, nI_add, nI_1, zt_0, zt_12, zt_20, zt_26, zt_32, zf_0_0, zf_0_1, zf_0_2, zf_0_3, zf_0_4, zf_12_0, zf_12_1, zf_12_2, zf_12_4, zf_12_5, zf_20_1, zf_20_2, zf_20_3, zf_20_4, zf_20_6, zf_26_0, zf_26_1, zf_26_2, zf_26_3, zf_32_0, zf_32_1, zf_32_3, zf_32_4, zf_32_5, zf_32_6, n0, hi], ?_⟩
      have bi := h.2.2.1 i (by omega)
      have b23 := bi.1
      have er := qI_bc (M := M') (v := b i) (by have := bi.2; omega)
      have ni : n - i = n - (i + 1) + 1 := by omega
      refine ⟨none, [some (Value.ref (20)), some (Value.int (nI (v * (1 + bc (b i))))), some (Value.int (nI (i + 1)))], M', ?_, v * (1 + bc (b i)), rfl, rfl, ?_⟩
      · simp (disch := omega) [zs_Turns_countChoices_1, zmeth, xm_en, zret, zretz, zretv, zseq, zst, zinc, zkl, zskip, zk, zi, za, zbin, zdiv, zrem, zgi, zgr, zld, zldr, zlen, zn, zc, zcall, zcallv, zrcv, zdo, zdov, zpf, zpfc, zas, zasc, zmin, zmax, zcmp, zcz, zand_e, zor_e, zite_e, zbite_e, zif_e, znot_e, z_add, z_sub, z_mul, z_and, z_or, z_xor, z_shl, z_shr, zcpy, -List.getElem?_cons_succ, zg_0, zg_1, zg_2, zg_3, zg_4, zg_5, zg_6, zg_7, zg_8, zg_9, nI_clamp, nI_add, nI_1, pk_mul, zt_0, zt_12, zt_20, zt_26, zt_32, zf_0_0, zf_0_1, zf_0_2, zf_0_3, zf_0_4, zf_12_0, zf_12_1, zf_12_2, zf_12_4, zf_12_5, zf_20_1, zf_20_2, zf_20_3, zf_20_4, zf_20_6, zf_26_0, zf_26_1, zf_26_2, zf_26_3, zf_32_0, zf_32_1, zf_32_3, zf_32_4, zf_32_5, zf_32_6, zi_23, b23, er]
      · rw [ni, RL_len, bc_ch h7 h.2.1] at q
        rw [Nat.mul_assoc]
        exact q) [some (Value.ref (20)), some (Value.int (nI 1)), some (Value.int (nI 0))] M ⟨1, rfl, rfl, by rw [Nat.one_mul]; rfl⟩
  subst hv
  simp (disch := omega) [zf_Turns_countChoices, zmeth, xm_en, zret, zretz, zretv, zseq, zst, zinc, zkl, zskip, zk, zi, za, zbin, zdiv, zrem, zgi, zgr, zld, zldr, zlen, zn, zc, zcall, zcallv, zrcv, zdo, zdov, zpf, zpfc, zas, zasc, zmin, zmax, zcmp, zcz, zand_e, zor_e, zite_e, zbite_e, zif_e, znot_e, z_add, z_sub, z_mul, z_and, z_or, z_xor, z_shl, z_shr, zcpy, -List.getElem?_cons_succ, zg_0, zg_1, zg_2, zg_3, zg_4, zg_5, zg_6, zg_7, zg_8, zg_9, e1]
/-- what the class's answer stands on -/
def CG (n : Nat) (c : tC) (k : Nat) : Prop := ∃ e b, TB n e b ∧ CL n e b ∧ (∀ a, 1 ≤ a → a < n → RR n e b n 0 (La n c a) ∧ RR n e b n 0 (Ra n c a)) ∧ (∀ i j, (b i).testBit j = true → GH n c (e i j)) ∧ k = (RL n e b n 0).length
theorem qT_countF {M : zM} {n k : Nat} {c : tC} (h7 : n ≤ 7) (hk : ztb k) (hk2 : k < 10) (ho : tO n c) (hf : tF n c) (ht : kT M k n c) : ∃ g M', zf_Turns_count [.ref 20, .ref k] M = some (some (nI g), M') ∧ zsc M M' ∧ CG n c g := by
  have f1 := qA_fill (M := zup (zup M 20 0 (nI n)) 20 5 (nI 0)) (k := 23) (N := 7) (v := nI 0) rfl (by decide)
  have h0 : KS M n c (fun _ _ => []) (fun _ => 0) [] (zfl (zup (zup M 20 0 (nI n)) 20 5 (nI 0)) 23 7 (nI 0)) := by
    refine ⟨⟨?_, ?_, fun q j hq => ?_⟩, fun i j q => ?_, fun i hi => ⟨?_, (show 0 < 128 by decide)⟩, fun i j q => ?_, List.nodup_nil, fun m hm => absurd hm (Nat.not_lt_zero m), fun k => ⟨fun z => absurd z List.not_mem_nil, fun ⟨i, j, q, _⟩ => ?_⟩⟩
    · unfold zfl
      rw [if_neg (by omega), zup_e, if_neg (by omega), zup_e, if_pos ⟨rfl, rfl⟩]
    · unfold zfl
      rw [if_neg (by omega), zup_e, if_pos ⟨rfl, rfl⟩]
      rfl
    · unfold zfl
      rw [if_neg (by omega), zup_e, if_neg (by omega), zup_e, if_neg (by omega)]
    · rw [Nat.zero_testBit] at q
      cases q
    · unfold zfl
      rw [if_pos ⟨rfl, hi⟩]
    · rw [Nat.zero_testBit] at q
      cases q
    · rw [Nat.zero_testBit] at q
      cases q
  obtain ⟨M1, e1, a1, b1, K1, k1, p1⟩ := qT_takeTurnsF h7 hk hk2 ho hf ht h0
  obtain ⟨i', M2, a2, b2, K2, w2, k2, x2, p2⟩ := qT_tp1F h7 49 0 a1 b1 K1 M1 (by omega) (by omega) k1 (fun m m' hm => absurd hm (Nat.not_lt_zero m))
  have e2 : zf_Turns_takeProducts [.ref 20] M1 = some (none, M2) := by simp (disch := omega) [zf_Turns_takeProducts, zmeth, xm_en, zret, zretz, zretv, zseq, zst, zinc, zkl, zskip, zk, zi, za, zbin, zdiv, zrem, zgi, zgr, zld, zldr, zlen, zn, zc, zcall, zcallv, zrcv, zdo, zdov, zpf, zpfc, zas, zasc, zmin, zmax, zcmp, zcz, zand_e, zor_e, zite_e, zbite_e, zif_e, znot_e, z_add, z_sub, z_mul, z_and, z_or, z_xor, z_shl, z_shr, zcpy, -List.getElem?_cons_succ, zg_0, zg_1, zg_2, zg_3, zg_4, zg_5, zg_6, zg_7, zg_8, zg_9, w2]
  have e3 := qT_choicesF h7 k2
  have z0 := ht.1
  have lt : ¬ (nI 7 < nI n) := by rw [nI_ltI (by decide) (by omega)]; omega
  exact ⟨_, M2, by simp (disch := omega) [zf_Turns_count, zmeth, xm_en, zret, zretz, zretv, zseq, zst, zinc, zkl, zskip, zk, zi, za, zbin, zdiv, zrem, zgi, zgr, zld, zldr, zlen, zn, zc, zcall, zcallv, zrcv, zdo, zdov, zpf, zpfc, zas, zasc, zmin, zmax, zcmp, zcz, zand_e, zor_e, zite_e, zbite_e, zif_e, znot_e, z_add, z_sub, z_mul, z_and, z_or, z_xor, z_shl, z_shr, zcpy, -List.getElem?_cons_succ, zg_0, zg_1, zg_2, zg_3, zg_4, zg_5, zg_6, zg_7, zg_8, zg_9, zt_0, zt_12, zt_20, zt_26, zt_32, zf_0_0, zf_0_1, zf_0_2, zf_0_3, zf_0_4, zf_12_0, zf_12_1, zf_12_2, zf_12_4, zf_12_5, zf_20_1, zf_20_2, zf_20_3, zf_20_4, zf_20_6, zf_26_0, zf_26_1, zf_26_2, zf_26_3, zf_32_0, zf_32_1, zf_32_3, zf_32_4, zf_32_5, zf_32_6, ztb_tag hk, z0, lt, f1, e1, e2, e3], fun q j hq => k2.1.2.2 q j (by omega), a2, b2, k2.2.1, CL_of h7 k2 p2, fun a l1 l2 => ⟨(p1 a l1 l2).1.ex x2, (p1 a l1 l2).2.ex x2⟩, fun i j q => (k2.2.2.2.1 i j q).1, rfl⟩
theorem nd_back {α : Type} [DecidableEq α] {A B : List α} (hA : A.Nodup) (h : ∀ x, x ∈ A → x ∈ B) (l : B.length ≤ A.length) {x : α} (hx : x ∈ B) : x ∈ A := by
  by_cases q : x ∈ A
  · exact q
  · have := nd_le (A := x :: A) (B := B) (List.nodup_cons.mpr ⟨q, hA⟩) (fun y hy => by
      rcases List.mem_cons.mp hy with rfl | hy
      · exact hx
      · exact h y hy)
    rw [List.length_cons] at this
    omega
theorem GRP_HC {n : Nat} {c : tC} {B : List (List Nat)} (ho : tO n c) (hf : tF n c) (h : GRP n c B) : HC n c (fun p => p ∈ B) := by
  obtain ⟨h1, h2, h3, h4, h5⟩ := h
  have mul : ∀ p, p ∈ B → ∀ q, q ∈ B → cp p q ∈ B := fun p hp => h4 (fun p => ∀ q, q ∈ B → cp p q ∈ B) (fun q hq => by
    rw [id_cp (h1 q hq)]
    exact hq) (fun p a ha pp hp => ⟨fun q hq => by
    rw [cp_as (La_PQ ho hf ha) pp (h1 q hq)]
    exact (h5 _ a (hp q hq) ha).1, fun q hq => by
    rw [cp_as (Ra_PQ ho hf ha) pp (h1 q hq)]
    exact (h5 _ a (hp q hq) ha).2⟩) p hp
  refine ⟨h3, fun p q _ _ hp hq => mul p hp q hq, fun p pp hp => ?_, fun a ha => ⟨?_, ?_⟩⟩
  · have id := nd_back (A := B.map (cp p)) (B := B) (nd_map h2 (fun x y hx hy e => cp_inj pp (h1 x hx) (h1 y hy) e)) (fun x hx => by
      obtain ⟨q, q1, rfl⟩ := List.mem_map.mp hx
      exact mul p hp q q1) (by rw [List.length_map]; exact Nat.le_refl _) h3
    obtain ⟨q, q1, q2⟩ := List.mem_map.mp id
    have pq := h1 q q1
    have : iv n p = q := by
      have e : cp (iv n p) (cp p q) = cp (iv n p) (List.range n) := by rw [q2]
      rw [← cp_as (iv_PQ pp) pp pq, iv_cp pp, id_cp pq, cp_id (iv_PQ pp)] at e
      exact e.symm
    show iv n p ∈ B
    rw [this]
    exact q1
  · have := (h5 _ a h3 ha).1
    rw [cp_id (La_PQ ho hf ha)] at this
    exact this
  · have := (h5 _ a h3 ha).2
    rw [cp_id (Ra_PQ ho hf ha)] at this
    exact this
theorem GRP_eq {n k : Nat} {c : tC} {B : List (List Nat)} (ho : tO n c) (hf : tF n c) (h : GRP n c B) (hk : CG n c k) : k = B.length := by
  obtain ⟨e, b, t1, t2, t3, t4, rfl⟩ := hk
  have hc := GRP_HC ho hf h
  have sub : ∀ d i p, RR n e b d i p → p ∈ B := by
    intro d
    induction d with
    | zero =>
      intro i p q
      have q : p = List.range n := q
      rw [q]
      exact hc.1
    | succ d ih =>
      intro i p q
      obtain ⟨t, u, q1, q2, rfl⟩ := q
      have pt := (q1.pq t1).1
      have pu := (RR.pq t1 q2).1
      refine hc.2.1 t u pt pu ?_ (ih _ _ q2)
      rcases q1 with rfl | ⟨j, q1, rfl⟩
      · exact hc.1
      · exact t4 _ j q1 _ hc
  have sup : ∀ p, p ∈ B → RR n e b n 0 p := h.2.2.2.1 (fun p => RR n e b n 0 p) RR.id (fun p a ha pp hp => by
    by_cases a0 : a = 0
    · have e1 : La n c a = List.range n := PQ.ext (La_PQ ho hf ha) id_PQ (fun i hi => by
        unfold La
        rw [fl_gd hi, gd_rg hi, a0, (ho.2.1 i hi).1])
      have e2 : Ra n c a = List.range n := PQ.ext (Ra_PQ ho hf ha) id_PQ (fun i hi => by
        unfold Ra
        rw [fl_gd hi, gd_rg hi, a0, (ho.2.1 i hi).2])
      rw [e1, e2, id_cp pp]
      exact ⟨hp, hp⟩
    · have := t3 a (by omega) ha
      exact ⟨RR.mul t1 t2 n 0 (by omega) _ _ this.1 hp, RR.mul t1 t2 n 0 (by omega) _ _ this.2 hp⟩)
  exact Nat.le_antisymm (nd_le (RL_nd t1 n 0 (by omega)) (fun p hp => sub n 0 p ((RL_m t1).mp hp))) (nd_le h.2.1 (fun p hp => (RL_m t1).mpr (sup p hp)))
/-- the class's answer -/
def aGL (T : tS) (x : Int32) (r : Int32) : Prop := (zlt x 4 = false ∧ r = -1) ∨ (zlt x 4 = true ∧ (tB (T x.toNatClampNeg).1 (T x.toNatClampNeg).2 = false ∨ 7 < (T x.toNatClampNeg).1) ∧ r = -2) ∨ (zlt x 4 = true ∧ tB (T x.toNatClampNeg).1 (T x.toNatClampNeg).2 = true ∧ (T x.toNatClampNeg).1 ≤ 7 ∧ ∃ k, CG (T x.toNatClampNeg).1 (T x.toNatClampNeg).2 k ∧ r = nI k)
theorem qL_groupF {T : tS} {M : zM} (x : Int32) (hC : CS T M) (hT : TO T) : ∃ r M', zf_L_group [.ref 0, .int x] M = some (some r, M') ∧ zsc M M' ∧ aGL T x r := by
  rcases z3 x (n := 4) (by decide) with h | ⟨t, ht, rfl⟩
  · refine ⟨-1, M, ?_, zsc.refl M, Or.inl ⟨h, rfl⟩⟩
    simp [zf_L_group, zmeth, xm_en, zret, zretz, zretv, zseq, zst, zinc, zkl, zskip, zk, zi, za, zbin, zdiv, zrem, zgi, zgr, zld, zldr, zlen, zn, zc, zcall, zcallv, zrcv, zdo, zdov, zpf, zpfc, zas, zasc, zmin, zmax, zcmp, zcz, zand_e, zor_e, zite_e, zbite_e, zif_e, znot_e, z_add, z_sub, z_mul, z_and, z_or, z_xor, z_shl, z_shr, zcpy, -List.getElem?_cons_succ, zg_0, zg_1, zg_2, zg_3, zg_4, zg_5, zg_6, zg_7, zg_8, zg_9, qL_isTable, zb_ne, h]
  · have e := zlt_y ht (by decide)
    have ct : (nI t).toNatClampNeg = t := nI_clamp (by omega)
    have fu := qT_isFull (tb4 ht) (hC t ht) (hT t ht)
    have h8 := (hT t ht).1
    cases hb : tB (T t).1 (T t).2 with
    | false =>
      rw [hb] at fu
      refine ⟨-2, M, ?_, zsc.refl M, Or.inr (Or.inl ⟨e, Or.inl (by rw [ct]; exact hb), rfl⟩)⟩
      simp (disch := omega) [zf_L_group, zmeth, xm_en, zret, zretz, zretv, zseq, zst, zinc, zkl, zskip, zk, zi, za, zbin, zdiv, zrem, zgi, zgr, zld, zldr, zlen, zn, zc, zcall, zcallv, zrcv, zdo, zdov, zpf, zpfc, zas, zasc, zmin, zmax, zcmp, zcz, zand_e, zor_e, zite_e, zbite_e, zif_e, znot_e, z_add, z_sub, z_mul, z_and, z_or, z_xor, z_shl, z_shr, zcpy, -List.getElem?_cons_succ, zg_0, zg_1, zg_2, zg_3, zg_4, zg_5, zg_6, zg_7, zg_8, zg_9, zt_0, zt_12, zt_20, zt_26, zt_32, zf_0_0, zf_0_1, zf_0_2, zf_0_3, zf_0_4, zf_12_0, zf_12_1, zf_12_2, zf_12_4, zf_12_5, zf_20_1, zf_20_2, zf_20_3, zf_20_4, zf_20_6, zf_26_0, zf_26_1, zf_26_2, zf_26_3, zf_32_0, zf_32_1, zf_32_3, zf_32_4, zf_32_5, zf_32_6, qL_isTable, zb_ne, e, zi_1, zf_1, ct, ztb_tag (tb4 ht), fu]
    | true =>
      rw [hb] at fu
      by_cases h7 : 7 < (T t).1
      · refine ⟨-2, M, ?_, zsc.refl M, Or.inr (Or.inl ⟨e, Or.inr (by rw [ct]; exact h7), rfl⟩)⟩
        simp (disch := omega) [zf_L_group, zmeth, xm_en, zret, zretz, zretv, zseq, zst, zinc, zkl, zskip, zk, zi, za, zbin, zdiv, zrem, zgi, zgr, zld, zldr, zlen, zn, zc, zcall, zcallv, zrcv, zdo, zdov, zpf, zpfc, zas, zasc, zmin, zmax, zcmp, zcz, zand_e, zor_e, zite_e, zbite_e, zif_e, znot_e, z_add, z_sub, z_mul, z_and, z_or, z_xor, z_shl, z_shr, zcpy, -List.getElem?_cons_succ, zg_0, zg_1, zg_2, zg_3, zg_4, zg_5, zg_6, zg_7, zg_8, zg_9, zt_0, zt_12, zt_20, zt_26, zt_32, zf_0_0, zf_0_1, zf_0_2, zf_0_3, zf_0_4, zf_12_0, zf_12_1, zf_12_2, zf_12_4, zf_12_5, zf_20_1, zf_20_2, zf_20_3, zf_20_4, zf_20_6, zf_26_0, zf_26_1, zf_26_2, zf_26_3, zf_32_0, zf_32_1, zf_32_3, zf_32_4, zf_32_5, zf_32_6, qL_isTable, zb_ne, e, zi_1, zf_1, ct, ztb_tag (tb4 ht), fu, (hC t ht).1, zc_gt, h7]
      · have hf := (tB_iff (hT t ht)).mp hb
        obtain ⟨g, M1, e1, g1, c1⟩ := qT_countF (by omega) (tb4 ht) (by omega) (hT t ht) hf (hC t ht)
        refine ⟨nI g, M1, ?_, g1, Or.inr (Or.inr ⟨e, by rw [ct]; exact hb, by rw [ct]; omega, g, by rw [ct]; exact c1, rfl⟩)⟩
        simp (disch := omega) [zf_L_group, zmeth, xm_en, zret, zretz, zretv, zseq, zst, zinc, zkl, zskip, zk, zi, za, zbin, zdiv, zrem, zgi, zgr, zld, zldr, zlen, zn, zc, zcall, zcallv, zrcv, zdo, zdov, zpf, zpfc, zas, zasc, zmin, zmax, zcmp, zcz, zand_e, zor_e, zite_e, zbite_e, zif_e, znot_e, z_add, z_sub, z_mul, z_and, z_or, z_xor, z_shl, z_shr, zcpy, -List.getElem?_cons_succ, zg_0, zg_1, zg_2, zg_3, zg_4, zg_5, zg_6, zg_7, zg_8, zg_9, zt_0, zt_12, zt_20, zt_26, zt_32, zf_0_0, zf_0_1, zf_0_2, zf_0_3, zf_0_4, zf_12_0, zf_12_1, zf_12_2, zf_12_4, zf_12_5, zf_20_1, zf_20_2, zf_20_3, zf_20_4, zf_20_6, zf_26_0, zf_26_1, zf_26_2, zf_26_3, zf_32_0, zf_32_1, zf_32_3, zf_32_4, zf_32_5, zf_32_6, qL_isTable, zb_ne, e, zi_1, zf_1, ct, ztb_tag (tb4 ht), fu, (hC t ht).1, zc_gt, h7, e1]
theorem aG_eq {T : tS} {x r r' : Int32} (hT : TO T) (h : aGL T x r) (h' : aGM T x r') : r = r' := by
  rcases h with ⟨a, rfl⟩ | ⟨a, b, rfl⟩ | ⟨a, b, d, k, g, rfl⟩
  · rcases h' with ⟨a', rfl⟩ | ⟨a', _, rfl⟩ | ⟨a', _, _, _, _, rfl⟩
    · rfl
    · rw [a] at a'
      cases a'
    · rw [a] at a'
      cases a'
  · rcases h' with ⟨a', rfl⟩ | ⟨a', _, rfl⟩ | ⟨a', b', d', _, _, rfl⟩
    · rw [a] at a'
      cases a'
    · rfl
    · rcases b with b | b
      · rw [b] at b'
        cases b'
      · omega
  · rcases h' with ⟨a', rfl⟩ | ⟨a', b', rfl⟩ | ⟨a', b', d', B, g', rfl⟩
    · rw [a] at a'
      cases a'
    · rcases b' with b' | b'
      · rw [b] at b'
        cases b'
      · omega
    · obtain ⟨t, ht, rfl⟩ := zlt_t (by decide) a
      have ct : (nI t).toNatClampNeg = t := nI_clamp (by omega)
      rw [ct] at b g g'
      rw [GRP_eq (hT t ht) ((tB_iff (hT t ht)).mp b) g' g]
