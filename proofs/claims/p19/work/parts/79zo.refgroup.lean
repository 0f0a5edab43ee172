/-! group: the reference's loops with their members -/
def La (n : Nat) (c : tC) (a : Nat) : List Nat := fl n (fun x => c a x)
def Ra (n : Nat) (c : tC) (a : Nat) : List Nat := fl n (fun x => c x a)
theorem La_PQ {n a : Nat} {c : tC} (ho : tO n c) (hf : tF n c) (ha : a < n) : PQ n (La n c a) := fl_PQ (fun i hi => hf a i ha hi) (fun i j hi hj e => ho.2.2.2.1 a i j ha hi hj e (Nat.lt_of_lt_of_le (hf a i ha hi) ho.1.2))
theorem Ra_PQ {n a : Nat} {c : tC} (ho : tO n c) (hf : tF n c) (ha : a < n) : PQ n (Ra n c a) := fl_PQ (fun i hi => hf i a hi ha) (fun i j hi hj e => ho.2.2.2.2 i j a hi hj ha e (Nat.lt_of_lt_of_le (hf i a hi ha) ho.1.2))
/-- nothing but words in the turns -/
def GE (n : Nat) (c : tC) (B : List (List Nat)) : Prop := ∀ H : List Nat → Prop, H (List.range n) → (∀ p a, a < n → PQ n p → H p → H (cp (La n c a) p) ∧ H (cp (Ra n c a) p)) → ∀ p, p ∈ B → H p
theorem GE.add {n a : Nat} {c : tC} {B : List (List Nat)} {p : List Nat} (h : GE n c B) (ha : a < n) (hp : p ∈ B) (pq : PQ n p) : GE n c (B ++ [cp (La n c a) p]) ∧ GE n c (B ++ [cp (Ra n c a) p]) := ⟨fun H h1 h2 q hq => by
    rcases List.mem_append.mp hq with hq | hq
    · exact h H h1 h2 q hq
    · rw [List.mem_singleton.mp hq]
      exact (h2 p a ha pq (h H h1 h2 p hp)).1, fun H h1 h2 q hq => by
    rcases List.mem_append.mp hq with hq | hq
    · exact h H h1 h2 q hq
    · rw [List.mem_singleton.mp hq]
      exact (h2 p a ha pq (h H h1 h2 p hp)).2⟩
theorem GM.fr {M M' : zM} {n : Nat} {B : List (List Nat)} (h : GM M n B) (hs : ∀ q i, q ≠ 36 → M' q i = M q i) : GM M' n B := ⟨h.1, h.2.1, fun m i hm hi => by rw [hs 37 _ (by decide)]; exact h.2.2.1 m i hm hi, fun p hp => by rw [hs 38 _ (by decide)]; exact h.2.2.2 p hp⟩
theorem qM_gr4F {M : zM} {t n m : Nat} {c : tC} {B : List (List Nat)} (ht : t < 6) (h : rT M t n c) (h7 : n ≤ 7) (ho : tO n c) (hf : tF n c) (hm : m < B.length) (hB : GM M n B) (hG : GE n c B) : ∃ B' M', zwh zc_M_group_4 zs_M_group_4 (lsG t n B.length m (some (.int (nI 0))) none) M = some (none, lsG t n B'.length m (some (.int (nI n))) none, M') ∧ GM M' n B' ∧ gF M M' ∧ (∃ W, B' = B ++ W) ∧ GE n c B' ∧ ∀ a, a < n → cp (La n c a) (ge B m) ∈ B' ∧ cp (Ra n c a) (ge B m) ∈ B' := by
  have h8 : n ≤ 8 := by omega
  have pB := ge_mem hm
  have pq := hB.1 _ pB
  obtain ⟨r, ls, M', w1, rfl, B', rfl, w2, w3, w4, w5, w6⟩ := zwh_inv (c := zc_M_group_4) (s := zs_M_group_4) (fun j ls M' => ∃ B', ls = lsG t n B'.length m (some (.int (nI j))) none ∧ GM M' n B' ∧ gF M M' ∧ (∃ W, B' = B ++ W) ∧ GE n c B' ∧ ∀ a, a < j → cp (La n c a) (ge B m) ∈ B' ∧ cp (Ra n c a) (ge B m) ∈ B') (Q := fun r ls M' => r = none ∧ ∃ B', ls = lsG t n B'.length m (some (.int (nI n))) none ∧ GM M' n B' ∧ gF M M' ∧ (∃ W, B' = B ++ W) ∧ GE n c B' ∧ ∀ a, a < n → cp (La n c a) (ge B m) ∈ B' ∧ cp (Ra n c a) (ge B m) ∈ B') (n := n) (fun ls M' q => by
      obtain ⟨B', rfl, q1, q2⟩ := q
      have b5 := (q1.len h7).1
      refine ⟨?_, rfl, B', rfl, q1, q2⟩
      simp (disch := omega) [zc_M_group_4, lsG, zmeth, xm_en, zret, zretz, zretv, zseq, zst, zinc, zkl, zskip, zk, zi, za, zbin, zdiv, zrem, zgi, zgr, zld, zldr, zlen, zn, zc, zcall, zcallv, zrcv, zdo, zdov, zpf, zpfc, zas, zasc, zmin, zmax, zcmp, zcz, zand_e, zor_e, zite_e, zbite_e, zif_e, znot_e, z_add, z_sub, z_mul, z_and, z_or, z_xor, z_shl, z_shr, zcpy, -List.getElem?_cons_succ, zg_0, zg_1, zg_2, zg_3, zg_4, zg_5, zg_6, zg_7, zg_8, zg_9, zc_lt, zc_le, zc_gt, zc_ge, zc_eq, zc_ne, zc_lt0, zc_ge0, zc_gt0, zc_eq0, zc_ne0, zb_ne, zb_eq, zb_01, z_00, z_01, z_11, zb_f, zb_T, zb_F, zbm1, zbm2, zbm5, zbm6, zbm3, zbm4, nI_clamp, zmod_n, pk_div, nI_ne0, pk_mul, nI_add, nI_1]) n 0 (by omega) (fun j ls M' _ hj q => by
      obtain ⟨B1, rfl, q1, q2, ⟨W, qW⟩, q4, q5⟩ := q
      have b5 := (q1.len h7).1
      refine ⟨by simp (disch := omega) [zc_M_group_4, lsG, zmeth, xm_en, zret, zretz, zretv, zseq, zst, zinc, zkl, zskip, zk, zi, za, zbin, zdiv, zrem, zgi, zgr, zld, zldr, zlen, zn, zc, zcall, zcallv, zrcv, zdo, zdov, zpf, zpfc, zas, zasc, zmin, zmax, zcmp, zcz, zand_e, zor_e, zite_e, zbite_e, zif_e, znot_e, z_add, z_sub, z_mul, z_and, z_or, z_xor, z_shl, z_shr, zcpy, -List.getElem?_cons_succ, zg_0, zg_1, zg_2, zg_3, zg_4, zg_5, zg_6, zg_7, zg_8, zg_9, zc_lt, zc_le, zc_gt, zc_ge, zc_eq, zc_ne, zc_lt0, zc_ge0, zc_gt0, zc_eq0, zc_ne0, zb_ne, zb_eq, zb_01, z_00, z_01, z_11, zb_f, zb_T, zb_F, zbm1, zbm2, zbm5, zbm6, zbm3, zbm4, nI_clamp, zmod_n, pk_div, nI_ne0, pk_mul, nI_add, nI_1, hj], ?_⟩
      have e0 : ge B1 m = ge B m := by rw [qW, ge_app hm]
      have m1 : m < B1.length := by rw [qW, List.length_append]; omega
      have in1 : ge B m ∈ B1 := by rw [← e0]; exact ge_mem m1
      have row : ∀ i, i < n → M' 37 (7 * m + i) = nI (gd (ge B m) i) := fun i hi => by rw [← e0]; exact q1.2.2.1 m i m1 hi
      obtain ⟨M1, e1, i1, s1⟩ := qM_imgF (c' := zc_M_group_5) (s' := zs_M_group_5) (ls0 := fun i => lsG t n B1.length m (some (.int (nI j))) (some (.int (nI i)))) (f := fun v => c j v) (m := m) pq row (fun i M2 hi => by simp (disch := omega) [zc_M_group_5, lsG, zmeth, xm_en, zret, zretz, zretv, zseq, zst, zinc, zkl, zskip, zk, zi, za, zbin, zdiv, zrem, zgi, zgr, zld, zldr, zlen, zn, zc, zcall, zcallv, zrcv, zdo, zdov, zpf, zpfc, zas, zasc, zmin, zmax, zcmp, zcz, zand_e, zor_e, zite_e, zbite_e, zif_e, znot_e, z_add, z_sub, z_mul, z_and, z_or, z_xor, z_shl, z_shr, zcpy, -List.getElem?_cons_succ, zg_0, zg_1, zg_2, zg_3, zg_4, zg_5, zg_6, zg_7, zg_8, zg_9, zc_lt, zc_le, zc_gt, zc_ge, zc_eq, zc_ne, zc_lt0, zc_ge0, zc_gt0, zc_eq0, zc_ne0, zb_ne, zb_eq, zb_01, z_00, z_01, z_11, zb_f, zb_T, zb_F, zbm1, zbm2, zbm5, zbm6, zbm3, zbm4, nI_clamp, zmod_n, pk_div, nI_ne0, pk_mul, nI_add, nI_1, hi]) (fun M2 => by simp (disch := omega) [zc_M_group_5, lsG, zmeth, xm_en, zret, zretz, zretv, zseq, zst, zinc, zkl, zskip, zk, zi, za, zbin, zdiv, zrem, zgi, zgr, zld, zldr, zlen, zn, zc, zcall, zcallv, zrcv, zdo, zdov, zpf, zpfc, zas, zasc, zmin, zmax, zcmp, zcz, zand_e, zor_e, zite_e, zbite_e, zif_e, znot_e, z_add, z_sub, z_mul, z_and, z_or, z_xor, z_shl, z_shr, zcpy, -List.getElem?_cons_succ, zg_0, zg_1, zg_2, zg_3, zg_4, zg_5, zg_6, zg_7, zg_8, zg_9, zc_lt, zc_le, zc_gt, zc_ge, zc_eq, zc_ne, zc_lt0, zc_ge0, zc_gt0, zc_eq0, zc_ne0, zb_ne, zb_eq, zb_01, z_00, z_01, z_11, zb_f, zb_T, zb_F, zbm1, zbm2, zbm5, zbm6, zbm3, zbm4, nI_clamp, zmod_n, pk_div, nI_ne0, pk_mul, nI_add, nI_1]) (fun i M2 v hi hv fr hv2 => by
        have rt : rT M2 t n c := (q2.rT h8 h).same h8 (fr _ _ (by decide)) (fun j _ _ => fr _ _ (by decide))
        have mul := qM_mul ht rt h8 hf hj hv
        simp (disch := omega) [zs_M_group_5, lsG, zmeth, xm_en, zret, zretz, zretv, zseq, zst, zinc, zkl, zskip, zk, zi, za, zbin, zdiv, zrem, zgi, zgr, zld, zldr, zlen, zn, zc, zcall, zcallv, zrcv, zdo, zdov, zpf, zpfc, zas, zasc, zmin, zmax, zcmp, zcz, zand_e, zor_e, zite_e, zbite_e, zif_e, znot_e, z_add, z_sub, z_mul, z_and, z_or, z_xor, z_shl, z_shr, zcpy, -List.getElem?_cons_succ, zg_0, zg_1, zg_2, zg_3, zg_4, zg_5, zg_6, zg_7, zg_8, zg_9, zc_lt, zc_le, zc_gt, zc_ge, zc_eq, zc_ne, zc_lt0, zc_ge0, zc_gt0, zc_eq0, zc_ne0, zb_ne, zb_eq, zb_01, z_00, z_01, z_11, zb_f, zb_T, zb_F, zbm1, zbm2, zbm5, zbm6, zbm3, zbm4, nI_clamp, zmod_n, pk_div, nI_ne0, pk_mul, nI_add, nI_1, zt_0, zt_12, zt_20, zt_26, zt_32, zf_0_0, zf_0_1, zf_0_2, zf_0_3, zf_0_4, zf_12_0, zf_12_1, zf_12_2, zf_12_4, zf_12_5, zf_20_1, zf_20_2, zf_20_3, zf_20_4, zf_20_6, zf_26_0, zf_26_1, zf_26_2, zf_26_3, zf_32_0, zf_32_1, zf_32_3, zf_32_4, zf_32_5, zf_32_6, zi_36, zi_37, hv2, mul])
      have pl := La_PQ ho hf hj
      have pr := Ra_PQ ho hf hj
      have c1 : ∀ i, i < n → M1 36 i = nI (gd (cp (La n c j) (ge B m)) i) := fun i hi => by
        rw [i1 i hi, cp_gd pq hi]
        unfold La
        rw [fl_gd (pq.gl hi)]
      obtain ⟨B2, M2, e2, b2, f2, s2, l2⟩ := qM_joinsF h7 (cp_PQ pl pq) c1 (q1.fr s1)
      have x2 : (∃ W, B2 = B1 ++ W) ∧ GE n c B2 ∧ cp (La n c j) (ge B m) ∈ B2 := by
        rcases l2 with ⟨rfl, z⟩ | rfl
        · exact ⟨⟨[], (List.append_nil _).symm⟩, q4, z⟩
        · exact ⟨⟨_, rfl⟩, (q4.add hj in1 pq).1, List.mem_append.mpr (Or.inr (List.mem_singleton.mpr rfl))⟩
      obtain ⟨⟨W2, x2⟩, x3, x4⟩ := x2
      have b52 := (b2.len h7).1
      have m2 : m < B2.length := by rw [x2, List.length_append]; omega
      have e02 : ge B2 m = ge B m := by rw [x2, ge_app m1, e0]
      have in2 : ge B m ∈ B2 := by rw [← e02]; exact ge_mem m2
      have g1 : gF M' M1 := fun q j a _ _ => s1 q j a
      have fr2 : gF M M2 := q2.trans (g1.trans f2)
      have row2 : ∀ i, i < n → M2 37 (7 * m + i) = nI (gd (ge B m) i) := fun i hi => by rw [← e02]; exact b2.2.2.1 m i m2 hi
      obtain ⟨M3, e3, i3, s3⟩ := qM_imgF (c' := zc_M_group_6) (s' := zs_M_group_6) (ls0 := fun i => lsG t n B2.length m (some (.int (nI j))) (some (.int (nI i)))) (f := fun v => c v j) (m := m) pq row2 (fun i M2 hi => by simp (disch := omega) [zc_M_group_6, lsG, zmeth, xm_en, zret, zretz, zretv, zseq, zst, zinc, zkl, zskip, zk, zi, za, zbin, zdiv, zrem, zgi, zgr, zld, zldr, zlen, zn, zc, zcall, zcallv, zrcv, zdo, zdov, zpf, zpfc, zas, zasc, zmin, zmax, zcmp, zcz, zand_e, zor_e, zite_e, zbite_e, zif_e, znot_e, z_add, z_sub, z_mul, z_and, z_or, z_xor, z_shl, z_shr, zcpy, -List.getElem?_cons_succ, zg_0, zg_1, zg_2, zg_3, zg_4, zg_5, zg_6, zg_7, zg_8, zg_9, zc_lt, zc_le, zc_gt, zc_ge, zc_eq, zc_ne, zc_lt0, zc_ge0, zc_gt0, zc_eq0, zc_ne0, zb_ne, zb_eq, zb_01, z_00, z_01, z_11, zb_f, zb_T, zb_F, zbm1, zbm2, zbm5, zbm6, zbm3, zbm4, nI_clamp, zmod_n, pk_div, nI_ne0, pk_mul, nI_add, nI_1, hi]) (fun M2 => by simp (disch := omega) [zc_M_group_6, lsG, zmeth, xm_en, zret, zretz, zretv, zseq, zst, zinc, zkl, zskip, zk, zi, za, zbin, zdiv, zrem, zgi, zgr, zld, zldr, zlen, zn, zc, zcall, zcallv, zrcv, zdo, zdov, zpf, zpfc, zas, zasc, zmin, zmax, zcmp, zcz, zand_e, zor_e, zite_e, zbite_e, zif_e, znot_e, z_add, z_sub, z_mul, z_and, z_or, z_xor, z_shl, z_shr, zcpy, -List.getElem?_cons_succ, zg_0, zg_1, zg_2, zg_3, zg_4, zg_5, zg_6, zg_7, zg_8, zg_9, zc_lt, zc_le, zc_gt, zc_ge, zc_eq, zc_ne, zc_lt0, zc_ge0, zc_gt0, zc_eq0, zc_ne0, zb_ne, zb_eq, zb_01, z_00, z_01, z_11, zb_f, zb_T, zb_F, zbm1, zbm2, zbm5, zbm6, zbm3, zbm4, nI_clamp, zmod_n, pk_div, nI_ne0, pk_mul, nI_add, nI_1]) (fun i M4 v hi hv fr hv2 => by
        have rt : rT M4 t n c := (fr2.rT h8 h).same h8 (fr _ _ (by decide)) (fun j _ _ => fr _ _ (by decide))
        have mul := qM_mul ht rt h8 hf hv hj
        simp (disch := omega) [zs_M_group_6, lsG, zmeth, xm_en, zret, zretz, zretv, zseq, zst, zinc, zkl, zskip, zk, zi, za, zbin, zdiv, zrem, zgi, zgr, zld, zldr, zlen, zn, zc, zcall, zcallv, zrcv, zdo, zdov, zpf, zpfc, zas, zasc, zmin, zmax, zcmp, zcz, zand_e, zor_e, zite_e, zbite_e, zif_e, znot_e, z_add, z_sub, z_mul, z_and, z_or, z_xor, z_shl, z_shr, zcpy, -List.getElem?_cons_succ, zg_0, zg_1, zg_2, zg_3, zg_4, zg_5, zg_6, zg_7, zg_8, zg_9, zc_lt, zc_le, zc_gt, zc_ge, zc_eq, zc_ne, zc_lt0, zc_ge0, zc_gt0, zc_eq0, zc_ne0, zb_ne, zb_eq, zb_01, z_00, z_01, z_11, zb_f, zb_T, zb_F, zbm1, zbm2, zbm5, zbm6, zbm3, zbm4, nI_clamp, zmod_n, pk_div, nI_ne0, pk_mul, nI_add, nI_1, zt_0, zt_12, zt_20, zt_26, zt_32, zf_0_0, zf_0_1, zf_0_2, zf_0_3, zf_0_4, zf_12_0, zf_12_1, zf_12_2, zf_12_4, zf_12_5, zf_20_1, zf_20_2, zf_20_3, zf_20_4, zf_20_6, zf_26_0, zf_26_1, zf_26_2, zf_26_3, zf_32_0, zf_32_1, zf_32_3, zf_32_4, zf_32_5, zf_32_6, zi_36, zi_37, hv2, mul])
      have c3 : ∀ i, i < n → M3 36 i = nI (gd (cp (Ra n c j) (ge B m)) i) := fun i hi => by
        rw [i3 i hi, cp_gd pq hi]
        unfold Ra
        rw [fl_gd (pq.gl hi)]
      obtain ⟨B4, M4, e4, b4, f4, s4, l4⟩ := qM_joinsF h7 (cp_PQ pr pq) c3 (b2.fr s3)
      have x5 : (∃ W, B4 = B2 ++ W) ∧ GE n c B4 ∧ cp (Ra n c j) (ge B m) ∈ B4 := by
        rcases l4 with ⟨rfl, z⟩ | rfl
        · exact ⟨⟨[], (List.append_nil _).symm⟩, x3, z⟩
        · exact ⟨⟨_, rfl⟩, (x3.add hj in2 pq).2, List.mem_append.mpr (Or.inr (List.mem_singleton.mpr rfl))⟩
      obtain ⟨⟨W4, x5⟩, x6, x7⟩ := x5
      have b54 := (b4.len h7).1
      have g3 : gF M2 M3 := fun q j a _ _ => s3 q j a
      have sub : ∀ p, p ∈ B1 → p ∈ B4 := fun p hp => by rw [x5, x2]; exact List.mem_append.mpr (Or.inl (List.mem_append.mpr (Or.inl hp)))
      refine ⟨none, lsG t n B4.length m (some (.int (nI (j + 1)))) none, M4, ?_, B4, rfl, b4, fr2.trans (g3.trans f4), ⟨W ++ (W2 ++ W4), by rw [x5, x2, qW, List.append_assoc, List.append_assoc]⟩, x6, fun a ha => ?_⟩
      · simp only [lsG] at e1 e3 ⊢
        simp (disch := omega) [zs_M_group_4, zmeth, xm_en, zret, zretz, zretv, zseq, zst, zinc, zkl, zskip, zk, zi, za, zbin, zdiv, zrem, zgi, zgr, zld, zldr, zlen, zn, zc, zcall, zcallv, zrcv, zdo, zdov, zpf, zpfc, zas, zasc, zmin, zmax, zcmp, zcz, zand_e, zor_e, zite_e, zbite_e, zif_e, znot_e, z_add, z_sub, z_mul, z_and, z_or, z_xor, z_shl, z_shr, zcpy, -List.getElem?_cons_succ, zg_0, zg_1, zg_2, zg_3, zg_4, zg_5, zg_6, zg_7, zg_8, zg_9, zc_lt, zc_le, zc_gt, zc_ge, zc_eq, zc_ne, zc_lt0, zc_ge0, zc_gt0, zc_eq0, zc_ne0, zb_ne, zb_eq, zb_01, z_00, z_01, z_11, zb_f, zb_T, zb_F, zbm1, zbm2, zbm5, zbm6, zbm3, zbm4, nI_clamp, zmod_n, pk_div, nI_ne0, pk_mul, nI_add, nI_1, zt_0, zt_12, zt_20, zt_26, zt_32, zf_0_0, zf_0_1, zf_0_2, zf_0_3, zf_0_4, zf_12_0, zf_12_1, zf_12_2, zf_12_4, zf_12_5, zf_20_1, zf_20_2, zf_20_3, zf_20_4, zf_20_6, zf_26_0, zf_26_1, zf_26_2, zf_26_3, zf_32_0, zf_32_1, zf_32_3, zf_32_4, zf_32_5, zf_32_6, e1, e2, e3, e4]
      · by_cases z : a = j
        · subst z
          exact ⟨by rw [x5]; exact List.mem_append.mpr (Or.inl x4), x7⟩
        · have := q5 a (by omega)
          exact ⟨sub _ this.1, sub _ this.2⟩) _ M ⟨B, rfl, hB, fun _ _ _ _ _ => rfl, ⟨[], (List.append_nil _).symm⟩, hG, fun a ha => absurd ha (Nat.not_lt_zero a)⟩
  exact ⟨B', M', w1, w2, w3, w4, w5, w6⟩
theorem qM_gr3F {t n : Nat} {c : tC} (ht : t < 6) (h7 : n ≤ 7) (ho : tO n c) (hf : tF n c) : ∀ (d m : Nat) (B : List (List Nat)) (M : zM), 5040 ≤ m + d → m ≤ B.length → rT M t n c → GM M n B → GE n c B → (∀ k a, k < m → a < n → cp (La n c a) (ge B k) ∈ B ∧ cp (Ra n c a) (ge B k) ∈ B) → ∃ B' M', zwh zc_M_group_3 zs_M_group_3 (lsG t n B.length m none none) M = some (none, lsG t n B'.length B'.length none none, M') ∧ GM M' n B' ∧ gF M M' ∧ (∃ W, B' = B ++ W) ∧ GE n c B' ∧ ∀ k a, k < B'.length → a < n → cp (La n c a) (ge B' k) ∈ B' ∧ cp (Ra n c a) (ge B' k) ∈ B' := by
  have stop : ∀ (m : Nat) (B : List (List Nat)) (M : zM), m = B.length → GM M n B → zwh zc_M_group_3 zs_M_group_3 (lsG t n B.length m none none) M = some (none, lsG t n B.length B.length none none, M) := fun m B M e hB => by
    subst e
    have b5 := (hB.len h7).1
    exact zwh_f (by simp (disch := omega) [zc_M_group_3, lsG, zmeth, xm_en, zret, zretz, zretv, zseq, zst, zinc, zkl, zskip, zk, zi, za, zbin, zdiv, zrem, zgi, zgr, zld, zldr, zlen, zn, zc, zcall, zcallv, zrcv, zdo, zdov, zpf, zpfc, zas, zasc, zmin, zmax, zcmp, zcz, zand_e, zor_e, zite_e, zbite_e, zif_e, znot_e, z_add, z_sub, z_mul, z_and, z_or, z_xor, z_shl, z_shr, zcpy, -List.getElem?_cons_succ, zg_0, zg_1, zg_2, zg_3, zg_4, zg_5, zg_6, zg_7, zg_8, zg_9, zc_lt, zc_le, zc_gt, zc_ge, zc_eq, zc_ne, zc_lt0, zc_ge0, zc_gt0, zc_eq0, zc_ne0, zb_ne, zb_eq, zb_01, z_00, z_01, z_11, zb_f, zb_T, zb_F, zbm1, zbm2, zbm5, zbm6, zbm3, zbm4, nI_clamp, zmod_n, pk_div, nI_ne0, pk_mul, nI_add, nI_1])
  intro d
  induction d with
  | zero =>
    intro m B M h1 h2 h hB hG hm
    have b5 := (hB.len h7).1
    have e : m = B.length := by omega
    exact ⟨B, M, stop m B M e hB, hB, fun _ _ _ _ _ => rfl, ⟨[], (List.append_nil _).symm⟩, hG, fun k a hk => hm k a (by omega)⟩
  | succ d ih =>
    intro m B M h1 h2 h hB hG hm
    have b5 := (hB.len h7).1
    rcases Nat.lt_or_ge m B.length with q | q
    · obtain ⟨B1, M1, e1, b1, f1, ⟨W, x1⟩, x2, x3⟩ := qM_gr4F ht h h7 ho hf q hB hG
      have l1 : B.length ≤ B1.length := by rw [x1, List.length_append]; omega
      have b51 := (b1.len h7).1
      obtain ⟨B2, M2, e2, b2, f2, ⟨W2, y1⟩, y2, y3⟩ := ih (m + 1) B1 M1 (by omega) (by omega) (f1.rT (by omega) h) b1 x2 (fun k a hk ha => by
        have eg : ge B1 k = ge B k := by rw [x1, ge_app (by omega)]
        rw [eg]
        by_cases z : k = m
        · subst z
          exact x3 a ha
        · have := hm k a (by omega) ha
          exact ⟨by rw [x1]; exact List.mem_append.mpr (Or.inl this.1), by rw [x1]; exact List.mem_append.mpr (Or.inl this.2)⟩)
      refine ⟨B2, M2, zwh_t (ls2 := lsG t n B1.length (m + 1) none none) (M2 := M1) (M1 := M) ?_ ?_ e2, b2, f1.trans f2, ⟨W ++ W2, by rw [y1, x1, List.append_assoc]⟩, y2, y3⟩
      · simp (disch := omega) [zc_M_group_3, lsG, zmeth, xm_en, zret, zretz, zretv, zseq, zst, zinc, zkl, zskip, zk, zi, za, zbin, zdiv, zrem, zgi, zgr, zld, zldr, zlen, zn, zc, zcall, zcallv, zrcv, zdo, zdov, zpf, zpfc, zas, zasc, zmin, zmax, zcmp, zcz, zand_e, zor_e, zite_e, zbite_e, zif_e, znot_e, z_add, z_sub, z_mul, z_and, z_or, z_xor, z_shl, z_shr, zcpy, -List.getElem?_cons_succ, zg_0, zg_1, zg_2, zg_3, zg_4, zg_5, zg_6, zg_7, zg_8, zg_9, zc_lt, zc_le, zc_gt, zc_ge, zc_eq, zc_ne, zc_lt0, zc_ge0, zc_gt0, zc_eq0, zc_ne0, zb_ne, zb_eq, zb_01, z_00, z_01, z_11, zb_f, zb_T, zb_F, zbm1, zbm2, zbm5, zbm6, zbm3, zbm4, nI_clamp, zmod_n, pk_div, nI_ne0, pk_mul, nI_add, nI_1, q]
      · simp only [lsG] at e1 ⊢
        simp (disch := omega) [zs_M_group_3, zmeth, xm_en, zret, zretz, zretv, zseq, zst, zinc, zkl, zskip, zk, zi, za, zbin, zdiv, zrem, zgi, zgr, zld, zldr, zlen, zn, zc, zcall, zcallv, zrcv, zdo, zdov, zpf, zpfc, zas, zasc, zmin, zmax, zcmp, zcz, zand_e, zor_e, zite_e, zbite_e, zif_e, znot_e, z_add, z_sub, z_mul, z_and, z_or, z_xor, z_shl, z_shr, zcpy, -List.getElem?_cons_succ, zg_0, zg_1, zg_2, zg_3, zg_4, zg_5, zg_6, zg_7, zg_8, zg_9, zc_lt, zc_le, zc_gt, zc_ge, zc_eq, zc_ne, zc_lt0, zc_ge0, zc_gt0, zc_eq0, zc_ne0, zb_ne, zb_eq, zb_01, z_00, z_01, z_11, zb_f, zb_T, zb_F, zbm1, zbm2, zbm5, zbm6, zbm3, zbm4, nI_clamp, zmod_n, pk_div, nI_ne0, pk_mul, nI_add, nI_1, e1]
    · have e : m = B.length := by omega
      exact ⟨B, M, stop m B M e hB, hB, fun _ _ _ _ _ => rfl, ⟨[], (List.append_nil _).symm⟩, hG, fun k a hk => hm k a (by omega)⟩
/-- the group that all turns make -/
def GRP (n : Nat) (c : tC) (B : List (List Nat)) : Prop := (∀ p, p ∈ B → PQ n p) ∧ B.Nodup ∧ List.range n ∈ B ∧ GE n c B ∧ ∀ p a, p ∈ B → a < n → cp (La n c a) p ∈ B ∧ cp (Ra n c a) p ∈ B
/-- the reference's answer, with a list of its members -/
def aGM (T : tS) (x : Int32) (r : Int32) : Prop := (zlt x 4 = false ∧ r = -1) ∨ (zlt x 4 = true ∧ (tB (T x.toNatClampNeg).1 (T x.toNatClampNeg).2 = false ∨ 7 < (T x.toNatClampNeg).1) ∧ r = -2) ∨ (zlt x 4 = true ∧ tB (T x.toNatClampNeg).1 (T x.toNatClampNeg).2 = true ∧ (T x.toNatClampNeg).1 ≤ 7 ∧ ∃ B, GRP (T x.toNatClampNeg).1 (T x.toNatClampNeg).2 B ∧ r = nI B.length)
theorem qM_groupF {T : tS} {M : zM} (x : Int32) (hR : RS T M) (hT : TO T) : ∃ r M', zf_M_group [.ref 32, .int x] M = some (some r, M') ∧ zsr M M' ∧ aGM T x r := by
  rcases z3 x (n := 4) (by decide) with h | ⟨t, ht, rfl⟩
  · refine ⟨-1, M, ?_, zsr.refl M, Or.inl ⟨h, rfl⟩⟩
    simp [zf_M_group, zmeth, xm_en, zret, zretz, zretv, zseq, zst, zinc, zkl, zskip, zk, zi, za, zbin, zdiv, zrem, zgi, zgr, zld, zldr, zlen, zn, zc, zcall, zcallv, zrcv, zdo, zdov, zpf, zpfc, zas, zasc, zmin, zmax, zcmp, zcz, zand_e, zor_e, zite_e, zbite_e, zif_e, znot_e, z_add, z_sub, z_mul, z_and, z_or, z_xor, z_shl, z_shr, zcpy, -List.getElem?_cons_succ, zg_0, zg_1, zg_2, zg_3, zg_4, zg_5, zg_6, zg_7, zg_8, zg_9, qM_isTable, zb_ne, h]
  · have e := zlt_y ht (by decide)
    have ct : (nI t).toNatClampNeg = t := nI_clamp (by omega)
    have h8 := (hT t ht).1.2
    have h6 : t < 6 := by omega
    cases hb : tB (T t).1 (T t).2 with
    | false =>
      refine ⟨-2, M, ?_, zsr.refl M, Or.inr (Or.inl ⟨e, Or.inl (by rw [ct]; exact hb), rfl⟩)⟩
      simp (disch := omega) [zf_M_group, zmeth, xm_en, zret, zretz, zretv, zseq, zst, zinc, zkl, zskip, zk, zi, za, zbin, zdiv, zrem, zgi, zgr, zld, zldr, zlen, zn, zc, zcall, zcallv, zrcv, zdo, zdov, zpf, zpfc, zas, zasc, zmin, zmax, zcmp, zcz, zand_e, zor_e, zite_e, zbite_e, zif_e, znot_e, z_add, z_sub, z_mul, z_and, z_or, z_xor, z_shl, z_shr, zcpy, -List.getElem?_cons_succ, zg_0, zg_1, zg_2, zg_3, zg_4, zg_5, zg_6, zg_7, zg_8, zg_9, zt_0, zt_12, zt_20, zt_26, zt_32, zf_0_0, zf_0_1, zf_0_2, zf_0_3, zf_0_4, zf_12_0, zf_12_1, zf_12_2, zf_12_4, zf_12_5, zf_20_1, zf_20_2, zf_20_3, zf_20_4, zf_20_6, zf_26_0, zf_26_1, zf_26_2, zf_26_3, zf_32_0, zf_32_1, zf_32_3, zf_32_4, zf_32_5, zf_32_6, qM_isTable, zb_ne, e, qM_isFull h6 (hR t ht) h8, hb]
    | true =>
      by_cases h7 : 7 < (T t).1
      · refine ⟨-2, M, ?_, zsr.refl M, Or.inr (Or.inl ⟨e, Or.inr (by rw [ct]; exact h7), rfl⟩)⟩
        simp (disch := omega) [zf_M_group, zmeth, xm_en, zret, zretz, zretv, zseq, zst, zinc, zkl, zskip, zk, zi, za, zbin, zdiv, zrem, zgi, zgr, zld, zldr, zlen, zn, zc, zcall, zcallv, zrcv, zdo, zdov, zpf, zpfc, zas, zasc, zmin, zmax, zcmp, zcz, zand_e, zor_e, zite_e, zbite_e, zif_e, znot_e, z_add, z_sub, z_mul, z_and, z_or, z_xor, z_shl, z_shr, zcpy, -List.getElem?_cons_succ, zg_0, zg_1, zg_2, zg_3, zg_4, zg_5, zg_6, zg_7, zg_8, zg_9, zt_0, zt_12, zt_20, zt_26, zt_32, zf_0_0, zf_0_1, zf_0_2, zf_0_3, zf_0_4, zf_12_0, zf_12_1, zf_12_2, zf_12_4, zf_12_5, zf_20_1, zf_20_2, zf_20_3, zf_20_4, zf_20_6, zf_26_0, zf_26_1, zf_26_2, zf_26_3, zf_32_0, zf_32_1, zf_32_3, zf_32_4, zf_32_5, zf_32_6, qM_isTable, zb_ne, e, qM_isFull h6 (hR t ht) h8, hb, zi_33, nI_clamp, (hR t ht).1, zc_gt, h7]
      · have hf := (tB_iff (hT t ht)).mp hb
        have h7' : (T t).1 ≤ 7 := by omega
        obtain ⟨M1, e1, f1, z1⟩ := qM_gr1 (M := M) (t := t) (n := (T t).1)
        obtain ⟨M2, e2, f2, i2, s2⟩ := qM_gr2 (M := M1) (t := t) h7'
        have rb : ∀ p, rr (T t).1 (gd p) (T t).1 < 5040 := fun p => by have := rr_lt (T t).1 (gd p) (T t).1 (Nat.le_refl _); have := ff_le (T t).1 h7' (T t).1 (Nat.le_refl _); omega
        have b2 : GM M2 (T t).1 [] := ⟨fun p hp => absurd hp List.not_mem_nil, List.nodup_nil, fun m i hm => absurd hm (Nat.not_lt_zero m), fun p _ => ⟨fun _ => List.not_mem_nil, fun _ => by rw [s2, z1 _ (rb p)]⟩⟩
        obtain ⟨B3, M3, e3, b3, f3, s3, l3⟩ := qM_joinsF h7' id_PQ (fun i hi => by rw [gd_rg hi]; exact (i2 i hi).1) b2
        have l3 : B3 = [List.range (T t).1] := by
          rcases l3 with ⟨_, z⟩ | z
          · exact absurd z List.not_mem_nil
          · exact z
        obtain ⟨B4, M4, e4, b4, f4, ⟨W, x1⟩, x2, x3⟩ := qM_gr3F (t := t) h6 h7' (hT t ht) hf 5040 0 B3 M3 (by omega) (by omega) ((f1.trans (f2.trans f3)).rT h8 (hR t ht)) b3 (fun H h1 _ p hp => by
          rw [l3, List.mem_singleton] at hp
          rw [hp]
          exact h1) (fun k a hk => absurd hk (Nat.not_lt_zero k))
        have b5 := (b4.len h7').1
        refine ⟨nI B4.length, M4, ?_, (f1.trans (f2.trans (f3.trans f4))).sr, Or.inr (Or.inr ⟨e, by rw [ct]; exact hb, by rw [ct]; exact h7', B4, ?_, rfl⟩)⟩
        · simp only [lsG] at e4
          have e3' : zf_M_joins [.ref 32, .int (nI (T t).1), .int (nI 0)] M2 = some (some (nI B3.length), M3) := e3
          simp (disch := omega) [zf_M_group, zmeth, xm_en, zret, zretz, zretv, zseq, zst, zinc, zkl, zskip, zk, zi, za, zbin, zdiv, zrem, zgi, zgr, zld, zldr, zlen, zn, zc, zcall, zcallv, zrcv, zdo, zdov, zpf, zpfc, zas, zasc, zmin, zmax, zcmp, zcz, zand_e, zor_e, zite_e, zbite_e, zif_e, znot_e, z_add, z_sub, z_mul, z_and, z_or, z_xor, z_shl, z_shr, zcpy, -List.getElem?_cons_succ, zg_0, zg_1, zg_2, zg_3, zg_4, zg_5, zg_6, zg_7, zg_8, zg_9, zt_0, zt_12, zt_20, zt_26, zt_32, zf_0_0, zf_0_1, zf_0_2, zf_0_3, zf_0_4, zf_12_0, zf_12_1, zf_12_2, zf_12_4, zf_12_5, zf_20_1, zf_20_2, zf_20_3, zf_20_4, zf_20_6, zf_26_0, zf_26_1, zf_26_2, zf_26_3, zf_32_0, zf_32_1, zf_32_3, zf_32_4, zf_32_5, zf_32_6, zc_lt, zc_le, zc_gt, zc_ge, zc_eq, zc_ne, zc_lt0, zc_ge0, zc_gt0, zc_eq0, zc_ne0, zb_ne, zb_eq, zb_01, z_00, z_01, z_11, zb_f, zb_T, zb_F, zbm1, zbm2, zbm5, zbm6, zbm3, zbm4, nI_clamp, zmod_n, pk_div, nI_ne0, pk_mul, nI_add, nI_1, qM_isTable, zb_ne, e, qM_isFull h6 (hR t ht) h8, hb, zi_33, nI_clamp, (hR t ht).1, zc_gt, h7, e1, e2, e3', e4]
        · rw [ct]
          refine ⟨b4.1, b4.2.1, ?_, x2, fun p a hp ha => ?_⟩
          · rw [x1, l3]
            exact List.mem_append.mpr (Or.inl (List.mem_singleton.mpr rfl))
          · obtain ⟨k, k1, k2⟩ := ge_of hp
            rw [← k2]
            exact x3 k a k1 ha
