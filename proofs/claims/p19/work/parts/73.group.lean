/-! group: the reference's loops -/
theorem gF.trans {M M1 M2 : zM} (h : gF M M1) (h2 : gF M1 M2) : gF M M2 := fun q j a b c => (h2 q j a b c).trans (h q j a b c)
theorem gF.rT {M M' : zM} {t n : Nat} {c : tC} (h8 : n ≤ 8) (h : gF M M') (hr : rT M t n c) : rT M' t n c := hr.same h8 (h _ _ (by decide) (by decide) (by decide)) (fun j _ _ => h _ _ (by decide) (by decide) (by decide))
/-- an image is made of member m by a function f into the elements -/
theorem qM_img {c' : zB} {s' : zS} {M0 M : zM} {n m many : Nat} {ls0 : Nat → zL} {f : Nat → Nat} (h7 : n ≤ 7) (hf : ∀ v, v < n → f v < n) (hm : m < many) (hB : GB M0 n many)
    (hM : M = M0) (hc : ∀ j M', j < n → c' (ls0 j) M' = some (true, M')) (he : ∀ M', c' (ls0 n) M' = some (false, M'))
    (hs : ∀ j M' v, j < n → v < n → gF M0 M' → M' 37 (7 * m + j) = nI v → s' (ls0 j) M' = some (none, ls0 (j + 1), zup M' 36 j (nI (f v)))) : ∃ M' g, zwh c' s' (ls0 0) M = some (none, ls0 n, M') ∧ IM M' n g ∧ GB M' n many ∧ gF M0 M' := by
  subst hM
  obtain ⟨r, ls, M', w1, rfl, rfl, w2, w3⟩ := zwh_inv (c := c') (s := s') (fun j ls M' => ls = ls0 j ∧ (∀ i, i < j → ∃ v, v < n ∧ M' 36 i = nI v) ∧ (∀ q i, q ≠ 36 → M' q i = M q i)) (Q := fun r ls M' => r = none ∧ ls = ls0 n ∧ (∀ i, i < n → ∃ v, v < n ∧ M' 36 i = nI v) ∧ (∀ q i, q ≠ 36 → M' q i = M q i)) (n := n) (fun ls M' h => by
      obtain ⟨rfl, a1, a2⟩ := h
      exact ⟨he M', rfl, rfl, a1, a2⟩) n 0 (by omega) (fun j ls M' _ hj h => by
      obtain ⟨rfl, a1, a2⟩ := h
      obtain ⟨v, v1, v2⟩ := hB.2 m j hm hj
      refine ⟨hc j M' hj, none, ls0 (j + 1), zup M' 36 j (nI (f v)), hs j M' v hj v1 (fun q i b1 _ _ => a2 q i b1) (by rw [a2 37 _ (by omega)]; exact v2), rfl, fun i hi => ?_, fun q i hq => ?_⟩
      · by_cases q : i = j
        · exact ⟨f v, hf v v1, by rw [zup_e, if_pos ⟨rfl, q⟩]⟩
        · obtain ⟨u, u1, u2⟩ := a1 i (by omega)
          exact ⟨u, u1, by rw [zup_e, if_neg (by omega)]; exact u2⟩
      · rw [zup_e, if_neg (by omega)]
        exact a2 q i hq) (ls0 0) M ⟨rfl, fun i hi => absurd hi (Nat.not_lt_zero i), fun _ _ _ => rfl⟩
  have pick : ∀ i, ∃ v, i < n → v < n ∧ M' 36 i = nI v := fun i => by
    by_cases hi : i < n
    · obtain ⟨v, v1, v2⟩ := w2 i hi
      exact ⟨v, fun _ => ⟨v1, v2⟩⟩
    · exact ⟨0, fun q => absurd q hi⟩
  refine ⟨M', fun i => Classical.choose (pick i), w1, fun i hi => ?_, ⟨?_, fun a i ha hi => ?_⟩, fun q j q1 _ _ => w3 q j q1⟩
  · have := Classical.choose_spec (pick i) hi
    exact ⟨this.2, this.1⟩
  · rw [← hB.1]
    exact zsum_congr (fun k _ => by unfold mb; rw [w3 38 k (by omega)])
  · obtain ⟨v, v1, v2⟩ := hB.2 a i ha hi
    exact ⟨v, v1, by rw [w3 37 _ (by omega)]; exact v2⟩
def lsG (t n many m : Nat) (a b : Option Value) : zL := [some (Value.ref (32)), some (Value.int (nI t)), some (Value.int (nI n)), some (Value.int (nI many)), some (Value.int (nI m)), a, b]
theorem qM_gr4 {M : zM} {t n many m : Nat} {c : tC} (ht : t < 6) (h : rT M t n c) (h7 : n ≤ 7) (hf : tF n c) (hm : m < many) (hB : GB M n many) : ∃ many' M', zwh zc_M_group_4 zs_M_group_4 (lsG t n many m (some (.int (nI 0))) none) M = some (none, lsG t n many' m (some (.int (nI n))) none, M') ∧ GB M' n many' ∧ gF M M' ∧ many ≤ many' := by
  have h8 : n ≤ 8 := by omega
  obtain ⟨r, ls, M', w1, rfl, many', rfl, w2, w3, w4⟩ := zwh_inv (c := zc_M_group_4) (s := zs_M_group_4) (fun j ls M' => ∃ k, ls = lsG t n k m (some (.int (nI j))) none ∧ GB M' n k ∧ gF M M' ∧ many ≤ k) (Q := fun r ls M' => r = none ∧ ∃ k, ls = lsG t n k m (some (.int (nI n))) none ∧ GB M' n k ∧ gF M M' ∧ many ≤ k) (n := n) (fun ls M' q => by
      obtain ⟨k, rfl, q1, q2, q3⟩ := q
      refine ⟨?_, rfl, k, rfl, q1, q2, q3⟩
      simp (disch := omega) [zc_M_group_4, lsG, zmeth, xm_en, zret, zretz, zretv, zseq, zst, zinc, zkl, zskip, zk, zi, za, zbin, zdiv, zrem, zgi, zgr, zld, zldr, zlen, zn, zc, zcall, zcallv, zrcv, zdo, zdov, zpf, zpfc, zas, zasc, zmin, zmax, zcmp, zcz, zand_e, zor_e, zite_e, zbite_e, zif_e, znot_e, z_add, z_sub, z_mul, z_and, z_or, z_xor, z_shl, z_shr, zcpy, -List.getElem?_cons_succ, zg_0, zg_1, zg_2, zg_3, zg_4, zg_5, zg_6, zg_7, zg_8, zg_9, zc_lt, zc_le, zc_gt, zc_ge, zc_eq, zc_ne, zc_lt0, zc_ge0, zc_gt0, zc_eq0, zc_ne0, zb_ne, zb_eq, zb_01, z_00, z_01, z_11, zb_f, zb_T, zb_F, zbm1, zbm2, zbm5, zbm6, zbm3, zbm4, nI_clamp, zmod_n, pk_div, nI_ne0, pk_mul, nI_add, nI_1]) n 0 (by omega) (fun j ls M' _ hj q => by
      obtain ⟨k, rfl, q1, q2, q3⟩ := q
      refine ⟨by simp (disch := omega) [zc_M_group_4, lsG, zmeth, xm_en, zret, zretz, zretv, zseq, zst, zinc, zkl, zskip, zk, zi, za, zbin, zdiv, zrem, zgi, zgr, zld, zldr, zlen, zn, zc, zcall, zcallv, zrcv, zdo, zdov, zpf, zpfc, zas, zasc, zmin, zmax, zcmp, zcz, zand_e, zor_e, zite_e, zbite_e, zif_e, znot_e, z_add, z_sub, z_mul, z_and, z_or, z_xor, z_shl, z_shr, zcpy, -List.getElem?_cons_succ, zg_0, zg_1, zg_2, zg_3, zg_4, zg_5, zg_6, zg_7, zg_8, zg_9, zc_lt, zc_le, zc_gt, zc_ge, zc_eq, zc_ne, zc_lt0, zc_ge0, zc_gt0, zc_eq0, zc_ne0, zb_ne, zb_eq, zb_01, z_00, z_01, z_11, zb_f, zb_T, zb_F, zbm1, zbm2, zbm5, zbm6, zbm3, zbm4, nI_clamp, zmod_n, pk_div, nI_ne0, pk_mul, nI_add, nI_1, hj], ?_⟩
      have k5 : k ≤ 5040 := by rw [← q1.1]; exact zsum_b (mb_le M')
      obtain ⟨M1, g1, e1, i1, b1, f1⟩ := qM_img (c' := zc_M_group_5) (s' := zs_M_group_5) (ls0 := fun i => lsG t n k m (some (.int (nI j))) (some (.int (nI i)))) (f := fun v => c j v) (m := m) h7 (fun v hv => hf j v hj hv) (show m < k by omega) q1 rfl (fun i M2 hi => by simp (disch := omega) [zc_M_group_5, lsG, zmeth, xm_en, zret, zretz, zretv, zseq, zst, zinc, zkl, zskip, zk, zi, za, zbin, zdiv, zrem, zgi, zgr, zld, zldr, zlen, zn, zc, zcall, zcallv, zrcv, zdo, zdov, zpf, zpfc, zas, zasc, zmin, zmax, zcmp, zcz, zand_e, zor_e, zite_e, zbite_e, zif_e, znot_e, z_add, z_sub, z_mul, z_and, z_or, z_xor, z_shl, z_shr, zcpy, -List.getElem?_cons_succ, zg_0, zg_1, zg_2, zg_3, zg_4, zg_5, zg_6, zg_7, zg_8, zg_9, zc_lt, zc_le, zc_gt, zc_ge, zc_eq, zc_ne, zc_lt0, zc_ge0, zc_gt0, zc_eq0, zc_ne0, zb_ne, zb_eq, zb_01, z_00, z_01, z_11, zb_f, zb_T, zb_F, zbm1, zbm2, zbm5, zbm6, zbm3, zbm4, nI_clamp, zmod_n, pk_div, nI_ne0, pk_mul, nI_add, nI_1, hi]) (fun M2 => by simp (disch := omega) [zc_M_group_5, lsG, zmeth, xm_en, zret, zretz, zretv, zseq, zst, zinc, zkl, zskip, zk, zi, za, zbin, zdiv, zrem, zgi, zgr, zld, zldr, zlen, zn, zc, zcall, zcallv, zrcv, zdo, zdov, zpf, zpfc, zas, zasc, zmin, zmax, zcmp, zcz, zand_e, zor_e, zite_e, zbite_e, zif_e, znot_e, z_add, z_sub, z_mul, z_and, z_or, z_xor, z_shl, z_shr, zcpy, -List.getElem?_cons_succ, zg_0, zg_1, zg_2, zg_3, zg_4, zg_5, zg_6, zg_7, zg_8, zg_9, zc_lt, zc_le, zc_gt, zc_ge, zc_eq, zc_ne, zc_lt0, zc_ge0, zc_gt0, zc_eq0, zc_ne0, zb_ne, zb_eq, zb_01, z_00, z_01, z_11, zb_f, zb_T, zb_F, zbm1, zbm2, zbm5, zbm6, zbm3, zbm4, nI_clamp, zmod_n, pk_div, nI_ne0, pk_mul, nI_add, nI_1]) (fun i M2 v hi hv fr hv2 => by
        have mul := qM_mul ht (fr.rT h8 (q2.rT h8 h)) h8 hf hj hv
        simp (disch := omega) [zs_M_group_5, lsG, zmeth, xm_en, zret, zretz, zretv, zseq, zst, zinc, zkl, zskip, zk, zi, za, zbin, zdiv, zrem, zgi, zgr, zld, zldr, zlen, zn, zc, zcall, zcallv, zrcv, zdo, zdov, zpf, zpfc, zas, zasc, zmin, zmax, zcmp, zcz, zand_e, zor_e, zite_e, zbite_e, zif_e, znot_e, z_add, z_sub, z_mul, z_and, z_or, z_xor, z_shl, z_shr, zcpy, -List.getElem?_cons_succ, zg_0, zg_1, zg_2, zg_3, zg_4, zg_5, zg_6, zg_7, zg_8, zg_9, zc_lt, zc_le, zc_gt, zc_ge, zc_eq, zc_ne, zc_lt0, zc_ge0, zc_gt0, zc_eq0, zc_ne0, zb_ne, zb_eq, zb_01, z_00, z_01, z_11, zb_f, zb_T, zb_F, zbm1, zbm2, zbm5, zbm6, zbm3, zbm4, nI_clamp, zmod_n, pk_div, nI_ne0, pk_mul, nI_add, nI_1, zt_0, zt_12, zt_20, zt_26, zt_32, zf_0_0, zf_0_1, zf_0_2, zf_0_3, zf_0_4, zf_12_0, zf_12_1, zf_12_2, zf_12_4, zf_12_5, zf_20_1, zf_20_2, zf_20_3, zf_20_4, zf_20_6, zf_26_0, zf_26_1, zf_26_2, zf_26_3, zf_32_0, zf_32_1, zf_32_3, zf_32_4, zf_32_5, zf_32_6, zi_36, zi_37, hv2, mul])
      obtain ⟨k2, M2, e2, b2, f2, s2, l2⟩ := qM_joins h7 i1 b1
      have k52 : k2 ≤ 5040 := by rw [← b2.1]; exact zsum_b (mb_le M2)
      have fr2 : gF M M2 := q2.trans (f1.trans f2)
      obtain ⟨M3, g3, e3, i3, b3, f3⟩ := qM_img (c' := zc_M_group_6) (s' := zs_M_group_6) (ls0 := fun i => lsG t n k2 m (some (.int (nI j))) (some (.int (nI i)))) (f := fun v => c v j) (m := m) h7 (fun v hv => hf v j hv hj) (show m < k2 by omega) b2 rfl (fun i M2 hi => by simp (disch := omega) [zc_M_group_6, lsG, zmeth, xm_en, zret, zretz, zretv, zseq, zst, zinc, zkl, zskip, zk, zi, za, zbin, zdiv, zrem, zgi, zgr, zld, zldr, zlen, zn, zc, zcall, zcallv, zrcv, zdo, zdov, zpf, zpfc, zas, zasc, zmin, zmax, zcmp, zcz, zand_e, zor_e, zite_e, zbite_e, zif_e, znot_e, z_add, z_sub, z_mul, z_and, z_or, z_xor, z_shl, z_shr, zcpy, -List.getElem?_cons_succ, zg_0, zg_1, zg_2, zg_3, zg_4, zg_5, zg_6, zg_7, zg_8, zg_9, zc_lt, zc_le, zc_gt, zc_ge, zc_eq, zc_ne, zc_lt0, zc_ge0, zc_gt0, zc_eq0, zc_ne0, zb_ne, zb_eq, zb_01, z_00, z_01, z_11, zb_f, zb_T, zb_F, zbm1, zbm2, zbm5, zbm6, zbm3, zbm4, nI_clamp, zmod_n, pk_div, nI_ne0, pk_mul, nI_add, nI_1, hi]) (fun M2 => by simp (disch := omega) [zc_M_group_6, lsG, zmeth, xm_en, zret, zretz, zretv, zseq, zst, zinc, zkl, zskip, zk, zi, za, zbin, zdiv, zrem, zgi, zgr, zld, zldr, zlen, zn, zc, zcall, zcallv, zrcv, zdo, zdov, zpf, zpfc, zas, zasc, zmin, zmax, zcmp, zcz, zand_e, zor_e, zite_e, zbite_e, zif_e, znot_e, z_add, z_sub, z_mul, z_and, z_or, z_xor, z_shl, z_shr, zcpy, -List.getElem?_cons_succ, zg_0, zg_1, zg_2, zg_3, zg_4, zg_5, zg_6, zg_7, zg_8, zg_9, zc_lt, zc_le, zc_gt, zc_ge, zc_eq, zc_ne, zc_lt0, zc_ge0, zc_gt0, zc_eq0, zc_ne0, zb_ne, zb_eq, zb_01, z_00, z_01, z_11, zb_f, zb_T, zb_F, zbm1, zbm2, zbm5, zbm6, zbm3, zbm4, nI_clamp, zmod_n, pk_div, nI_ne0, pk_mul, nI_add, nI_1]) (fun i M2 v hi hv fr hv2 => by
        have mul := qM_mul ht (fr.rT h8 (fr2.rT h8 h)) h8 hf hv hj
        simp (disch := omega) [zs_M_group_6, lsG, zmeth, xm_en, zret, zretz, zretv, zseq, zst, zinc, zkl, zskip, zk, zi, za, zbin, zdiv, zrem, zgi, zgr, zld, zldr, zlen, zn, zc, zcall, zcallv, zrcv, zdo, zdov, zpf, zpfc, zas, zasc, zmin, zmax, zcmp, zcz, zand_e, zor_e, zite_e, zbite_e, zif_e, znot_e, z_add, z_sub, z_mul, z_and, z_or, z_xor, z_shl, z_shr, zcpy, -List.getElem?_cons_succ, zg_0, zg_1, zg_2, zg_3, zg_4, zg_5, zg_6, zg_7, zg_8, zg_9, zc_lt, zc_le, zc_gt, zc_ge, zc_eq, zc_ne, zc_lt0, zc_ge0, zc_gt0, zc_eq0, zc_ne0, zb_ne, zb_eq, zb_01, z_00, z_01, z_11, zb_f, zb_T, zb_F, zbm1, zbm2, zbm5, zbm6, zbm3, zbm4, nI_clamp, zmod_n, pk_div, nI_ne0, pk_mul, nI_add, nI_1, zt_0, zt_12, zt_20, zt_26, zt_32, zf_0_0, zf_0_1, zf_0_2, zf_0_3, zf_0_4, zf_12_0, zf_12_1, zf_12_2, zf_12_4, zf_12_5, zf_20_1, zf_20_2, zf_20_3, zf_20_4, zf_20_6, zf_26_0, zf_26_1, zf_26_2, zf_26_3, zf_32_0, zf_32_1, zf_32_3, zf_32_4, zf_32_5, zf_32_6, zi_36, zi_37, hv2, mul])
      obtain ⟨k4, M4, e4, b4, f4, s4, l4⟩ := qM_joins h7 i3 b3
      refine ⟨none, lsG t n k4 m (some (.int (nI (j + 1)))) none, M4, ?_, k4, rfl, b4, fr2.trans (f3.trans f4), by omega⟩
      simp only [lsG] at e1 e3 ⊢
      simp (disch := omega) [zs_M_group_4, zmeth, xm_en, zret, zretz, zretv, zseq, zst, zinc, zkl, zskip, zk, zi, za, zbin, zdiv, zrem, zgi, zgr, zld, zldr, zlen, zn, zc, zcall, zcallv, zrcv, zdo, zdov, zpf, zpfc, zas, zasc, zmin, zmax, zcmp, zcz, zand_e, zor_e, zite_e, zbite_e, zif_e, znot_e, z_add, z_sub, z_mul, z_and, z_or, z_xor, z_shl, z_shr, zcpy, -List.getElem?_cons_succ, zg_0, zg_1, zg_2, zg_3, zg_4, zg_5, zg_6, zg_7, zg_8, zg_9, zc_lt, zc_le, zc_gt, zc_ge, zc_eq, zc_ne, zc_lt0, zc_ge0, zc_gt0, zc_eq0, zc_ne0, zb_ne, zb_eq, zb_01, z_00, z_01, z_11, zb_f, zb_T, zb_F, zbm1, zbm2, zbm5, zbm6, zbm3, zbm4, nI_clamp, zmod_n, pk_div, nI_ne0, pk_mul, nI_add, nI_1, zt_0, zt_12, zt_20, zt_26, zt_32, zf_0_0, zf_0_1, zf_0_2, zf_0_3, zf_0_4, zf_12_0, zf_12_1, zf_12_2, zf_12_4, zf_12_5, zf_20_1, zf_20_2, zf_20_3, zf_20_4, zf_20_6, zf_26_0, zf_26_1, zf_26_2, zf_26_3, zf_32_0, zf_32_1, zf_32_3, zf_32_4, zf_32_5, zf_32_6, e1, e2, e3, e4]) _ M ⟨many, rfl, hB, fun _ _ _ _ _ => rfl, Nat.le_refl _⟩
  exact ⟨many', M', w1, w2, w3, w4⟩
theorem qM_gr3 {t n : Nat} {c : tC} (ht : t < 6) (h7 : n ≤ 7) (hf : tF n c) : ∀ (d m many : Nat) (M : zM), 5040 ≤ m + d → m ≤ many → rT M t n c → GB M n many → ∃ many' M', zwh zc_M_group_3 zs_M_group_3 (lsG t n many m none none) M = some (none, lsG t n many' many' none none, M') ∧ GB M' n many' ∧ gF M M' := by
  intro d
  induction d with
  | zero =>
    intro m many M h1 h2 h hB
    have k5 : many ≤ 5040 := by rw [← hB.1]; exact zsum_b (mb_le M)
    have : m = many := by omega
    subst this
    refine ⟨m, M, zwh_f ?_, hB, fun _ _ _ _ _ => rfl⟩
    simp (disch := omega) [zc_M_group_3, lsG, zmeth, xm_en, zret, zretz, zretv, zseq, zst, zinc, zkl, zskip, zk, zi, za, zbin, zdiv, zrem, zgi, zgr, zld, zldr, zlen, zn, zc, zcall, zcallv, zrcv, zdo, zdov, zpf, zpfc, zas, zasc, zmin, zmax, zcmp, zcz, zand_e, zor_e, zite_e, zbite_e, zif_e, znot_e, z_add, z_sub, z_mul, z_and, z_or, z_xor, z_shl, z_shr, zcpy, -List.getElem?_cons_succ, zg_0, zg_1, zg_2, zg_3, zg_4, zg_5, zg_6, zg_7, zg_8, zg_9, zc_lt, zc_le, zc_gt, zc_ge, zc_eq, zc_ne, zc_lt0, zc_ge0, zc_gt0, zc_eq0, zc_ne0, zb_ne, zb_eq, zb_01, z_00, z_01, z_11, zb_f, zb_T, zb_F, zbm1, zbm2, zbm5, zbm6, zbm3, zbm4, nI_clamp, zmod_n, pk_div, nI_ne0, pk_mul, nI_add, nI_1]
  | succ d ih =>
    intro m many M h1 h2 h hB
    have k5 : many ≤ 5040 := by rw [← hB.1]; exact zsum_b (mb_le M)
    rcases Nat.lt_or_ge m many with q | q
    · obtain ⟨k, M1, e1, b1, f1, l1⟩ := qM_gr4 ht h h7 hf q hB
      obtain ⟨k2, M2, e2, b2, f2⟩ := ih (m + 1) k M1 (by omega) (by omega) (f1.rT (by omega) h) b1
      refine ⟨k2, M2, zwh_t (ls2 := lsG t n k (m + 1) none none) (M2 := M1) (M1 := M) ?_ ?_ e2, b2, f1.trans f2⟩
      · simp (disch := omega) [zc_M_group_3, lsG, zmeth, xm_en, zret, zretz, zretv, zseq, zst, zinc, zkl, zskip, zk, zi, za, zbin, zdiv, zrem, zgi, zgr, zld, zldr, zlen, zn, zc, zcall, zcallv, zrcv, zdo, zdov, zpf, zpfc, zas, zasc, zmin, zmax, zcmp, zcz, zand_e, zor_e, zite_e, zbite_e, zif_e, znot_e, z_add, z_sub, z_mul, z_and, z_or, z_xor, z_shl, z_shr, zcpy, -List.getElem?_cons_succ, zg_0, zg_1, zg_2, zg_3, zg_4, zg_5, zg_6, zg_7, zg_8, zg_9, zc_lt, zc_le, zc_gt, zc_ge, zc_eq, zc_ne, zc_lt0, zc_ge0, zc_gt0, zc_eq0, zc_ne0, zb_ne, zb_eq, zb_01, z_00, z_01, z_11, zb_f, zb_T, zb_F, zbm1, zbm2, zbm5, zbm6, zbm3, zbm4, nI_clamp, zmod_n, pk_div, nI_ne0, pk_mul, nI_add, nI_1, q]
      · simp only [lsG] at e1 ⊢
        simp (disch := omega) [zs_M_group_3, zmeth, xm_en, zret, zretz, zretv, zseq, zst, zinc, zkl, zskip, zk, zi, za, zbin, zdiv, zrem, zgi, zgr, zld, zldr, zlen, zn, zc, zcall, zcallv, zrcv, zdo, zdov, zpf, zpfc, zas, zasc, zmin, zmax, zcmp, zcz, zand_e, zor_e, zite_e, zbite_e, zif_e, znot_e, z_add, z_sub, z_mul, z_and, z_or, z_xor, z_shl, z_shr, zcpy, -List.getElem?_cons_succ, zg_0, zg_1, zg_2, zg_3, zg_4, zg_5, zg_6, zg_7, zg_8, zg_9, zc_lt, zc_le, zc_gt, zc_ge, zc_eq, zc_ne, zc_lt0, zc_ge0, zc_gt0, zc_eq0, zc_ne0, zb_ne, zb_eq, zb_01, z_00, z_01, z_11, zb_f, zb_T, zb_F, zbm1, zbm2, zbm5, zbm6, zbm3, zbm4, nI_clamp, zmod_n, pk_div, nI_ne0, pk_mul, nI_add, nI_1, e1]
    · have : m = many := by omega
      subst this
      refine ⟨m, M, zwh_f ?_, hB, fun _ _ _ _ _ => rfl⟩
      simp (disch := omega) [zc_M_group_3, lsG, zmeth, xm_en, zret, zretz, zretv, zseq, zst, zinc, zkl, zskip, zk, zi, za, zbin, zdiv, zrem, zgi, zgr, zld, zldr, zlen, zn, zc, zcall, zcallv, zrcv, zdo, zdov, zpf, zpfc, zas, zasc, zmin, zmax, zcmp, zcz, zand_e, zor_e, zite_e, zbite_e, zif_e, znot_e, z_add, z_sub, z_mul, z_and, z_or, z_xor, z_shl, z_shr, zcpy, -List.getElem?_cons_succ, zg_0, zg_1, zg_2, zg_3, zg_4, zg_5, zg_6, zg_7, zg_8, zg_9, zc_lt, zc_le, zc_gt, zc_ge, zc_eq, zc_ne, zc_lt0, zc_ge0, zc_gt0, zc_eq0, zc_ne0, zb_ne, zb_eq, zb_01, z_00, z_01, z_11, zb_f, zb_T, zb_F, zbm1, zbm2, zbm5, zbm6, zbm3, zbm4, nI_clamp, zmod_n, pk_div, nI_ne0, pk_mul, nI_add, nI_1]
