/-! the reference's endings: the holes, the whole -/
theorem segs_snoc {g : Nat → List Nat} : ∀ (d i : Nat), segs g i (d + 1) = segs g i d ++ g (i + d)
  | 0, i => by simp [segs]
  | d + 1, i => by
    show g i ++ segs g (i + 1) (d + 1) = (g i ++ segs g (i + 1) d) ++ _
    rw [segs_snoc d (i + 1), List.append_assoc]
    congr 3
    omega
def hg (c : tC) (a b : Nat) : List Nat := bif decide (8 ≤ c a b) then [8 * a + b] else []
def hrow (n : Nat) (c : tC) (a : Nat) : List Nat := segs (hg c a) 0 n
def holes (n : Nat) (c : tC) : List Nat := segs (hrow n c) 0 n
theorem hrow_len (n : Nat) (c : tC) (a : Nat) : (hrow n c a).length ≤ n := by
  have := segs_len (g := hg c a) (b := 1) n 0 (fun j => by unfold hg; cases decide (8 ≤ c a j) <;> simp)
  unfold hrow
  omega
def zhl (M : zM) (P : List Nat) : zM := fun q j => if q = 35 ∧ j < P.length then nI (P.getD j 0) else if q = 32 ∧ j = 2 then nI P.length else M q j
theorem zhl_s (M : zM) (P : List Nat) (h : Nat) : zup (zup (zhl M P) 35 P.length (nI h)) 32 2 (nI (P.length + 1)) = zhl M (P ++ [h]) := by
  funext q j
  rw [zup_e, zup_e]
  unfold zhl
  rw [List.length_append, List.length_singleton]
  by_cases h1 : q = 32 ∧ j = 2
  · rw [if_pos h1, if_neg (by omega), if_pos h1]
  · rw [if_neg h1]
    by_cases h2 : q = 35 ∧ j = P.length
    · rw [if_pos h2, if_pos (by omega), h2.2, getD_r (Nat.le_refl _), Nat.sub_self]
      rfl
    · rw [if_neg h2]
      by_cases h3 : q = 35 ∧ j < P.length
      · rw [if_pos h3, if_pos (by omega), getD_l h3.2]
      · rw [if_neg h3, if_neg h1, if_neg (by omega), if_neg h1]
theorem zhl_out {M : zM} {P : List Nat} {q j : Nat} (h1 : q ≠ 35) (h2 : ¬ (q = 32 ∧ j = 2)) : zhl M P q j = M q j := by
  unfold zhl
  rw [if_neg (by omega), if_neg h2]
theorem zhl_0 {M : zM} : zup M 32 2 (nI 0) = zhl M [] := by
  funext q j
  rw [zup_e]
  unfold zhl
  by_cases h : q = 32 ∧ j = 2
  · rw [if_pos h, if_neg (by simp), if_pos h]
    rfl
  · rw [if_neg h, if_neg (by simp), if_neg h]
theorem rT_hl {M : zM} {P : List Nat} {t n : Nat} {c : tC} (h8 : n ≤ 8) (h : rT M t n c) : rT (zhl M P) t n c := h.same h8 (zhl_out (by omega) (by omega)) (fun j _ _ => zhl_out (by omega) (by omega))
theorem qM_holes2 {M : zM} {t n a : Nat} {c : tC} {y : Int32} {P : List Nat} (ht : t < 4) (h : rT M t n c) (h8 : n ≤ 8) (ha : a < n) (hP : P.length + n < 64) : zwh zc_M_ends_2 zs_M_ends_2 [some (Value.ref (32)), some (Value.int (nI t)), some (Value.int (y)), some (Value.int (nI a)), some (Value.int (nI 0)), none, none, none] (zhl M P) = some (none, [some (Value.ref (32)), some (Value.int (nI t)), some (Value.int (y)), some (Value.int (nI a)), some (Value.int (nI n)), none, none, none], zhl M (P ++ hrow n c a)) := by
  have h6 : t < 6 := by omega
  have R := zwh_up (c := zc_M_ends_2) (s := zs_M_ends_2) (fun j => [some (Value.ref (32)), some (Value.int (nI t)), some (Value.int (y)), some (Value.int (nI a)), some (Value.int (nI j)), none, none, none]) (fun j => zhl M (P ++ segs (hg c a) 0 j)) (n := n) n 0 (by omega) ?_ ?_ ?_
  · have e0 : P ++ segs (hg c a) 0 0 = P := by simp [segs]
    rw [e0] at R
    exact R
  · intro j _ h2
    have hr := rT_hl (P := P ++ segs (hg c a) 0 j) h8 h
    simp (disch := omega) [zc_M_ends_2, zmeth, xm_en, zret, zretz, zretv, zseq, zst, zinc, zkl, zskip, zk, zi, za, zbin, zdiv, zrem, zgi, zgr, zld, zldr, zlen, zn, zc, zcall, zcallv, zrcv, zdo, zdov, zpf, zpfc, zas, zasc, zmin, zmax, zcmp, zcz, zand_e, zor_e, zite_e, zbite_e, zif_e, znot_e, z_add, z_sub, z_mul, z_and, z_or, z_xor, z_shl, z_shr, zcpy, -List.getElem?_cons_succ, zg_0, zg_1, zg_2, zg_3, zg_4, zg_5, zg_6, zg_7, zg_8, zg_9, zc_lt, zc_le, zc_gt, zc_ge, zc_eq, zc_ne, zc_lt0, zc_ge0, zc_gt0, zc_eq0, zc_ne0, zb_ne, zb_eq, zb_01, z_00, z_01, z_11, zb_f, zb_T, zb_F, zbm1, zbm2, zbm5, zbm6, zbm3, zbm4, nI_clamp, zmod_n, pk_div, nI_ne0, pk_mul, nI_add, nI_1, zt_0, zt_12, zt_20, zt_26, zt_32, zf_0_0, zf_0_1, zf_0_2, zf_0_3, zf_0_4, zf_12_0, zf_12_1, zf_12_2, zf_12_4, zf_12_5, zf_20_1, zf_20_2, zf_20_3, zf_20_4, zf_20_6, zf_26_0, zf_26_1, zf_26_2, zf_26_3, zf_32_0, zf_32_1, zf_32_3, zf_32_4, zf_32_5, zf_32_6, zi_33, hr.1, h2]
  · intro j _ h2
    have hr := rT_hl (P := P ++ segs (hg c a) 0 j) h8 h
    have cell := qM_rcell h6 hr h8 ha h2
    have sl := segs_len (g := hg c a) (b := 1) j 0 (fun j => by unfold hg; cases decide (8 ≤ c a j) <;> simp)
    have e1 : P ++ segs (hg c a) 0 (j + 1) = (P ++ segs (hg c a) 0 j) ++ hg c a j := by rw [segs_snoc, Nat.zero_add, List.append_assoc]
    rw [e1]
    have hl : (P ++ segs (hg c a) 0 j).length < 64 := by rw [List.length_append]; omega
    generalize P ++ segs (hg c a) 0 j = P2 at hr cell hl
    have v2 : zhl M P2 32 2 = nI P2.length := by
      unfold zhl
      rw [if_neg (by omega), if_pos ⟨rfl, rfl⟩]
    by_cases hc : 8 ≤ c a j
    · have s := zhl_s M P2 (8 * a + j)
      have eg : hg c a j = [8 * a + j] := by unfold hg; rw [decide_eq_true hc]; rfl
      have v3 : zup (zhl M P2) 35 P2.length (nI (8 * a + j)) 32 2 = nI P2.length := by rw [zup_e, if_neg (by omega)]; exact v2
      rw [eg]
      simp (disch := omega) [zs_M_ends_2, zmeth, xm_en, zret, zretz, zretv, zseq, zst, zinc, zkl, zskip, zk, zi, za, zbin, zdiv, zrem, zgi, zgr, zld, zldr, zlen, zn, zc, zcall, zcallv, zrcv, zdo, zdov, zpf, zpfc, zas, zasc, zmin, zmax, zcmp, zcz, zand_e, zor_e, zite_e, zbite_e, zif_e, znot_e, z_add, z_sub, z_mul, z_and, z_or, z_xor, z_shl, z_shr, zcpy, -List.getElem?_cons_succ, zg_0, zg_1, zg_2, zg_3, zg_4, zg_5, zg_6, zg_7, zg_8, zg_9, zc_lt, zc_le, zc_gt, zc_ge, zc_eq, zc_ne, zc_lt0, zc_ge0, zc_gt0, zc_eq0, zc_ne0, zb_ne, zb_eq, zb_01, z_00, z_01, z_11, zb_f, zb_T, zb_F, zbm1, zbm2, zbm5, zbm6, zbm3, zbm4, nI_clamp, zmod_n, pk_div, nI_ne0, pk_mul, nI_add, nI_1, zt_0, zt_12, zt_20, zt_26, zt_32, zf_0_0, zf_0_1, zf_0_2, zf_0_3, zf_0_4, zf_12_0, zf_12_1, zf_12_2, zf_12_4, zf_12_5, zf_20_1, zf_20_2, zf_20_3, zf_20_4, zf_20_6, zf_26_0, zf_26_1, zf_26_2, zf_26_3, zf_32_0, zf_32_1, zf_32_3, zf_32_4, zf_32_5, zf_32_6, cell, zcl_m4, hc, v2, v3, zi_35, s]
    · have eg : hg c a j = [] := by unfold hg; rw [decide_eq_false hc]; rfl
      rw [eg, List.append_nil]
      simp (disch := omega) [zs_M_ends_2, zmeth, xm_en, zret, zretz, zretv, zseq, zst, zinc, zkl, zskip, zk, zi, za, zbin, zdiv, zrem, zgi, zgr, zld, zldr, zlen, zn, zc, zcall, zcallv, zrcv, zdo, zdov, zpf, zpfc, zas, zasc, zmin, zmax, zcmp, zcz, zand_e, zor_e, zite_e, zbite_e, zif_e, znot_e, z_add, z_sub, z_mul, z_and, z_or, z_xor, z_shl, z_shr, zcpy, -List.getElem?_cons_succ, zg_0, zg_1, zg_2, zg_3, zg_4, zg_5, zg_6, zg_7, zg_8, zg_9, zc_lt, zc_le, zc_gt, zc_ge, zc_eq, zc_ne, zc_lt0, zc_ge0, zc_gt0, zc_eq0, zc_ne0, zb_ne, zb_eq, zb_01, z_00, z_01, z_11, zb_f, zb_T, zb_F, zbm1, zbm2, zbm5, zbm6, zbm3, zbm4, nI_clamp, zmod_n, pk_div, nI_ne0, pk_mul, nI_add, nI_1, zt_0, zt_12, zt_20, zt_26, zt_32, zf_0_0, zf_0_1, zf_0_2, zf_0_3, zf_0_4, zf_12_0, zf_12_1, zf_12_2, zf_12_4, zf_12_5, zf_20_1, zf_20_2, zf_20_3, zf_20_4, zf_20_6, zf_26_0, zf_26_1, zf_26_2, zf_26_3, zf_32_0, zf_32_1, zf_32_3, zf_32_4, zf_32_5, zf_32_6, cell, zcl_m4, hc]
  · have hr := rT_hl (P := P ++ segs (hg c a) 0 n) h8 h
    simp (disch := omega) [zc_M_ends_2, zmeth, xm_en, zret, zretz, zretv, zseq, zst, zinc, zkl, zskip, zk, zi, za, zbin, zdiv, zrem, zgi, zgr, zld, zldr, zlen, zn, zc, zcall, zcallv, zrcv, zdo, zdov, zpf, zpfc, zas, zasc, zmin, zmax, zcmp, zcz, zand_e, zor_e, zite_e, zbite_e, zif_e, znot_e, z_add, z_sub, z_mul, z_and, z_or, z_xor, z_shl, z_shr, zcpy, -List.getElem?_cons_succ, zg_0, zg_1, zg_2, zg_3, zg_4, zg_5, zg_6, zg_7, zg_8, zg_9, zc_lt, zc_le, zc_gt, zc_ge, zc_eq, zc_ne, zc_lt0, zc_ge0, zc_gt0, zc_eq0, zc_ne0, zb_ne, zb_eq, zb_01, z_00, z_01, z_11, zb_f, zb_T, zb_F, zbm1, zbm2, zbm5, zbm6, zbm3, zbm4, nI_clamp, zmod_n, pk_div, nI_ne0, pk_mul, nI_add, nI_1, zt_0, zt_12, zt_20, zt_26, zt_32, zf_0_0, zf_0_1, zf_0_2, zf_0_3, zf_0_4, zf_12_0, zf_12_1, zf_12_2, zf_12_4, zf_12_5, zf_20_1, zf_20_2, zf_20_3, zf_20_4, zf_20_6, zf_26_0, zf_26_1, zf_26_2, zf_26_3, zf_32_0, zf_32_1, zf_32_3, zf_32_4, zf_32_5, zf_32_6, zi_33, hr.1]
theorem qM_holes1 {M : zM} {t n : Nat} {c : tC} {y : Int32} (ht : t < 4) (h : rT M t n c) (h7 : n ≤ 7) : zwh zc_M_ends_1 zs_M_ends_1 [some (Value.ref (32)), some (Value.int (nI t)), some (Value.int (y)), some (Value.int (nI 0)), none, none, none, none] (zhl M []) = some (none, [some (Value.ref (32)), some (Value.int (nI t)), some (Value.int (y)), some (Value.int (nI n)), none, none, none, none], zhl M (holes n c)) := by
  have R := zwh_up (c := zc_M_ends_1) (s := zs_M_ends_1) (fun j => [some (Value.ref (32)), some (Value.int (nI t)), some (Value.int (y)), some (Value.int (nI j)), none, none, none, none]) (fun j => zhl M (segs (hrow n c) 0 j)) (n := n) n 0 (by omega) ?_ ?_ ?_
  · exact R
  · intro j _ h2
    have hr := rT_hl (P := segs (hrow n c) 0 j) (show n ≤ 8 by omega) h
    simp (disch := omega) [zc_M_ends_1, zmeth, xm_en, zret, zretz, zretv, zseq, zst, zinc, zkl, zskip, zk, zi, za, zbin, zdiv, zrem, zgi, zgr, zld, zldr, zlen, zn, zc, zcall, zcallv, zrcv, zdo, zdov, zpf, zpfc, zas, zasc, zmin, zmax, zcmp, zcz, zand_e, zor_e, zite_e, zbite_e, zif_e, znot_e, z_add, z_sub, z_mul, z_and, z_or, z_xor, z_shl, z_shr, zcpy, -List.getElem?_cons_succ, zg_0, zg_1, zg_2, zg_3, zg_4, zg_5, zg_6, zg_7, zg_8, zg_9, zc_lt, zc_le, zc_gt, zc_ge, zc_eq, zc_ne, zc_lt0, zc_ge0, zc_gt0, zc_eq0, zc_ne0, zb_ne, zb_eq, zb_01, z_00, z_01, z_11, zb_f, zb_T, zb_F, zbm1, zbm2, zbm5, zbm6, zbm3, zbm4, nI_clamp, zmod_n, pk_div, nI_ne0, pk_mul, nI_add, nI_1, zt_0, zt_12, zt_20, zt_26, zt_32, zf_0_0, zf_0_1, zf_0_2, zf_0_3, zf_0_4, zf_12_0, zf_12_1, zf_12_2, zf_12_4, zf_12_5, zf_20_1, zf_20_2, zf_20_3, zf_20_4, zf_20_6, zf_26_0, zf_26_1, zf_26_2, zf_26_3, zf_32_0, zf_32_1, zf_32_3, zf_32_4, zf_32_5, zf_32_6, zi_33, hr.1, h2]
  · intro j _ h2
    have sl := segs_len (g := hrow n c) (b := 7) j 0 (fun j => Nat.le_trans (hrow_len n c j) h7)
    have g := qM_holes2 (P := segs (hrow n c) 0 j) (y := y) ht h (show n ≤ 8 by omega) h2 (by omega)
    have e1 : segs (hrow n c) 0 (j + 1) = segs (hrow n c) 0 j ++ hrow n c j := by rw [segs_snoc, Nat.zero_add]
    simp (disch := omega) [zs_M_ends_1, zmeth, xm_en, zret, zretz, zretv, zseq, zst, zinc, zkl, zskip, zk, zi, za, zbin, zdiv, zrem, zgi, zgr, zld, zldr, zlen, zn, zc, zcall, zcallv, zrcv, zdo, zdov, zpf, zpfc, zas, zasc, zmin, zmax, zcmp, zcz, zand_e, zor_e, zite_e, zbite_e, zif_e, znot_e, z_add, z_sub, z_mul, z_and, z_or, z_xor, z_shl, z_shr, zcpy, -List.getElem?_cons_succ, zg_0, zg_1, zg_2, zg_3, zg_4, zg_5, zg_6, zg_7, zg_8, zg_9, zc_lt, zc_le, zc_gt, zc_ge, zc_eq, zc_ne, zc_lt0, zc_ge0, zc_gt0, zc_eq0, zc_ne0, zb_ne, zb_eq, zb_01, z_00, z_01, z_11, zb_f, zb_T, zb_F, zbm1, zbm2, zbm5, zbm6, zbm3, zbm4, nI_clamp, zmod_n, pk_div, nI_ne0, pk_mul, nI_add, nI_1, g, e1]
  · have hr := rT_hl (P := segs (hrow n c) 0 n) (show n ≤ 8 by omega) h
    simp (disch := omega) [zc_M_ends_1, zmeth, xm_en, zret, zretz, zretv, zseq, zst, zinc, zkl, zskip, zk, zi, za, zbin, zdiv, zrem, zgi, zgr, zld, zldr, zlen, zn, zc, zcall, zcallv, zrcv, zdo, zdov, zpf, zpfc, zas, zasc, zmin, zmax, zcmp, zcz, zand_e, zor_e, zite_e, zbite_e, zif_e, znot_e, z_add, z_sub, z_mul, z_and, z_or, z_xor, z_shl, z_shr, zcpy, -List.getElem?_cons_succ, zg_0, zg_1, zg_2, zg_3, zg_4, zg_5, zg_6, zg_7, zg_8, zg_9, zc_lt, zc_le, zc_gt, zc_ge, zc_eq, zc_ne, zc_lt0, zc_ge0, zc_gt0, zc_eq0, zc_ne0, zb_ne, zb_eq, zb_01, z_00, z_01, z_11, zb_f, zb_T, zb_F, zbm1, zbm2, zbm5, zbm6, zbm3, zbm4, nI_clamp, zmod_n, pk_div, nI_ne0, pk_mul, nI_add, nI_1, zt_0, zt_12, zt_20, zt_26, zt_32, zf_0_0, zf_0_1, zf_0_2, zf_0_3, zf_0_4, zf_12_0, zf_12_1, zf_12_2, zf_12_4, zf_12_5, zf_20_1, zf_20_2, zf_20_3, zf_20_4, zf_20_6, zf_26_0, zf_26_1, zf_26_2, zf_26_3, zf_32_0, zf_32_1, zf_32_3, zf_32_4, zf_32_5, zf_32_6, zi_33, hr.1]
theorem holes_len {n : Nat} {c : tC} (h7 : n ≤ 7) : (holes n c).length < 64 := by
  have := segs_len (g := hrow n c) (b := 7) n 0 (fun j => Nat.le_trans (hrow_len n c j) h7)
  unfold holes
  omega
theorem hrow_mem {n a v : Nat} {c : tC} (h : v ∈ hrow n c a) : ∃ b, b < n ∧ v = 8 * a + b ∧ 8 ≤ c a b := by
  obtain ⟨b, h1, h2, h3⟩ := segs_mem _ _ h
  unfold hg at h3
  by_cases g : 8 ≤ c a b
  · rw [decide_eq_true g, cond_true, List.mem_singleton] at h3
    exact ⟨b, by omega, h3, g⟩
  · rw [decide_eq_false g] at h3
    simp at h3
theorem segs_nodup {g : Nat → List Nat} : ∀ (d i : Nat), (∀ j, i ≤ j → j < i + d → (g j).Nodup) → (∀ j k v, i ≤ j → j < k → k < i + d → v ∈ g j → v ∉ g k) → (segs g i d).Nodup
  | 0, i, _, _ => List.nodup_nil
  | d + 1, i, h1, h2 => by
    show (g i ++ segs g (i + 1) d).Nodup
    rw [List.nodup_append]
    refine ⟨h1 i (Nat.le_refl _) (by omega), segs_nodup d (i + 1) (fun j a b => h1 j (by omega) (by omega)) (fun j k v a b c => h2 j k v (by omega) b (by omega)), fun x hx y hy e => ?_⟩
    subst e
    obtain ⟨k, k1, k2, k3⟩ := segs_mem _ _ hy
    exact h2 i k x (Nat.le_refl _) (by omega) (by omega) hx k3
theorem holes_ok {n : Nat} {c : tC} (h : tO n c) : hOK n (holes n c) c := by
  have h8 := h.1.2
  refine ⟨segs_nodup n 0 (fun a _ _ => segs_nodup n 0 (fun b _ _ => ?_) (fun j k v _ h1 _ m1 m2 => ?_)) (fun j k v _ h1 _ m1 m2 => ?_), fun v hv => ?_⟩
  · unfold hg
    cases decide (8 ≤ c a b) with
    | true => simp
    | false => exact List.nodup_nil
  · unfold hg at m1 m2
    cases q1 : decide (8 ≤ c a j) <;> rw [q1] at m1 <;> simp at m1
    cases q2 : decide (8 ≤ c a k) <;> rw [q2] at m2 <;> simp at m2
    omega
  · obtain ⟨b, b1, b2, -⟩ := hrow_mem m1
    obtain ⟨d, d1, d2, -⟩ := hrow_mem m2
    omega
  · obtain ⟨a, a1, a2, a3⟩ := segs_mem _ _ hv
    obtain ⟨b, b1, b2, b3⟩ := hrow_mem a3
    refine ⟨a, b, b2, by omega, b1, ?_⟩
    rcases h.2.2.1 a b (by omega) b1 with g | g
    · omega
    · exact g
/-- the reference's endings -/
theorem qM_ends {M : zM} {t n most : Nat} {c : tC} (ht : t < 4) (h : rT M t n c) (ho : tO n c) (h7 : n ≤ 7) (hm : most < 2 ^ 30) (hm1 : 1 ≤ most) : ∃ M', zf_M_ends [.ref 32, .int (nI t), .int (nI most)] M = some (some (nI (min most (comps n (holes n c) c).length)), M') ∧ zsr M M' ∧ (most ≤ (comps n (holes n c) c).length → rT M' 4 n ((comps n (holes n c) c).getD (most - 1) c)) := by
  have h8 : n ≤ 8 := by omega
  have hlen := holes_len (c := c) h7
  have cp := qM_copies (M := M) (s := 4) (t := t) (by decide) (by omega) (by omega)
  have r4 := rT_cp (s := 4) h8 h
  have rt : rT (zcp M 4 t 64) t n c := h.same h8 (zcp_out (by omega) (by omega)) (fun j _ _ => zcp_out (by omega) (by omega))
  have hl := qM_holes1 (y := nI most) ht rt h7
  have eh : eH (zhl (zcp M 4 t 64) (holes n c)) n (holes n c) c := by
    refine ⟨rT_hl h8 r4, ?_, fun i hi => ?_⟩
    · unfold zhl
      rw [if_neg (by omega), if_pos ⟨rfl, rfl⟩]
    · unfold zhl
      rw [if_pos ⟨rfl, hi⟩]
  have fr : zsr M (zhl (zcp M 4 t 64) (holes n c)) := fun q j hq => by rw [zhl_out (by omega) (by omega), zcp_out (by omega) (by omega)]
  have al := e_all (t := t) h8 hm hlen (holes n c) 0 c _ 0 rfl (by omega) eh (holes_ok ho) (by omega)
  rw [Nat.zero_add] at al
  by_cases hc : (comps n (holes n c) c).length < most
  · have g := al.1 hc
    have em : min most (comps n (holes n c) c).length = (comps n (holes n c) c).length := by omega
    have lo : zwh zc_M_ends_3 zs_M_ends_3 (lsE t most (comps n (holes n c) c).length (nI 0 + -1)) (zhl (zcp M 4 t 64) (holes n c)) = some (none, lsE t most (comps n (holes n c) c).length (nI 0 + -1), zhl (zcp M 4 t 64) (holes n c)) := by
      refine zwh_f ?_
      have e0 : xe_cd .ge (nI 0 + -1) 0 = false := by decide
      simp (disch := omega) [zc_M_ends_3, lsE, zmeth, xm_en, zret, zretz, zretv, zseq, zst, zinc, zkl, zskip, zk, zi, za, zbin, zdiv, zrem, zgi, zgr, zld, zldr, zlen, zn, zc, zcall, zcallv, zrcv, zdo, zdov, zpf, zpfc, zas, zasc, zmin, zmax, zcmp, zcz, zand_e, zor_e, zite_e, zbite_e, zif_e, znot_e, z_add, z_sub, z_mul, z_and, z_or, z_xor, z_shl, z_shr, zcpy, -List.getElem?_cons_succ, zg_0, zg_1, zg_2, zg_3, zg_4, zg_5, zg_6, zg_7, zg_8, zg_9, e0]
    have lp := g _ lo
    simp only [lsE] at lp
    refine ⟨zhl (zcp M 4 t 64) (holes n c), ?_, fr, fun q => by omega⟩
    rw [em]
    simp (disch := omega) [zf_M_ends, zmeth, xm_en, zret, zretz, zretv, zseq, zst, zinc, zkl, zskip, zk, zi, za, zbin, zdiv, zrem, zgi, zgr, zld, zldr, zlen, zn, zc, zcall, zcallv, zrcv, zdo, zdov, zpf, zpfc, zas, zasc, zmin, zmax, zcmp, zcz, zand_e, zor_e, zite_e, zbite_e, zif_e, znot_e, z_add, z_sub, z_mul, z_and, z_or, z_xor, z_shl, z_shr, zcpy, -List.getElem?_cons_succ, zg_0, zg_1, zg_2, zg_3, zg_4, zg_5, zg_6, zg_7, zg_8, zg_9, zt_0, zt_12, zt_20, zt_26, zt_32, zf_0_0, zf_0_1, zf_0_2, zf_0_3, zf_0_4, zf_12_0, zf_12_1, zf_12_2, zf_12_4, zf_12_5, zf_20_1, zf_20_2, zf_20_3, zf_20_4, zf_20_6, zf_26_0, zf_26_1, zf_26_2, zf_26_3, zf_32_0, zf_32_1, zf_32_3, zf_32_4, zf_32_5, zf_32_6, cp, zhl_0, hl, lp]
  · obtain ⟨ls', M', g1, g2, g3⟩ := al.2 (by omega)
    have em : min most (comps n (holes n c) c).length = most := by omega
    simp only [lsE] at g1
    refine ⟨M', ?_, fun q j hq => ?_, fun _ => ?_⟩
    · rw [em]
      simp (disch := omega) [zf_M_ends, zmeth, xm_en, zret, zretz, zretv, zseq, zst, zinc, zkl, zskip, zk, zi, za, zbin, zdiv, zrem, zgi, zgr, zld, zldr, zlen, zn, zc, zcall, zcallv, zrcv, zdo, zdov, zpf, zpfc, zas, zasc, zmin, zmax, zcmp, zcz, zand_e, zor_e, zite_e, zbite_e, zif_e, znot_e, z_add, z_sub, z_mul, z_and, z_or, z_xor, z_shl, z_shr, zcpy, -List.getElem?_cons_succ, zg_0, zg_1, zg_2, zg_3, zg_4, zg_5, zg_6, zg_7, zg_8, zg_9, zt_0, zt_12, zt_20, zt_26, zt_32, zf_0_0, zf_0_1, zf_0_2, zf_0_3, zf_0_4, zf_12_0, zf_12_1, zf_12_2, zf_12_4, zf_12_5, zf_20_1, zf_20_2, zf_20_3, zf_20_4, zf_20_6, zf_26_0, zf_26_1, zf_26_2, zf_26_3, zf_32_0, zf_32_1, zf_32_3, zf_32_4, zf_32_5, zf_32_6, cp, zhl_0, hl, g1]
    · rw [g3 q j (by omega)]
      exact fr q j hq
    · exact g2.1
