/-! group: the class's take, its turns and products -/
/-- the tables only grow -/
def GR (M0 : zM) (n : Nat) (c : tC) (e : Nat → Nat → List Nat) (b : Nat → Nat) (K : List Nat) (P : (Nat → Nat → List Nat) → (Nat → Nat) → List Nat → Prop) (M : zM) : Prop := ∃ e' b' K', KS M0 n c e' b' K' M ∧ EX e b e' b' ∧ (∃ W, K' = K ++ W) ∧ P e' b' K'
theorem qT_takeF {M0 M : zM} {n : Nat} {c : tC} {e : Nat → Nat → List Nat} {b : Nat → Nat} {K p : List Nat} (h7 : n ≤ 7) (h : KS M0 n c e b K M) (hp : PQ n p) (ht : TR M n p) (gh : GH n c p) : ∃ M', zf_Turns_take [.ref 20] M = some (none, M') ∧ GR M0 n c e b K (fun e' b' _ => RR n e' b' n 0 p) M' := by
  obtain ⟨r, ls, M1, e1, hr, g1⟩ := zwh_inv (c := zc_Turns_take_1) (s := zs_Turns_take_1) (fun i ls M' => ls = [some (Value.ref (20)), some (Value.int (nI i)), none] ∧ ∃ u, PQ n u ∧ TR M' n u ∧ (∀ x, x < i → gd u x = x) ∧ GH n c u ∧ KS M0 n c e b K M' ∧ ∀ e' b', TB n e' b' → EX e b e' b' → RR n e' b' (n - i) i u → RR n e' b' n 0 p) (Q := fun r ls M' => (r = none ∨ r = some none) ∧ GR M0 n c e b K (fun e' b' _ => RR n e' b' n 0 p) M') (n := n) (fun ls M' q => by
      obtain ⟨rfl, u, u1, u2, u3, u4, u5, u6⟩ := q
      have n0 := u5.n
      refine ⟨by simp (disch := omega) [zc_Turns_take_1, zmeth, xm_en, zret, zretz, zretv, zseq, zst, zinc, zkl, zskip, zk, zi, za, zbin, zdiv, zrem, zgi, zgr, zld, zldr, zlen, zn, zc, zcall, zcallv, zrcv, zdo, zdov, zpf, zpfc, zas, zasc, zmin, zmax, zcmp, zcz, zand_e, zor_e, zite_e, zbite_e, zif_e, znot_e, z_add, z_sub, z_mul, z_and, z_or, z_xor, z_shl, z_shr, zcpy, -List.getElem?_cons_succ, zg_0, zg_1, zg_2, zg_3, zg_4, zg_5, zg_6, zg_7, zg_8, zg_9, zc_lt, zc_le, zc_gt, zc_ge, zc_eq, zc_ne, zc_lt0, zc_ge0, zc_gt0, zc_eq0, zc_ne0, zb_ne, zb_eq, zb_01, z_00, z_01, z_11, zb_f, zb_T, zb_F, zbm1, zbm2, zbm5, zbm6, zbm3, zbm4, nI_clamp, zmod_n, pk_div, nI_ne0, pk_mul, nI_add, nI_1, zt_0, zt_12, zt_20, zt_26, zt_32, zf_0_0, zf_0_1, zf_0_2, zf_0_3, zf_0_4, zf_12_0, zf_12_1, zf_12_2, zf_12_4, zf_12_5, zf_20_1, zf_20_2, zf_20_3, zf_20_4, zf_20_6, zf_26_0, zf_26_1, zf_26_2, zf_26_3, zf_32_0, zf_32_1, zf_32_3, zf_32_4, zf_32_5, zf_32_6, n0], Or.inl rfl, e, b, K, u5, EX.refl e b, ⟨[], (List.append_nil K).symm⟩, u6 e b u5.2.1 (EX.refl e b) ?_⟩
      rw [Nat.sub_self]
      exact PQ.ext u1 id_PQ (fun i hi => by rw [u3 i hi, gd_rg hi])) n 0 (by omega) (fun i ls M' _ hi q => by
      obtain ⟨rfl, u, u1, u2, u3, u4, u5, u6⟩ := q
      have n0 := u5.n
      refine ⟨by simp (disch := omega) [zc_Turns_take_1, zmeth, xm_en, zret, zretz, zretv, zseq, zst, zinc, zkl, zskip, zk, zi, za, zbin, zdiv, zrem, zgi, zgr, zld, zldr, zlen, zn, zc, zcall, zcallv, zrcv, zdo, zdov, zpf, zpfc, zas, zasc, zmin, zmax, zcmp, zcz, zand_e, zor_e, zite_e, zbite_e, zif_e, znot_e, z_add, z_sub, z_mul, z_and, z_or, z_xor, z_shl, z_shr, zcpy, -List.getElem?_cons_succ, zg_0, zg_1, zg_2, zg_3, zg_4, zg_5, zg_6, zg_7, zg_8, zg_9, zc_lt, zc_le, zc_gt, zc_ge, zc_eq, zc_ne, zc_lt0, zc_ge0, zc_gt0, zc_eq0, zc_ne0, zb_ne, zb_eq, zb_01, z_00, z_01, z_11, zb_f, zb_T, zb_F, zbm1, zbm2, zbm5, zbm6, zbm3, zbm4, nI_clamp, zmod_n, pk_div, nI_ne0, pk_mul, nI_add, nI_1, zt_0, zt_12, zt_20, zt_26, zt_32, zf_0_0, zf_0_1, zf_0_2, zf_0_3, zf_0_4, zf_12_0, zf_12_1, zf_12_2, zf_12_4, zf_12_5, zf_20_1, zf_20_2, zf_20_3, zf_20_4, zf_20_6, zf_26_0, zf_26_1, zf_26_2, zf_26_3, zf_32_0, zf_32_1, zf_32_3, zf_32_4, zf_32_5, zf_32_6, n0, hi], ?_⟩
      have ti := u2 i hi
      have gi := u1.gl hi
      have ni : n - i = n - (i + 1) + 1 := by omega
      by_cases hj : gd u i = i
      · rw [hj] at ti
        refine ⟨none, [some (Value.ref (20)), some (Value.int (nI (i + 1))), none], M', by simp (disch := omega) [zs_Turns_take_1, zmeth, xm_en, zret, zretz, zretv, zseq, zst, zinc, zkl, zskip, zk, zi, za, zbin, zdiv, zrem, zgi, zgr, zld, zldr, zlen, zn, zc, zcall, zcallv, zrcv, zdo, zdov, zpf, zpfc, zas, zasc, zmin, zmax, zcmp, zcz, zand_e, zor_e, zite_e, zbite_e, zif_e, znot_e, z_add, z_sub, z_mul, z_and, z_or, z_xor, z_shl, z_shr, zcpy, -List.getElem?_cons_succ, zg_0, zg_1, zg_2, zg_3, zg_4, zg_5, zg_6, zg_7, zg_8, zg_9, zc_lt, zc_le, zc_gt, zc_ge, zc_eq, zc_ne, zc_lt0, zc_ge0, zc_gt0, zc_eq0, zc_ne0, zb_ne, zb_eq, zb_01, z_00, z_01, z_11, zb_f, zb_T, zb_F, zbm1, zbm2, zbm5, zbm6, zbm3, zbm4, nI_clamp, zmod_n, pk_div, nI_ne0, pk_mul, nI_add, nI_1, zt_0, zt_12, zt_20, zt_26, zt_32, zf_0_0, zf_0_1, zf_0_2, zf_0_3, zf_0_4, zf_12_0, zf_12_1, zf_12_2, zf_12_4, zf_12_5, zf_20_1, zf_20_2, zf_20_3, zf_20_4, zf_20_6, zf_26_0, zf_26_1, zf_26_2, zf_26_3, zf_32_0, zf_32_1, zf_32_3, zf_32_4, zf_32_5, zf_32_6, zi_25, ti], rfl, u, u1, u2, fun x hx => ?_, u4, u5, fun e' b' t x q => u6 e' b' t x (by rw [ni]; exact RR.up t q)⟩
        by_cases z : x = i
        · rw [z]
          exact hj
        · exact u3 x (by omega)
      · generalize hgj : gd u i = j at ti gi hj
        have lt : i < j := by
          rcases Nat.lt_trichotomy i j with z | z | z
          · exact z
          · exact absurd z.symm hj
          · have := u3 j z
            rw [← hgj] at this
            have := u1.inj (by rw [hgj]; exact gi) hi this
            omega
        have bl := zlt_y (show j < 7 by omega) (show 7 < 2 ^ 31 by decide)
        have bi := u5.2.2.1 i (by omega)
        have b23 := bi.1
        have bt := nI_bit (n := b i) (v := j) (by have := bi.2; omega) (by omega)
        cases hb : (b i).testBit j with
        | false =>
          rw [hb] at bt
          have nb : ¬ (b i).testBit j = true := by rw [hb]; decide
          obtain ⟨M2, e2, k2⟩ := qT_keepF h7 u5 u1 u2 lt gi u3 hgj u4 nb
          have ex := eU_ex (e := e) (p := u) nb
          refine ⟨some none, _, M2, by simp (disch := omega) [zs_Turns_take_1, zmeth, xm_en, zret, zretz, zretv, zseq, zst, zinc, zkl, zskip, zk, zi, za, zbin, zdiv, zrem, zgi, zgr, zld, zldr, zlen, zn, zc, zcall, zcallv, zrcv, zdo, zdov, zpf, zpfc, zas, zasc, zmin, zmax, zcmp, zcz, zand_e, zor_e, zite_e, zbite_e, zif_e, znot_e, z_add, z_sub, z_mul, z_and, z_or, z_xor, z_shl, z_shr, zcpy, -List.getElem?_cons_succ, zg_0, zg_1, zg_2, zg_3, zg_4, zg_5, zg_6, zg_7, zg_8, zg_9, zc_lt, zc_le, zc_gt, zc_ge, zc_eq, zc_ne, zc_lt0, zc_ge0, zc_gt0, zc_eq0, zc_ne0, zb_ne, zb_eq, zb_01, z_00, z_01, z_11, zb_f, zb_T, zb_F, zbm1, zbm2, zbm5, zbm6, zbm3, zbm4, nI_clamp, zmod_n, pk_div, nI_ne0, pk_mul, nI_add, nI_1, zt_0, zt_12, zt_20, zt_26, zt_32, zf_0_0, zf_0_1, zf_0_2, zf_0_3, zf_0_4, zf_12_0, zf_12_1, zf_12_2, zf_12_4, zf_12_5, zf_20_1, zf_20_2, zf_20_3, zf_20_4, zf_20_6, zf_26_0, zf_26_1, zf_26_2, zf_26_3, zf_32_0, zf_32_1, zf_32_3, zf_32_4, zf_32_5, zf_32_6, zi_25, zi_23, ti, hj, qL_isBelow, bl, b23, bt, e2]; rfl, Or.inr rfl, _, _, _, k2, ex, ⟨_, rfl⟩, u6 _ _ k2.2.1 ex ?_⟩
          rw [ni]
          exact RR.kept k2.2.1 (Or.inr ⟨j, bU_t.mpr (Or.inr ⟨rfl, rfl⟩), (if_pos ⟨rfl, rfl⟩).symm⟩)
        | true =>
          rw [hb] at bt
          obtain ⟨M2, e2, k2, t2⟩ := qT_undoF h7 u5 u1 u2 hb
          obtain ⟨_, x2, x3, x4⟩ := u5.2.1 i j hb
          have gk := (u5.2.2.2.1 i j hb).1
          have fix : ∀ x, x < i + 1 → gd (cp (iv n (e i j)) u) x = x := fun x hx => by
            rw [cp_gd u1 (by omega)]
            unfold iv
            rw [fl_gd (u1.gl (by omega))]
            by_cases z : x = i
            · subst z
              rw [hgj]
              have w := x2.pg hi
              rw [x4] at w
              exact w
            · rw [u3 x (by omega)]
              have := x2.pg (i := x) (by omega)
              rw [x3 x (by omega)] at this
              exact this
          have hc := GH_HC n c
          refine ⟨none, [some (Value.ref (20)), some (Value.int (nI (i + 1))), none], M2, by simp (disch := omega) [zs_Turns_take_1, zmeth, xm_en, zret, zretz, zretv, zseq, zst, zinc, zkl, zskip, zk, zi, za, zbin, zdiv, zrem, zgi, zgr, zld, zldr, zlen, zn, zc, zcall, zcallv, zrcv, zdo, zdov, zpf, zpfc, zas, zasc, zmin, zmax, zcmp, zcz, zand_e, zor_e, zite_e, zbite_e, zif_e, znot_e, z_add, z_sub, z_mul, z_and, z_or, z_xor, z_shl, z_shr, zcpy, -List.getElem?_cons_succ, zg_0, zg_1, zg_2, zg_3, zg_4, zg_5, zg_6, zg_7, zg_8, zg_9, zc_lt, zc_le, zc_gt, zc_ge, zc_eq, zc_ne, zc_lt0, zc_ge0, zc_gt0, zc_eq0, zc_ne0, zb_ne, zb_eq, zb_01, z_00, z_01, z_11, zb_f, zb_T, zb_F, zbm1, zbm2, zbm5, zbm6, zbm3, zbm4, nI_clamp, zmod_n, pk_div, nI_ne0, pk_mul, nI_add, nI_1, zt_0, zt_12, zt_20, zt_26, zt_32, zf_0_0, zf_0_1, zf_0_2, zf_0_3, zf_0_4, zf_12_0, zf_12_1, zf_12_2, zf_12_4, zf_12_5, zf_20_1, zf_20_2, zf_20_3, zf_20_4, zf_20_6, zf_26_0, zf_26_1, zf_26_2, zf_26_3, zf_32_0, zf_32_1, zf_32_3, zf_32_4, zf_32_5, zf_32_6, zi_25, zi_23, ti, hj, qL_isBelow, bl, b23, bt, e2], rfl, cp (iv n (e i j)) u, cp_PQ (iv_PQ x2) u1, t2, fix, hc.2.1 _ _ (iv_PQ x2) u1 (hc.2.2.1 _ x2 gk) u4, k2, fun e' b' t x q => u6 e' b' t x ?_⟩
          rw [ni]
          refine ⟨e i j, cp (iv n (e i j)) u, Or.inr ⟨j, (x i j hb).1, (x i j hb).2.symm⟩, q, ?_⟩
          rw [← cp_as x2 (iv_PQ x2) u1, cp_iv x2, id_cp u1]) [some (Value.ref (20)), some (Value.int (nI 0)), none] M ⟨rfl, p, hp, ht, fun x hx => absurd hx (Nat.not_lt_zero x), gh, h, fun e' b' _ _ q => q⟩
  refine ⟨M1, ?_, g1⟩
  rcases hr with rfl | rfl
  · simp (disch := omega) [zf_Turns_take, zmeth, xm_en, zret, zretz, zretv, zseq, zst, zinc, zkl, zskip, zk, zi, za, zbin, zdiv, zrem, zgi, zgr, zld, zldr, zlen, zn, zc, zcall, zcallv, zrcv, zdo, zdov, zpf, zpfc, zas, zasc, zmin, zmax, zcmp, zcz, zand_e, zor_e, zite_e, zbite_e, zif_e, znot_e, z_add, z_sub, z_mul, z_and, z_or, z_xor, z_shl, z_shr, zcpy, -List.getElem?_cons_succ, zg_0, zg_1, zg_2, zg_3, zg_4, zg_5, zg_6, zg_7, zg_8, zg_9, e1]
  · simp (disch := omega) [zf_Turns_take, zmeth, xm_en, zret, zretz, zretv, zseq, zst, zinc, zkl, zskip, zk, zi, za, zbin, zdiv, zrem, zgi, zgr, zld, zldr, zlen, zn, zc, zcall, zcallv, zrcv, zdo, zdov, zpf, zpfc, zas, zasc, zmin, zmax, zcmp, zcz, zand_e, zor_e, zite_e, zbite_e, zif_e, znot_e, z_add, z_sub, z_mul, z_and, z_or, z_xor, z_shl, z_shr, zcpy, -List.getElem?_cons_succ, zg_0, zg_1, zg_2, zg_3, zg_4, zg_5, zg_6, zg_7, zg_8, zg_9, e1]
theorem KS.kT {M0 M : zM} {n k n' : Nat} {c c' : tC} {e : Nat → Nat → List Nat} {b : Nat → Nat} {K : List Nat} (h : KS M0 n c e b K M) (hk : k < 10) (ht : kT M0 k n' c') : kT M k n' c' := ht.same (fun j => h.1.2.2 _ _ (by omega)) (fun j => h.1.2.2 _ _ (by omega))
theorem qT_takeTurnsF {M0 M : zM} {n k : Nat} {c : tC} {e : Nat → Nat → List Nat} {b : Nat → Nat} {K : List Nat} (h7 : n ≤ 7) (hk : ztb k) (hk2 : k < 10) (ho : tO n c) (hf : tF n c) (ht : kT M0 k n c) (h : KS M0 n c e b K M) : ∃ M', zf_Turns_takeTurns [.ref 20, .ref k] M = some (none, M') ∧ ∃ e' b' K', KS M0 n c e' b' K' M' ∧ ∀ a, 1 ≤ a → a < n → RR n e' b' n 0 (La n c a) ∧ RR n e' b' n 0 (Ra n c a) := by
  have h1 := ho.1.1
  have h8 : n ≤ 8 := by omega
  have gc := GH_HC n c
  obtain ⟨M1, e1, g1⟩ := zwh_inv (c := zc_Turns_takeTurns_1) (s := zs_Turns_takeTurns_1) (fun a ls M' => ls = [some (Value.ref (20)), some (Value.ref (k)), some (Value.int (nI a)), none] ∧ ∃ e' b' K', KS M0 n c e' b' K' M' ∧ ∀ a', 1 ≤ a' → a' < a → RR n e' b' n 0 (La n c a') ∧ RR n e' b' n 0 (Ra n c a')) (Q := fun r ls M' => r = none ∧ ls = [some (Value.ref (20)), some (Value.ref (k)), some (Value.int (nI n)), none] ∧ ∃ e' b' K', KS M0 n c e' b' K' M' ∧ ∀ a, 1 ≤ a → a < n → RR n e' b' n 0 (La n c a) ∧ RR n e' b' n 0 (Ra n c a)) (n := n) (fun ls M' q => by
      obtain ⟨rfl, e', b', K', q1, q2⟩ := q
      have n0 := q1.n
      exact ⟨by simp (disch := omega) [zc_Turns_takeTurns_1, zmeth, xm_en, zret, zretz, zretv, zseq, zst, zinc, zkl, zskip, zk, zi, za, zbin, zdiv, zrem, zgi, zgr, zld, zldr, zlen, zn, zc, zcall, zcallv, zrcv, zdo, zdov, zpf, zpfc, zas, zasc, zmin, zmax, zcmp, zcz, zand_e, zor_e, zite_e, zbite_e, zif_e, znot_e, z_add, z_sub, z_mul, z_and, z_or, z_xor, z_shl, z_shr, zcpy, -List.getElem?_cons_succ, zg_0, zg_1, zg_2, zg_3, zg_4, zg_5, zg_6, zg_7, zg_8, zg_9, zc_lt, zc_le, zc_gt, zc_ge, zc_eq, zc_ne, zc_lt0, zc_ge0, zc_gt0, zc_eq0, zc_ne0, zb_ne, zb_eq, zb_01, z_00, z_01, z_11, zb_f, zb_T, zb_F, zbm1, zbm2, zbm5, zbm6, zbm3, zbm4, nI_clamp, zmod_n, pk_div, nI_ne0, pk_mul, nI_add, nI_1, zt_0, zt_12, zt_20, zt_26, zt_32, zf_0_0, zf_0_1, zf_0_2, zf_0_3, zf_0_4, zf_12_0, zf_12_1, zf_12_2, zf_12_4, zf_12_5, zf_20_1, zf_20_2, zf_20_3, zf_20_4, zf_20_6, zf_26_0, zf_26_1, zf_26_2, zf_26_3, zf_32_0, zf_32_1, zf_32_3, zf_32_4, zf_32_5, zf_32_6, n0], rfl, rfl, e', b', K', q1, q2⟩) (n - 1) 1 (by omega) (fun a ls M' _ ha q => by
      obtain ⟨rfl, e', b', K', q1, q2⟩ := q
      have n0 := q1.n
      refine ⟨by simp (disch := omega) [zc_Turns_takeTurns_1, zmeth, xm_en, zret, zretz, zretv, zseq, zst, zinc, zkl, zskip, zk, zi, za, zbin, zdiv, zrem, zgi, zgr, zld, zldr, zlen, zn, zc, zcall, zcallv, zrcv, zdo, zdov, zpf, zpfc, zas, zasc, zmin, zmax, zcmp, zcz, zand_e, zor_e, zite_e, zbite_e, zif_e, znot_e, z_add, z_sub, z_mul, z_and, z_or, z_xor, z_shl, z_shr, zcpy, -List.getElem?_cons_succ, zg_0, zg_1, zg_2, zg_3, zg_4, zg_5, zg_6, zg_7, zg_8, zg_9, zc_lt, zc_le, zc_gt, zc_ge, zc_eq, zc_ne, zc_lt0, zc_ge0, zc_gt0, zc_eq0, zc_ne0, zb_ne, zb_eq, zb_01, z_00, z_01, z_11, zb_f, zb_T, zb_F, zbm1, zbm2, zbm5, zbm6, zbm3, zbm4, nI_clamp, zmod_n, pk_div, nI_ne0, pk_mul, nI_add, nI_1, zt_0, zt_12, zt_20, zt_26, zt_32, zf_0_0, zf_0_1, zf_0_2, zf_0_3, zf_0_4, zf_12_0, zf_12_1, zf_12_2, zf_12_4, zf_12_5, zf_20_1, zf_20_2, zf_20_3, zf_20_4, zf_20_6, zf_26_0, zf_26_1, zf_26_2, zf_26_3, zf_32_0, zf_32_1, zf_32_3, zf_32_4, zf_32_5, zf_32_6, n0, ha], ?_⟩
      obtain ⟨M2, e2, i2, s2⟩ := tr_loop (c' := zc_Turns_takeTurns_2) (s' := zs_Turns_takeTurns_2) (M := M') (n := n) (ls0 := fun x => [some (Value.ref (20)), some (Value.ref (k)), some (Value.int (nI a)), some (Value.int (nI x))]) (f := fun x => c a x) (fun x M3 hx fr => by
          have z : M3 20 0 = nI n := (fr _ _ (by decide)).trans n0
          simp (disch := omega) [zc_Turns_takeTurns_2, zmeth, xm_en, zret, zretz, zretv, zseq, zst, zinc, zkl, zskip, zk, zi, za, zbin, zdiv, zrem, zgi, zgr, zld, zldr, zlen, zn, zc, zcall, zcallv, zrcv, zdo, zdov, zpf, zpfc, zas, zasc, zmin, zmax, zcmp, zcz, zand_e, zor_e, zite_e, zbite_e, zif_e, znot_e, z_add, z_sub, z_mul, z_and, z_or, z_xor, z_shl, z_shr, zcpy, -List.getElem?_cons_succ, zg_0, zg_1, zg_2, zg_3, zg_4, zg_5, zg_6, zg_7, zg_8, zg_9, zc_lt, zc_le, zc_gt, zc_ge, zc_eq, zc_ne, zc_lt0, zc_ge0, zc_gt0, zc_eq0, zc_ne0, zb_ne, zb_eq, zb_01, z_00, z_01, z_11, zb_f, zb_T, zb_F, zbm1, zbm2, zbm5, zbm6, zbm3, zbm4, nI_clamp, zmod_n, pk_div, nI_ne0, pk_mul, nI_add, nI_1, zt_0, zt_12, zt_20, zt_26, zt_32, zf_0_0, zf_0_1, zf_0_2, zf_0_3, zf_0_4, zf_12_0, zf_12_1, zf_12_2, zf_12_4, zf_12_5, zf_20_1, zf_20_2, zf_20_3, zf_20_4, zf_20_6, zf_26_0, zf_26_1, zf_26_2, zf_26_3, zf_32_0, zf_32_1, zf_32_3, zf_32_4, zf_32_5, zf_32_6, z, hx]) (fun M3 fr => by
          have z : M3 20 0 = nI n := (fr _ _ (by decide)).trans n0
          simp (disch := omega) [zc_Turns_takeTurns_2, zmeth, xm_en, zret, zretz, zretv, zseq, zst, zinc, zkl, zskip, zk, zi, za, zbin, zdiv, zrem, zgi, zgr, zld, zldr, zlen, zn, zc, zcall, zcallv, zrcv, zdo, zdov, zpf, zpfc, zas, zasc, zmin, zmax, zcmp, zcz, zand_e, zor_e, zite_e, zbite_e, zif_e, znot_e, z_add, z_sub, z_mul, z_and, z_or, z_xor, z_shl, z_shr, zcpy, -List.getElem?_cons_succ, zg_0, zg_1, zg_2, zg_3, zg_4, zg_5, zg_6, zg_7, zg_8, zg_9, zc_lt, zc_le, zc_gt, zc_ge, zc_eq, zc_ne, zc_lt0, zc_ge0, zc_gt0, zc_eq0, zc_ne0, zb_ne, zb_eq, zb_01, z_00, z_01, z_11, zb_f, zb_T, zb_F, zbm1, zbm2, zbm5, zbm6, zbm3, zbm4, nI_clamp, zmod_n, pk_div, nI_ne0, pk_mul, nI_add, nI_1, zt_0, zt_12, zt_20, zt_26, zt_32, zf_0_0, zf_0_1, zf_0_2, zf_0_3, zf_0_4, zf_12_0, zf_12_1, zf_12_2, zf_12_4, zf_12_5, zf_20_1, zf_20_2, zf_20_3, zf_20_4, zf_20_6, zf_26_0, zf_26_1, zf_26_2, zf_26_3, zf_32_0, zf_32_1, zf_32_3, zf_32_4, zf_32_5, zf_32_6, z]) (fun x M3 hx fr _ => by
          have m := qT_mul hk ((q1.fr fr).kT hk2 ht) h8 hf ha hx
          simp (disch := omega) [zs_Turns_takeTurns_2, zmeth, xm_en, zret, zretz, zretv, zseq, zst, zinc, zkl, zskip, zk, zi, za, zbin, zdiv, zrem, zgi, zgr, zld, zldr, zlen, zn, zc, zcall, zcallv, zrcv, zdo, zdov, zpf, zpfc, zas, zasc, zmin, zmax, zcmp, zcz, zand_e, zor_e, zite_e, zbite_e, zif_e, znot_e, z_add, z_sub, z_mul, z_and, z_or, z_xor, z_shl, z_shr, zcpy, -List.getElem?_cons_succ, zg_0, zg_1, zg_2, zg_3, zg_4, zg_5, zg_6, zg_7, zg_8, zg_9, zc_lt, zc_le, zc_gt, zc_ge, zc_eq, zc_ne, zc_lt0, zc_ge0, zc_gt0, zc_eq0, zc_ne0, zb_ne, zb_eq, zb_01, z_00, z_01, z_11, zb_f, zb_T, zb_F, zbm1, zbm2, zbm5, zbm6, zbm3, zbm4, nI_clamp, zmod_n, pk_div, nI_ne0, pk_mul, nI_add, nI_1, zt_0, zt_12, zt_20, zt_26, zt_32, zf_0_0, zf_0_1, zf_0_2, zf_0_3, zf_0_4, zf_12_0, zf_12_1, zf_12_2, zf_12_4, zf_12_5, zf_20_1, zf_20_2, zf_20_3, zf_20_4, zf_20_6, zf_26_0, zf_26_1, zf_26_2, zf_26_3, zf_32_0, zf_32_1, zf_32_3, zf_32_4, zf_32_5, zf_32_6, zi_25, ztb_tag hk, m])
      have pl := La_PQ ho hf ha
      obtain ⟨M3, e3, e4, b4, K4, k4, x4, _, r4⟩ := qT_takeF h7 (q1.fr s2) pl (fun x hx => by rw [i2 x hx]; unfold La; rw [fl_gd hx]) (gc.2.2.2 a ha).1
      have n3 := k4.n
      obtain ⟨M5, e5, i5, s5⟩ := tr_loop (c' := zc_Turns_takeTurns_3) (s' := zs_Turns_takeTurns_3) (M := M3) (n := n) (ls0 := fun x => [some (Value.ref (20)), some (Value.ref (k)), some (Value.int (nI a)), some (Value.int (nI x))]) (f := fun x => c x a) (fun x M4 hx fr => by
          have z : M4 20 0 = nI n := (fr _ _ (by decide)).trans n3
          simp (disch := omega) [zc_Turns_takeTurns_3, zmeth, xm_en, zret, zretz, zretv, zseq, zst, zinc, zkl, zskip, zk, zi, za, zbin, zdiv, zrem, zgi, zgr, zld, zldr, zlen, zn, zc, zcall, zcallv, zrcv, zdo, zdov, zpf, zpfc, zas, zasc, zmin, zmax, zcmp, zcz, zand_e, zor_e, zite_e, zbite_e, zif_e, znot_e, z_add, z_sub, z_mul, z_and, z_or, z_xor, z_shl, z_shr, zcpy, -List.getElem?_cons_succ, zg_0, zg_1, zg_2, zg_3, zg_4, zg_5, zg_6, zg_7, zg_8, zg_9, zc_lt, zc_le, zc_gt, zc_ge, zc_eq, zc_ne, zc_lt0, zc_ge0, zc_gt0, zc_eq0, zc_ne0, zb_ne, zb_eq, zb_01, z_00, z_01, z_11, zb_f, zb_T, zb_F, zbm1, zbm2, zbm5, zbm6, zbm3, zbm4, nI_clamp, zmod_n, pk_div, nI_ne0, pk_mul, nI_add, nI_1, zt_0, zt_12, zt_20, zt_26, zt_32, zf_0_0, zf_0_1, zf_0_2, zf_0_3, zf_0_4, zf_12_0, zf_12_1, zf_12_2, zf_12_4, zf_12_5, zf_20_1, zf_20_2, zf_20_3, zf_20_4, zf_20_6, zf_26_0, zf_26_1, zf_26_2, zf_26_3, zf_32_0, zf_32_1, zf_32_3, zf_32_4, zf_32_5, zf_32_6, z, hx]) (fun M4 fr => by
          have z : M4 20 0 = nI n := (fr _ _ (by decide)).trans n3
          simp (disch := omega) [zc_Turns_takeTurns_3, zmeth, xm_en, zret, zretz, zretv, zseq, zst, zinc, zkl, zskip, zk, zi, za, zbin, zdiv, zrem, zgi, zgr, zld, zldr, zlen, zn, zc, zcall, zcallv, zrcv, zdo, zdov, zpf, zpfc, zas, zasc, zmin, zmax, zcmp, zcz, zand_e, zor_e, zite_e, zbite_e, zif_e, znot_e, z_add, z_sub, z_mul, z_and, z_or, z_xor, z_shl, z_shr, zcpy, -List.getElem?_cons_succ, zg_0, zg_1, zg_2, zg_3, zg_4, zg_5, zg_6, zg_7, zg_8, zg_9, zc_lt, zc_le, zc_gt, zc_ge, zc_eq, zc_ne, zc_lt0, zc_ge0, zc_gt0, zc_eq0, zc_ne0, zb_ne, zb_eq, zb_01, z_00, z_01, z_11, zb_f, zb_T, zb_F, zbm1, zbm2, zbm5, zbm6, zbm3, zbm4, nI_clamp, zmod_n, pk_div, nI_ne0, pk_mul, nI_add, nI_1, zt_0, zt_12, zt_20, zt_26, zt_32, zf_0_0, zf_0_1, zf_0_2, zf_0_3, zf_0_4, zf_12_0, zf_12_1, zf_12_2, zf_12_4, zf_12_5, zf_20_1, zf_20_2, zf_20_3, zf_20_4, zf_20_6, zf_26_0, zf_26_1, zf_26_2, zf_26_3, zf_32_0, zf_32_1, zf_32_3, zf_32_4, zf_32_5, zf_32_6, z]) (fun x M4 hx fr _ => by
          have m := qT_mul hk ((k4.fr fr).kT hk2 ht) h8 hf hx ha
          simp (disch := omega) [zs_Turns_takeTurns_3, zmeth, xm_en, zret, zretz, zretv, zseq, zst, zinc, zkl, zskip, zk, zi, za, zbin, zdiv, zrem, zgi, zgr, zld, zldr, zlen, zn, zc, zcall, zcallv, zrcv, zdo, zdov, zpf, zpfc, zas, zasc, zmin, zmax, zcmp, zcz, zand_e, zor_e, zite_e, zbite_e, zif_e, znot_e, z_add, z_sub, z_mul, z_and, z_or, z_xor, z_shl, z_shr, zcpy, -List.getElem?_cons_succ, zg_0, zg_1, zg_2, zg_3, zg_4, zg_5, zg_6, zg_7, zg_8, zg_9, zc_lt, zc_le, zc_gt, zc_ge, zc_eq, zc_ne, zc_lt0, zc_ge0, zc_gt0, zc_eq0, zc_ne0, zb_ne, zb_eq, zb_01, z_00, z_01, z_11, zb_f, zb_T, zb_F, zbm1, zbm2, zbm5, zbm6, zbm3, zbm4, nI_clamp, zmod_n, pk_div, nI_ne0, pk_mul, nI_add, nI_1, zt_0, zt_12, zt_20, zt_26, zt_32, zf_0_0, zf_0_1, zf_0_2, zf_0_3, zf_0_4, zf_12_0, zf_12_1, zf_12_2, zf_12_4, zf_12_5, zf_20_1, zf_20_2, zf_20_3, zf_20_4, zf_20_6, zf_26_0, zf_26_1, zf_26_2, zf_26_3, zf_32_0, zf_32_1, zf_32_3, zf_32_4, zf_32_5, zf_32_6, zi_25, ztb_tag hk, m])
      have pr := Ra_PQ ho hf ha
      obtain ⟨M6, e6, e7, b7, K7, k7, x7, _, r7⟩ := qT_takeF h7 (k4.fr s5) pr (fun x hx => by rw [i5 x hx]; unfold Ra; rw [fl_gd hx]) (gc.2.2.2 a ha).2
      refine ⟨none, [some (Value.ref (20)), some (Value.ref (k)), some (Value.int (nI (a + 1))), none], M6, by simp (disch := omega) [zs_Turns_takeTurns_1, zmeth, xm_en, zret, zretz, zretv, zseq, zst, zinc, zkl, zskip, zk, zi, za, zbin, zdiv, zrem, zgi, zgr, zld, zldr, zlen, zn, zc, zcall, zcallv, zrcv, zdo, zdov, zpf, zpfc, zas, zasc, zmin, zmax, zcmp, zcz, zand_e, zor_e, zite_e, zbite_e, zif_e, znot_e, z_add, z_sub, z_mul, z_and, z_or, z_xor, z_shl, z_shr, zcpy, -List.getElem?_cons_succ, zg_0, zg_1, zg_2, zg_3, zg_4, zg_5, zg_6, zg_7, zg_8, zg_9, zc_lt, zc_le, zc_gt, zc_ge, zc_eq, zc_ne, zc_lt0, zc_ge0, zc_gt0, zc_eq0, zc_ne0, zb_ne, zb_eq, zb_01, z_00, z_01, z_11, zb_f, zb_T, zb_F, zbm1, zbm2, zbm5, zbm6, zbm3, zbm4, nI_clamp, zmod_n, pk_div, nI_ne0, pk_mul, nI_add, nI_1, zt_0, zt_12, zt_20, zt_26, zt_32, zf_0_0, zf_0_1, zf_0_2, zf_0_3, zf_0_4, zf_12_0, zf_12_1, zf_12_2, zf_12_4, zf_12_5, zf_20_1, zf_20_2, zf_20_3, zf_20_4, zf_20_6, zf_26_0, zf_26_1, zf_26_2, zf_26_3, zf_32_0, zf_32_1, zf_32_3, zf_32_4, zf_32_5, zf_32_6, e2, e3, e5, e6], rfl, e7, b7, K7, k7, fun a' l1 l2 => ?_⟩
      by_cases z : a' = a
      · subst z
        exact ⟨r4.ex x7, r7⟩
      · have := q2 a' l1 (by omega)
        exact ⟨this.1.ex (x4.trans x7), this.2.ex (x4.trans x7)⟩) [some (Value.ref (20)), some (Value.ref (k)), some (Value.int (nI 1)), none] M ⟨rfl, e, b, K, h, fun a' l1 l2 => by omega⟩
  obtain ⟨M2, w1, rfl, rfl, w2⟩ := g1
  exact ⟨M2, by simp (disch := omega) [zf_Turns_takeTurns, zmeth, xm_en, zret, zretz, zretv, zseq, zst, zinc, zkl, zskip, zk, zi, za, zbin, zdiv, zrem, zgi, zgr, zld, zldr, zlen, zn, zc, zcall, zcallv, zrcv, zdo, zdov, zpf, zpfc, zas, zasc, zmin, zmax, zcmp, zcz, zand_e, zor_e, zite_e, zbite_e, zif_e, znot_e, z_add, z_sub, z_mul, z_and, z_or, z_xor, z_shl, z_shr, zcpy, -List.getElem?_cons_succ, zg_0, zg_1, zg_2, zg_3, zg_4, zg_5, zg_6, zg_7, zg_8, zg_9, w1], w2⟩
theorem qT_prodF {M0 M : zM} {n k1 k2 : Nat} {c : tC} {e : Nat → Nat → List Nat} {b : Nat → Nat} {K : List Nat} (h7 : n ≤ 7) (h : KS M0 n c e b K M) (h1 : k1 ∈ K) (h2 : k2 ∈ K) : ∃ M', zf_Turns_takeProduct [.ref 20, .int (nI k1), .int (nI k2)] M = some (none, M') ∧ GR M0 n c e b K (fun e' b' _ => RR n e' b' n 0 (cp (e (k2 / 7) (k2 % 7)) (e (k1 / 7) (k1 % 7)))) M' := by
  obtain ⟨a1, a2⟩ := h.pl h7 h1
  obtain ⟨d1, d2⟩ := h.pl h7 h2
  have ea : 7 * (k1 / 7) + k1 % 7 = k1 := by omega
  have ed : 7 * (k2 / 7) + k2 % 7 = k2 := by omega
  obtain ⟨ga, va, _⟩ := h.2.2.2.1 _ _ a2
  obtain ⟨gd', vd, _⟩ := h.2.2.2.1 _ _ d2
  rw [ea] at va
  rw [ed] at vd
  have pa := (h.2.1 _ _ a2).2.1
  have pd := (h.2.1 _ _ d2).2.1
  have n0 := h.n
  have hc := GH_HC n c
  obtain ⟨M2, e2, i2, s2⟩ := tr_loop (c' := zc_Turns_takeProduct_1) (s' := zs_Turns_takeProduct_1) (M := M) (n := n) (ls0 := fun x => [some (Value.ref (20)), some (Value.int (nI k1)), some (Value.int (nI k2)), some (Value.int (nI x))]) (f := fun x => gd (e (k2 / 7) (k2 % 7)) (gd (e (k1 / 7) (k1 % 7)) x)) (fun x M3 hx fr => by
      have z : M3 20 0 = nI n := (fr _ _ (by decide)).trans n0
      simp (disch := omega) [zc_Turns_takeProduct_1, zmeth, xm_en, zret, zretz, zretv, zseq, zst, zinc, zkl, zskip, zk, zi, za, zbin, zdiv, zrem, zgi, zgr, zld, zldr, zlen, zn, zc, zcall, zcallv, zrcv, zdo, zdov, zpf, zpfc, zas, zasc, zmin, zmax, zcmp, zcz, zand_e, zor_e, zite_e, zbite_e, zif_e, znot_e, z_add, z_sub, z_mul, z_and, z_or, z_xor, z_shl, z_shr, zcpy, -List.getElem?_cons_succ, zg_0, zg_1, zg_2, zg_3, zg_4, zg_5, zg_6, zg_7, zg_8, zg_9, zc_lt, zc_le, zc_gt, zc_ge, zc_eq, zc_ne, zc_lt0, zc_ge0, zc_gt0, zc_eq0, zc_ne0, zb_ne, zb_eq, zb_01, z_00, z_01, z_11, zb_f, zb_T, zb_F, zbm1, zbm2, zbm5, zbm6, zbm3, zbm4, nI_clamp, zmod_n, pk_div, nI_ne0, pk_mul, nI_add, nI_1, zt_0, zt_12, zt_20, zt_26, zt_32, zf_0_0, zf_0_1, zf_0_2, zf_0_3, zf_0_4, zf_12_0, zf_12_1, zf_12_2, zf_12_4, zf_12_5, zf_20_1, zf_20_2, zf_20_3, zf_20_4, zf_20_6, zf_26_0, zf_26_1, zf_26_2, zf_26_3, zf_32_0, zf_32_1, zf_32_3, zf_32_4, zf_32_5, zf_32_6, z, hx]) (fun M3 fr => by
      have z : M3 20 0 = nI n := (fr _ _ (by decide)).trans n0
      simp (disch := omega) [zc_Turns_takeProduct_1, zmeth, xm_en, zret, zretz, zretv, zseq, zst, zinc, zkl, zskip, zk, zi, za, zbin, zdiv, zrem, zgi, zgr, zld, zldr, zlen, zn, zc, zcall, zcallv, zrcv, zdo, zdov, zpf, zpfc, zas, zasc, zmin, zmax, zcmp, zcz, zand_e, zor_e, zite_e, zbite_e, zif_e, znot_e, z_add, z_sub, z_mul, z_and, z_or, z_xor, z_shl, z_shr, zcpy, -List.getElem?_cons_succ, zg_0, zg_1, zg_2, zg_3, zg_4, zg_5, zg_6, zg_7, zg_8, zg_9, zc_lt, zc_le, zc_gt, zc_ge, zc_eq, zc_ne, zc_lt0, zc_ge0, zc_gt0, zc_eq0, zc_ne0, zb_ne, zb_eq, zb_01, z_00, z_01, z_11, zb_f, zb_T, zb_F, zbm1, zbm2, zbm5, zbm6, zbm3, zbm4, nI_clamp, zmod_n, pk_div, nI_ne0, pk_mul, nI_add, nI_1, zt_0, zt_12, zt_20, zt_26, zt_32, zf_0_0, zf_0_1, zf_0_2, zf_0_3, zf_0_4, zf_12_0, zf_12_1, zf_12_2, zf_12_4, zf_12_5, zf_20_1, zf_20_2, zf_20_3, zf_20_4, zf_20_6, zf_26_0, zf_26_1, zf_26_2, zf_26_3, zf_32_0, zf_32_1, zf_32_3, zf_32_4, zf_32_5, zf_32_6, z]) (fun x M3 hx fr _ => by
      have gx := pa.gl hx
      have r1 := qT_rd (M := M3) (k := 21) (p := k1) (x := x) rfl a1 (by omega)
      have v1 : M3 21 (7 * k1 + x) = nI (gd (e (k1 / 7) (k1 % 7)) x) := (fr _ _ (by decide)).trans (va x hx)
      rw [v1] at r1
      have r2 := qT_rd (M := M3) (k := 21) (p := k2) (x := gd (e (k1 / 7) (k1 % 7)) x) rfl d1 (by omega)
      have v2 : M3 21 (7 * k2 + gd (e (k1 / 7) (k1 % 7)) x) = nI (gd (e (k2 / 7) (k2 % 7)) (gd (e (k1 / 7) (k1 % 7)) x)) := (fr _ _ (by decide)).trans (vd _ gx)
      rw [v2] at r2
      simp (disch := omega) [zs_Turns_takeProduct_1, zmeth, xm_en, zret, zretz, zretv, zseq, zst, zinc, zkl, zskip, zk, zi, za, zbin, zdiv, zrem, zgi, zgr, zld, zldr, zlen, zn, zc, zcall, zcallv, zrcv, zdo, zdov, zpf, zpfc, zas, zasc, zmin, zmax, zcmp, zcz, zand_e, zor_e, zite_e, zbite_e, zif_e, znot_e, z_add, z_sub, z_mul, z_and, z_or, z_xor, z_shl, z_shr, zcpy, -List.getElem?_cons_succ, zg_0, zg_1, zg_2, zg_3, zg_4, zg_5, zg_6, zg_7, zg_8, zg_9, zc_lt, zc_le, zc_gt, zc_ge, zc_eq, zc_ne, zc_lt0, zc_ge0, zc_gt0, zc_eq0, zc_ne0, zb_ne, zb_eq, zb_01, z_00, z_01, z_11, zb_f, zb_T, zb_F, zbm1, zbm2, zbm5, zbm6, zbm3, zbm4, nI_clamp, zmod_n, pk_div, nI_ne0, pk_mul, nI_add, nI_1, zt_0, zt_12, zt_20, zt_26, zt_32, zf_0_0, zf_0_1, zf_0_2, zf_0_3, zf_0_4, zf_12_0, zf_12_1, zf_12_2, zf_12_4, zf_12_5, zf_20_1, zf_20_2, zf_20_3, zf_20_4, zf_20_6, zf_26_0, zf_26_1, zf_26_2, zf_26_3, zf_32_0, zf_32_1, zf_32_3, zf_32_4, zf_32_5, zf_32_6, zi_25, r1, r2])
  obtain ⟨M3, e3, g3⟩ := qT_takeF h7 (h.fr s2) (cp_PQ pd pa) (fun x hx => by rw [i2 x hx, cp_gd pa hx]) (hc.2.1 _ _ pd pa gd' ga)
  exact ⟨M3, by simp (disch := omega) [zf_Turns_takeProduct, zmeth, xm_en, zret, zretz, zretv, zseq, zst, zinc, zkl, zskip, zk, zi, za, zbin, zdiv, zrem, zgi, zgr, zld, zldr, zlen, zn, zc, zcall, zcallv, zrcv, zdo, zdov, zpf, zpfc, zas, zasc, zmin, zmax, zcmp, zcz, zand_e, zor_e, zite_e, zbite_e, zif_e, znot_e, z_add, z_sub, z_mul, z_and, z_or, z_xor, z_shl, z_shr, zcpy, -List.getElem?_cons_succ, zg_0, zg_1, zg_2, zg_3, zg_4, zg_5, zg_6, zg_7, zg_8, zg_9, zt_0, zt_12, zt_20, zt_26, zt_32, zf_0_0, zf_0_1, zf_0_2, zf_0_3, zf_0_4, zf_12_0, zf_12_1, zf_12_2, zf_12_4, zf_12_5, zf_20_1, zf_20_2, zf_20_3, zf_20_4, zf_20_6, zf_26_0, zf_26_1, zf_26_2, zf_26_3, zf_32_0, zf_32_1, zf_32_3, zf_32_4, zf_32_5, zf_32_6, e2, e3], g3⟩
/-- all products of the first m kept ones are there -/
def PX (n : Nat) (e : Nat → Nat → List Nat) (b : Nat → Nat) (K : List Nat) (m m' : Nat) : Prop := RR n e b n 0 (cp (e (gd K m / 7) (gd K m % 7)) (e (gd K m' / 7) (gd K m' % 7)))
theorem PX.ex {M0 M : zM} {n m m' : Nat} {c : tC} {e e' : Nat → Nat → List Nat} {b b' : Nat → Nat} {K W : List Nat} (h7 : n ≤ 7) (h : KS M0 n c e b K M) (hE : EX e b e' b') (hm : m < K.length) (hm' : m' < K.length) (q : PX n e b K m m') : PX n e' b' (K ++ W) m m' := by
  unfold PX
  rw [gd_app hm, gd_app hm', (hE _ _ (h.pl h7 (gd_mem hm)).2).2, (hE _ _ (h.pl h7 (gd_mem hm')).2).2]
  exact RR.ex hE q
theorem qT_tp2F {M0 M : zM} {n i : Nat} {c : tC} {e : Nat → Nat → List Nat} {b : Nat → Nat} {K : List Nat} (h7 : n ≤ 7) (h : KS M0 n c e b K M) (hi : i < K.length) (hP : ∀ m m', m < i → m' < i → PX n e b K m m') : ∃ M' e' b' K', zwh zc_Turns_takeProducts_2 zs_Turns_takeProducts_2 [some (Value.ref (20)), some (Value.int (nI i)), some (Value.int (nI 0))] M = some (none, [some (Value.ref (20)), some (Value.int (nI i)), some (Value.int (nI (i + 1)))], M') ∧ KS M0 n c e' b' K' M' ∧ EX e b e' b' ∧ (∃ W, K' = K ++ W) ∧ ∀ m m', m < i + 1 → m' < i + 1 → PX n e' b' K' m m' := by
  have l0 := (h.len h7).1
  obtain ⟨r, ls, M', w1, rfl, rfl, e', b', K', k1, k2, ⟨W, k3⟩, k4⟩ := zwh_inv (c := zc_Turns_takeProducts_2) (s := zs_Turns_takeProducts_2) (fun j ls M' => ls = [some (Value.ref (20)), some (Value.int (nI i)), some (Value.int (nI j))] ∧ ∃ e' b' K', KS M0 n c e' b' K' M' ∧ EX e b e' b' ∧ (∃ W, K' = K ++ W) ∧ ∀ m, m < j → PX n e' b' K' m i ∧ PX n e' b' K' i m) (Q := fun r ls M' => r = none ∧ ls = [some (Value.ref (20)), some (Value.int (nI i)), some (Value.int (nI (i + 1)))] ∧ ∃ e' b' K', KS M0 n c e' b' K' M' ∧ EX e b e' b' ∧ (∃ W, K' = K ++ W) ∧ ∀ m, m < i + 1 → PX n e' b' K' m i ∧ PX n e' b' K' i m) (n := i + 1) (fun ls M' q => by
      obtain ⟨rfl, q⟩ := q
      exact ⟨by simp (disch := omega) [zc_Turns_takeProducts_2, zmeth, xm_en, zret, zretz, zretv, zseq, zst, zinc, zkl, zskip, zk, zi, za, zbin, zdiv, zrem, zgi, zgr, zld, zldr, zlen, zn, zc, zcall, zcallv, zrcv, zdo, zdov, zpf, zpfc, zas, zasc, zmin, zmax, zcmp, zcz, zand_e, zor_e, zite_e, zbite_e, zif_e, znot_e, z_add, z_sub, z_mul, z_and, z_or, z_xor, z_shl, z_shr, zcpy, -List.getElem?_cons_succ, zg_0, zg_1, zg_2, zg_3, zg_4, zg_5, zg_6, zg_7, zg_8, zg_9, zc_lt, zc_le, zc_gt, zc_ge, zc_eq, zc_ne, zc_lt0, zc_ge0, zc_gt0, zc_eq0, zc_ne0, zb_ne, zb_eq, zb_01, z_00, z_01, z_11, zb_f, zb_T, zb_F, zbm1, zbm2, zbm5, zbm6, zbm3, zbm4, nI_clamp, zmod_n, pk_div, nI_ne0, pk_mul, nI_add, nI_1, zt_0, zt_12, zt_20, zt_26, zt_32, zf_0_0, zf_0_1, zf_0_2, zf_0_3, zf_0_4, zf_12_0, zf_12_1, zf_12_2, zf_12_4, zf_12_5, zf_20_1, zf_20_2, zf_20_3, zf_20_4, zf_20_6, zf_26_0, zf_26_1, zf_26_2, zf_26_3, zf_32_0, zf_32_1, zf_32_3, zf_32_4, zf_32_5, zf_32_6], rfl, rfl, q⟩) (i + 1) 0 (by omega) (fun j ls M1 _ hj q => by
      obtain ⟨rfl, e1, b1, K1, q1, q2, ⟨W1, q3⟩, q4⟩ := q
      have jle : j ≤ i := by omega
      refine ⟨by simp (disch := omega) [zc_Turns_takeProducts_2, zmeth, xm_en, zret, zretz, zretv, zseq, zst, zinc, zkl, zskip, zk, zi, za, zbin, zdiv, zrem, zgi, zgr, zld, zldr, zlen, zn, zc, zcall, zcallv, zrcv, zdo, zdov, zpf, zpfc, zas, zasc, zmin, zmax, zcmp, zcz, zand_e, zor_e, zite_e, zbite_e, zif_e, znot_e, z_add, z_sub, z_mul, z_and, z_or, z_xor, z_shl, z_shr, zcpy, -List.getElem?_cons_succ, zg_0, zg_1, zg_2, zg_3, zg_4, zg_5, zg_6, zg_7, zg_8, zg_9, zc_lt, zc_le, zc_gt, zc_ge, zc_eq, zc_ne, zc_lt0, zc_ge0, zc_gt0, zc_eq0, zc_ne0, zb_ne, zb_eq, zb_01, z_00, z_01, z_11, zb_f, zb_T, zb_F, zbm1, zbm2, zbm5, zbm6, zbm3, zbm4, nI_clamp, zmod_n, pk_div, nI_ne0, pk_mul, nI_add, nI_1, zt_0, zt_12, zt_20, zt_26, zt_32, zf_0_0, zf_0_1, zf_0_2, zf_0_3, zf_0_4, zf_12_0, zf_12_1, zf_12_2, zf_12_4, zf_12_5, zf_20_1, zf_20_2, zf_20_3, zf_20_4, zf_20_6, zf_26_0, zf_26_1, zf_26_2, zf_26_3, zf_32_0, zf_32_1, zf_32_3, zf_32_4, zf_32_5, zf_32_6, jle], ?_⟩
      have li : i < K1.length := by rw [q3, List.length_append]; omega
      have lj : j < K1.length := by omega
      have l1 := (q1.len h7).1
      have vi := q1.2.2.2.2.2.1 i li
      have vj := q1.2.2.2.2.2.1 j lj
      obtain ⟨M2, x2, e2, b2, K2, k2, y2, ⟨W2, z2⟩, p2⟩ := qT_prodF h7 q1 (gd_mem li) (gd_mem lj)
      have li2 : i < K2.length := by rw [z2, List.length_append]; omega
      have lj2 : j < K2.length := by omega
      have gi : gd K2 i = gd K1 i := by rw [z2, gd_app li]
      have gj : gd K2 j = gd K1 j := by rw [z2, gd_app lj]
      have vi2 := k2.2.2.2.2.2.1 i li2
      have vj2 := k2.2.2.2.2.2.1 j lj2
      obtain ⟨M3, x3, e3, b3, K3, k3, y3, ⟨W3, z3⟩, p3⟩ := qT_prodF h7 k2 (gd_mem lj2) (gd_mem li2)
      have x3' := x3
      rw [gi, gj] at x3'
      rw [gi] at vi2
      rw [gj] at vj2
      have pxA : PX n e3 b3 K3 j i := by
        have : PX n e2 b2 K2 j i := by
          unfold PX
          rw [gi, gj, (y2 _ _ (q1.pl h7 (gd_mem li)).2).2, (y2 _ _ (q1.pl h7 (gd_mem lj)).2).2]
          exact p2
        rw [z3]
        exact this.ex h7 k2 y3 lj2 li2
      have pxB : PX n e3 b3 K3 i j := by
        unfold PX
        rw [z3, gd_app li2, gd_app lj2, (y3 _ _ (k2.pl h7 (gd_mem li2)).2).2, (y3 _ _ (k2.pl h7 (gd_mem lj2)).2).2]
        exact p3
      refine ⟨none, [some (Value.ref (20)), some (Value.int (nI i)), some (Value.int (nI (j + 1)))], M3, by simp (disch := omega) [zs_Turns_takeProducts_2, zmeth, xm_en, zret, zretz, zretv, zseq, zst, zinc, zkl, zskip, zk, zi, za, zbin, zdiv, zrem, zgi, zgr, zld, zldr, zlen, zn, zc, zcall, zcallv, zrcv, zdo, zdov, zpf, zpfc, zas, zasc, zmin, zmax, zcmp, zcz, zand_e, zor_e, zite_e, zbite_e, zif_e, znot_e, z_add, z_sub, z_mul, z_and, z_or, z_xor, z_shl, z_shr, zcpy, -List.getElem?_cons_succ, zg_0, zg_1, zg_2, zg_3, zg_4, zg_5, zg_6, zg_7, zg_8, zg_9, zc_lt, zc_le, zc_gt, zc_ge, zc_eq, zc_ne, zc_lt0, zc_ge0, zc_gt0, zc_eq0, zc_ne0, zb_ne, zb_eq, zb_01, z_00, z_01, z_11, zb_f, zb_T, zb_F, zbm1, zbm2, zbm5, zbm6, zbm3, zbm4, nI_clamp, zmod_n, pk_div, nI_ne0, pk_mul, nI_add, nI_1, zt_0, zt_12, zt_20, zt_26, zt_32, zf_0_0, zf_0_1, zf_0_2, zf_0_3, zf_0_4, zf_12_0, zf_12_1, zf_12_2, zf_12_4, zf_12_5, zf_20_1, zf_20_2, zf_20_3, zf_20_4, zf_20_6, zf_26_0, zf_26_1, zf_26_2, zf_26_3, zf_32_0, zf_32_1, zf_32_3, zf_32_4, zf_32_5, zf_32_6, zi_24, vi, vj, vi2, vj2, x2, x3'], rfl, e3, b3, K3, k3, q2.trans (y2.trans y3), ⟨W1 ++ (W2 ++ W3), by rw [z3, z2, q3, List.append_assoc, List.append_assoc]⟩, fun m hm => ?_⟩
      by_cases z : m = j
      · subst z
        exact ⟨pxA, pxB⟩
      · have := q4 m (by omega)
        have lm : m < K1.length := by omega
        have a : PX n e2 b2 K2 m i ∧ PX n e2 b2 K2 i m := by
          rw [z2]
          exact ⟨this.1.ex h7 q1 y2 lm li, this.2.ex h7 q1 y2 li lm⟩
        rw [z3]
        exact ⟨a.1.ex h7 k2 y3 (by omega) li2, a.2.ex h7 k2 y3 li2 (by omega)⟩) [some (Value.ref (20)), some (Value.int (nI i)), some (Value.int (nI 0))] M ⟨rfl, e, b, K, h, EX.refl e b, ⟨[], (List.append_nil K).symm⟩, fun m hm => absurd hm (Nat.not_lt_zero m)⟩
  refine ⟨M', e', b', K', w1, k1, k2, ⟨W, k3⟩, fun m m' hm hm' => ?_⟩
  by_cases z : m = i
  · subst z
    exact (k4 m' hm').2
  · by_cases z' : m' = i
    · subst z'
      exact (k4 m hm).1
    · rw [k3]
      exact (hP m m' (by omega) (by omega)).ex h7 h k2 (by omega) (by omega)
theorem qT_tp1F {M0 : zM} {n : Nat} {c : tC} (h7 : n ≤ 7) : ∀ (d i : Nat) (e : Nat → Nat → List Nat) (b : Nat → Nat) (K : List Nat) (M : zM), 49 ≤ i + d → i ≤ K.length → KS M0 n c e b K M → (∀ m m', m < i → m' < i → PX n e b K m m') → ∃ i' M' e' b' K', zwh zc_Turns_takeProducts_1 zs_Turns_takeProducts_1 [some (Value.ref (20)), some (Value.int (nI i)), none] M = some (none, [some (Value.ref (20)), some (Value.int (nI i')), none], M') ∧ KS M0 n c e' b' K' M' ∧ EX e b e' b' ∧ ∀ m m', m < K'.length → m' < K'.length → PX n e' b' K' m m' := by
  have stop : ∀ (i : Nat) (e : Nat → Nat → List Nat) (b : Nat → Nat) (K : List Nat) (M : zM), i = K.length → KS M0 n c e b K M → zwh zc_Turns_takeProducts_1 zs_Turns_takeProducts_1 [some (Value.ref (20)), some (Value.int (nI i)), none] M = some (none, [some (Value.ref (20)), some (Value.int (nI i)), none], M) := fun i e b K M q h => by
    have l0 := (h.len h7).1
    have k5 := h.1.2.1
    subst q
    exact zwh_f (by simp (disch := omega) [zc_Turns_takeProducts_1, zmeth, xm_en, zret, zretz, zretv, zseq, zst, zinc, zkl, zskip, zk, zi, za, zbin, zdiv, zrem, zgi, zgr, zld, zldr, zlen, zn, zc, zcall, zcallv, zrcv, zdo, zdov, zpf, zpfc, zas, zasc, zmin, zmax, zcmp, zcz, zand_e, zor_e, zite_e, zbite_e, zif_e, znot_e, z_add, z_sub, z_mul, z_and, z_or, z_xor, z_shl, z_shr, zcpy, -List.getElem?_cons_succ, zg_0, zg_1, zg_2, zg_3, zg_4, zg_5, zg_6, zg_7, zg_8, zg_9, zc_lt, zc_le, zc_gt, zc_ge, zc_eq, zc_ne, zc_lt0, zc_ge0, zc_gt0, zc_eq0, zc_ne0, zb_ne, zb_eq, zb_01, z_00, z_01, z_11, zb_f, zb_T, zb_F, zbm1, zbm2, zbm5, zbm6, zbm3, zbm4, nI_clamp, zmod_n, pk_div, nI_ne0, pk_mul, nI_add, nI_1, zt_0, zt_12, zt_20, zt_26, zt_32, zf_0_0, zf_0_1, zf_0_2, zf_0_3, zf_0_4, zf_12_0, zf_12_1, zf_12_2, zf_12_4, zf_12_5, zf_20_1, zf_20_2, zf_20_3, zf_20_4, zf_20_6, zf_26_0, zf_26_1, zf_26_2, zf_26_3, zf_32_0, zf_32_1, zf_32_3, zf_32_4, zf_32_5, zf_32_6, k5])
  intro d
  induction d with
  | zero =>
    intro i e b K M h1 h2 h hP
    have l0 := (h.len h7).1
    have q : i = K.length := by omega
    exact ⟨i, M, e, b, K, stop i e b K M q h, h, EX.refl e b, fun m m' a a' => hP m m' (by omega) (by omega)⟩
  | succ d ih =>
    intro i e b K M h1 h2 h hP
    have l0 := (h.len h7).1
    by_cases q : i = K.length
    · exact ⟨i, M, e, b, K, stop i e b K M q h, h, EX.refl e b, fun m m' a a' => hP m m' (by omega) (by omega)⟩
    · have li : i < K.length := by omega
      have k5 := h.1.2.1
      obtain ⟨M1, e1, b1, K1, w1, k1, x1, ⟨W, y1⟩, p1⟩ := qT_tp2F h7 h li hP
      have l1 : K.length ≤ K1.length := by rw [y1, List.length_append]; omega
      obtain ⟨i', M2, e2, b2, K2, w2, k2, x2, p2⟩ := ih (i + 1) e1 b1 K1 M1 (by omega) (by omega) k1 p1
      refine ⟨i', M2, e2, b2, K2, zwh_t (ls2 := [some (Value.ref (20)), some (Value.int (nI (i + 1))), none]) (M2 := M1) (M1 := M) ?_ ?_ w2, k2, x1.trans x2, p2⟩
      · have i49 : i < 49 := by omega
        simp (disch := omega) [zc_Turns_takeProducts_1, zmeth, xm_en, zret, zretz, zretv, zseq, zst, zinc, zkl, zskip, zk, zi, za, zbin, zdiv, zrem, zgi, zgr, zld, zldr, zlen, zn, zc, zcall, zcallv, zrcv, zdo, zdov, zpf, zpfc, zas, zasc, zmin, zmax, zcmp, zcz, zand_e, zor_e, zite_e, zbite_e, zif_e, znot_e, z_add, z_sub, z_mul, z_and, z_or, z_xor, z_shl, z_shr, zcpy, -List.getElem?_cons_succ, zg_0, zg_1, zg_2, zg_3, zg_4, zg_5, zg_6, zg_7, zg_8, zg_9, zc_lt, zc_le, zc_gt, zc_ge, zc_eq, zc_ne, zc_lt0, zc_ge0, zc_gt0, zc_eq0, zc_ne0, zb_ne, zb_eq, zb_01, z_00, z_01, z_11, zb_f, zb_T, zb_F, zbm1, zbm2, zbm5, zbm6, zbm3, zbm4, nI_clamp, zmod_n, pk_div, nI_ne0, pk_mul, nI_add, nI_1, zt_0, zt_12, zt_20, zt_26, zt_32, zf_0_0, zf_0_1, zf_0_2, zf_0_3, zf_0_4, zf_12_0, zf_12_1, zf_12_2, zf_12_4, zf_12_5, zf_20_1, zf_20_2, zf_20_3, zf_20_4, zf_20_6, zf_26_0, zf_26_1, zf_26_2, zf_26_3, zf_32_0, zf_32_1, zf_32_3, zf_32_4, zf_32_5, zf_32_6, k5, li, i49]
      · simp (disch := omega) [zs_Turns_takeProducts_1, zmeth, xm_en, zret, zretz, zretv, zseq, zst, zinc, zkl, zskip, zk, zi, za, zbin, zdiv, zrem, zgi, zgr, zld, zldr, zlen, zn, zc, zcall, zcallv, zrcv, zdo, zdov, zpf, zpfc, zas, zasc, zmin, zmax, zcmp, zcz, zand_e, zor_e, zite_e, zbite_e, zif_e, znot_e, z_add, z_sub, z_mul, z_and, z_or, z_xor, z_shl, z_shr, zcpy, -List.getElem?_cons_succ, zg_0, zg_1, zg_2, zg_3, zg_4, zg_5, zg_6, zg_7, zg_8, zg_9, zc_lt, zc_le, zc_gt, zc_ge, zc_eq, zc_ne, zc_lt0, zc_ge0, zc_gt0, zc_eq0, zc_ne0, zb_ne, zb_eq, zb_01, z_00, z_01, z_11, zb_f, zb_T, zb_F, zbm1, zbm2, zbm5, zbm6, zbm3, zbm4, nI_clamp, zmod_n, pk_div, nI_ne0, pk_mul, nI_add, nI_1, w1]
theorem CL_of {M0 M : zM} {n : Nat} {c : tC} {e : Nat → Nat → List Nat} {b : Nat → Nat} {K : List Nat} (h7 : n ≤ 7) (h : KS M0 n c e b K M) (hP : ∀ m m', m < K.length → m' < K.length → PX n e b K m m') : CL n e b := fun i j i' j' q q' => by
  have t := (h.2.1 i j q).1
  have t' := (h.2.1 i' j' q').1
  have m1 := px_mem ((h.2.2.2.2.2.2 (7 * i + j)).mpr ⟨i, j, q, rfl⟩)
  have m2 := px_mem ((h.2.2.2.2.2.2 (7 * i' + j')).mpr ⟨i', j', q', rfl⟩)
  have := hP _ _ m1.1 m2.1
  unfold PX at this
  have e1 : (7 * i + j) / 7 = i := by omega
  have e2 : (7 * i + j) % 7 = j := by omega
  have e3 : (7 * i' + j') / 7 = i' := by omega
  have e4 : (7 * i' + j') % 7 = j' := by omega
  rw [m1.2, m2.2, e1, e2, e3, e4] at this
  exact this
