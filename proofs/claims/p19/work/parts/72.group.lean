/-! group: the reference comes to its end and leaves the tables -/
def les (g : Nat → Nat) (i k : Nat) : Nat := if i < k ∧ g k < g i then 1 else 0
def rr (n : Nat) (g : Nat → Nat) : Nat → Nat
  | 0 => 0
  | i + 1 => rr n g i * (n - i) + zsum (les g i) n
def ff (n : Nat) : Nat → Nat
  | 0 => 1
  | i + 1 => ff n i * (n - i)
theorem zsum_tail {f : Nat → Nat} {i : Nat} (h0 : ∀ k, k ≤ i → f k = 0) (h1 : ∀ k, f k ≤ 1) : ∀ n, zsum f n ≤ n - (i + 1)
  | 0 => by simp [zsum]
  | n + 1 => by
    have := zsum_tail h0 h1 n
    have a := h1 n
    show zsum f n + f n ≤ _
    rcases Nat.lt_or_ge i n with q | q
    · omega
    · rw [h0 n q]
      have z : zsum f n = 0 := zsum_0.mpr (fun k hk => h0 k (by omega))
      omega
theorem les_le (n : Nat) (g : Nat → Nat) (i : Nat) : zsum (les g i) n ≤ n - (i + 1) := zsum_tail (fun k hk => by unfold les; rw [if_neg (by omega)]) (fun k => by unfold les; split <;> omega) n
theorem rr_lt (n : Nat) (g : Nat → Nat) : ∀ i, i ≤ n → rr n g i + 1 ≤ ff n i
  | 0, _ => Nat.le_refl _
  | i + 1, h => by
    have ih := rr_lt n g i (by omega)
    have l := les_le n g i
    have m : (rr n g i + 1) * (n - i) ≤ ff n i * (n - i) := Nat.mul_le_mul_right _ ih
    rw [Nat.add_mul, Nat.one_mul] at m
    show rr n g i * (n - i) + zsum (les g i) n + 1 ≤ ff n i * (n - i)
    omega
theorem ff_le : ∀ n, n ≤ 7 → ∀ i, i ≤ n → ff n i ≤ 5040 := by decide
def IM (M : zM) (n : Nat) (g : Nat → Nat) : Prop := ∀ i, i < n → M 36 i = nI (g i) ∧ g i < n
theorem les_0 (g : Nat → Nat) (i : Nat) : zsum (les g i) (i + 1) = 0 := zsum_0.mpr (fun k hk => by unfold les; rw [if_neg (by omega)])
theorem qM_rank {M : zM} {n : Nat} {g : Nat → Nat} (h7 : n ≤ 7) (hI : IM M n g) : zf_M_rank [.ref 32, .int (nI n)] M = some (some (nI (rr n g n)), M) := by
  have rb : ∀ i, i ≤ n → rr n g i < 5040 := fun i hi => by have := rr_lt n g i hi; have := ff_le n h7 i hi; omega
  have inner : ∀ i r, i < n → zwh zc_M_rank_2 zs_M_rank_2 [some (Value.ref (32)), some (Value.int (nI n)), some (Value.int (r)), some (Value.int (nI i)), some (Value.int (nI 0)), some (Value.int (nI (i + 1)))] M = some (none, [some (Value.ref (32)), some (Value.int (nI n)), some (Value.int (r)), some (Value.int (nI i)), some (Value.int (nI (zsum (les g i) n))), some (Value.int (nI n))], M) := by
    intro i r hi
    have R := zwh_up (c := zc_M_rank_2) (s := zs_M_rank_2) (fun j => [some (Value.ref (32)), some (Value.int (nI n)), some (Value.int (r)), some (Value.int (nI i)), some (Value.int (nI (zsum (les g i) j))), some (Value.int (nI j))]) (fun _ => M) (n := n) (n - (i + 1)) (i + 1) (by omega) ?_ ?_ ?_
    · rw [les_0] at R
      exact R
    · intro j _ h2
      simp (disch := omega) [zc_M_rank_2, zmeth, xm_en, zret, zretz, zretv, zseq, zst, zinc, zkl, zskip, zk, zi, za, zbin, zdiv, zrem, zgi, zgr, zld, zldr, zlen, zn, zc, zcall, zcallv, zrcv, zdo, zdov, zpf, zpfc, zas, zasc, zmin, zmax, zcmp, zcz, zand_e, zor_e, zite_e, zbite_e, zif_e, znot_e, z_add, z_sub, z_mul, z_and, z_or, z_xor, z_shl, z_shr, zcpy, -List.getElem?_cons_succ, zg_0, zg_1, zg_2, zg_3, zg_4, zg_5, zg_6, zg_7, zg_8, zg_9, zc_lt, zc_le, zc_gt, zc_ge, zc_eq, zc_ne, zc_lt0, zc_ge0, zc_gt0, zc_eq0, zc_ne0, zb_ne, zb_eq, zb_01, z_00, z_01, z_11, zb_f, zb_T, zb_F, zbm1, zbm2, zbm5, zbm6, zbm3, zbm4, nI_clamp, zmod_n, pk_div, nI_ne0, pk_mul, nI_add, nI_1, h2]
    · intro j h1 h2
      have a := hI j h2
      have b := hI i hi
      have e : zsum (les g i) (j + 1) = zsum (les g i) j + les g i j := rfl
      by_cases q : g j < g i
      · have el : les g i j = 1 := by unfold les; rw [if_pos ⟨by omega, q⟩]
        simp (disch := omega) [zs_M_rank_2, zmeth, xm_en, zret, zretz, zretv, zseq, zst, zinc, zkl, zskip, zk, zi, za, zbin, zdiv, zrem, zgi, zgr, zld, zldr, zlen, zn, zc, zcall, zcallv, zrcv, zdo, zdov, zpf, zpfc, zas, zasc, zmin, zmax, zcmp, zcz, zand_e, zor_e, zite_e, zbite_e, zif_e, znot_e, z_add, z_sub, z_mul, z_and, z_or, z_xor, z_shl, z_shr, zcpy, -List.getElem?_cons_succ, zg_0, zg_1, zg_2, zg_3, zg_4, zg_5, zg_6, zg_7, zg_8, zg_9, zc_lt, zc_le, zc_gt, zc_ge, zc_eq, zc_ne, zc_lt0, zc_ge0, zc_gt0, zc_eq0, zc_ne0, zb_ne, zb_eq, zb_01, z_00, z_01, z_11, zb_f, zb_T, zb_F, zbm1, zbm2, zbm5, zbm6, zbm3, zbm4, nI_clamp, zmod_n, pk_div, nI_ne0, pk_mul, nI_add, nI_1, zt_0, zt_12, zt_20, zt_26, zt_32, zf_0_0, zf_0_1, zf_0_2, zf_0_3, zf_0_4, zf_12_0, zf_12_1, zf_12_2, zf_12_4, zf_12_5, zf_20_1, zf_20_2, zf_20_3, zf_20_4, zf_20_6, zf_26_0, zf_26_1, zf_26_2, zf_26_3, zf_32_0, zf_32_1, zf_32_3, zf_32_4, zf_32_5, zf_32_6, zi_36, a.1, b.1, q, e, el]
      · have el : les g i j = 0 := by unfold les; rw [if_neg (fun z => q z.2)]
        simp (disch := omega) [zs_M_rank_2, zmeth, xm_en, zret, zretz, zretv, zseq, zst, zinc, zkl, zskip, zk, zi, za, zbin, zdiv, zrem, zgi, zgr, zld, zldr, zlen, zn, zc, zcall, zcallv, zrcv, zdo, zdov, zpf, zpfc, zas, zasc, zmin, zmax, zcmp, zcz, zand_e, zor_e, zite_e, zbite_e, zif_e, znot_e, z_add, z_sub, z_mul, z_and, z_or, z_xor, z_shl, z_shr, zcpy, -List.getElem?_cons_succ, zg_0, zg_1, zg_2, zg_3, zg_4, zg_5, zg_6, zg_7, zg_8, zg_9, zc_lt, zc_le, zc_gt, zc_ge, zc_eq, zc_ne, zc_lt0, zc_ge0, zc_gt0, zc_eq0, zc_ne0, zb_ne, zb_eq, zb_01, z_00, z_01, z_11, zb_f, zb_T, zb_F, zbm1, zbm2, zbm5, zbm6, zbm3, zbm4, nI_clamp, zmod_n, pk_div, nI_ne0, pk_mul, nI_add, nI_1, zt_0, zt_12, zt_20, zt_26, zt_32, zf_0_0, zf_0_1, zf_0_2, zf_0_3, zf_0_4, zf_12_0, zf_12_1, zf_12_2, zf_12_4, zf_12_5, zf_20_1, zf_20_2, zf_20_3, zf_20_4, zf_20_6, zf_26_0, zf_26_1, zf_26_2, zf_26_3, zf_32_0, zf_32_1, zf_32_3, zf_32_4, zf_32_5, zf_32_6, zi_36, a.1, b.1, q, e, el]
    · simp (disch := omega) [zc_M_rank_2, zmeth, xm_en, zret, zretz, zretv, zseq, zst, zinc, zkl, zskip, zk, zi, za, zbin, zdiv, zrem, zgi, zgr, zld, zldr, zlen, zn, zc, zcall, zcallv, zrcv, zdo, zdov, zpf, zpfc, zas, zasc, zmin, zmax, zcmp, zcz, zand_e, zor_e, zite_e, zbite_e, zif_e, znot_e, z_add, z_sub, z_mul, z_and, z_or, z_xor, z_shl, z_shr, zcpy, -List.getElem?_cons_succ, zg_0, zg_1, zg_2, zg_3, zg_4, zg_5, zg_6, zg_7, zg_8, zg_9, zc_lt, zc_le, zc_gt, zc_ge, zc_eq, zc_ne, zc_lt0, zc_ge0, zc_gt0, zc_eq0, zc_ne0, zb_ne, zb_eq, zb_01, z_00, z_01, z_11, zb_f, zb_T, zb_F, zbm1, zbm2, zbm5, zbm6, zbm3, zbm4, nI_clamp, zmod_n, pk_div, nI_ne0, pk_mul, nI_add, nI_1]
  have R := zwh_up (c := zc_M_rank_1) (s := zs_M_rank_1) (fun j => [some (Value.ref (32)), some (Value.int (nI n)), some (Value.int (nI (rr n g j))), some (Value.int (nI j)), none, none]) (fun _ => M) (n := n) n 0 (by omega) ?_ ?_ ?_
  · have e0 : rr n g 0 = 0 := rfl
    rw [e0] at R
    simp (disch := omega) [zf_M_rank, zmeth, xm_en, zret, zretz, zretv, zseq, zst, zinc, zkl, zskip, zk, zi, za, zbin, zdiv, zrem, zgi, zgr, zld, zldr, zlen, zn, zc, zcall, zcallv, zrcv, zdo, zdov, zpf, zpfc, zas, zasc, zmin, zmax, zcmp, zcz, zand_e, zor_e, zite_e, zbite_e, zif_e, znot_e, z_add, z_sub, z_mul, z_and, z_or, z_xor, z_shl, z_shr, zcpy, -List.getElem?_cons_succ, zg_0, zg_1, zg_2, zg_3, zg_4, zg_5, zg_6, zg_7, zg_8, zg_9, R]
  · intro j _ h2
    simp (disch := omega) [zc_M_rank_1, zmeth, xm_en, zret, zretz, zretv, zseq, zst, zinc, zkl, zskip, zk, zi, za, zbin, zdiv, zrem, zgi, zgr, zld, zldr, zlen, zn, zc, zcall, zcallv, zrcv, zdo, zdov, zpf, zpfc, zas, zasc, zmin, zmax, zcmp, zcz, zand_e, zor_e, zite_e, zbite_e, zif_e, znot_e, z_add, z_sub, z_mul, z_and, z_or, z_xor, z_shl, z_shr, zcpy, -List.getElem?_cons_succ, zg_0, zg_1, zg_2, zg_3, zg_4, zg_5, zg_6, zg_7, zg_8, zg_9, zc_lt, zc_le, zc_gt, zc_ge, zc_eq, zc_ne, zc_lt0, zc_ge0, zc_gt0, zc_eq0, zc_ne0, zb_ne, zb_eq, zb_01, z_00, z_01, z_11, zb_f, zb_T, zb_F, zbm1, zbm2, zbm5, zbm6, zbm3, zbm4, nI_clamp, zmod_n, pk_div, nI_ne0, pk_mul, nI_add, nI_1, h2]
  · intro j _ h2
    have i2 := inner j (nI (rr n g j)) h2
    have e : rr n g (j + 1) = rr n g j * (n - j) + zsum (les g j) n := rfl
    have es : nI n - nI j = nI (n - j) := pk_sub (by omega)
    simp (disch := omega) [zs_M_rank_1, zmeth, xm_en, zret, zretz, zretv, zseq, zst, zinc, zkl, zskip, zk, zi, za, zbin, zdiv, zrem, zgi, zgr, zld, zldr, zlen, zn, zc, zcall, zcallv, zrcv, zdo, zdov, zpf, zpfc, zas, zasc, zmin, zmax, zcmp, zcz, zand_e, zor_e, zite_e, zbite_e, zif_e, znot_e, z_add, z_sub, z_mul, z_and, z_or, z_xor, z_shl, z_shr, zcpy, -List.getElem?_cons_succ, zg_0, zg_1, zg_2, zg_3, zg_4, zg_5, zg_6, zg_7, zg_8, zg_9, zc_lt, zc_le, zc_gt, zc_ge, zc_eq, zc_ne, zc_lt0, zc_ge0, zc_gt0, zc_eq0, zc_ne0, zb_ne, zb_eq, zb_01, z_00, z_01, z_11, zb_f, zb_T, zb_F, zbm1, zbm2, zbm5, zbm6, zbm3, zbm4, nI_clamp, zmod_n, pk_div, nI_ne0, pk_mul, nI_add, nI_1, i2, es, e]
  · simp (disch := omega) [zc_M_rank_1, zmeth, xm_en, zret, zretz, zretv, zseq, zst, zinc, zkl, zskip, zk, zi, za, zbin, zdiv, zrem, zgi, zgr, zld, zldr, zlen, zn, zc, zcall, zcallv, zrcv, zdo, zdov, zpf, zpfc, zas, zasc, zmin, zmax, zcmp, zcz, zand_e, zor_e, zite_e, zbite_e, zif_e, znot_e, z_add, z_sub, z_mul, z_and, z_or, z_xor, z_shl, z_shr, zcpy, -List.getElem?_cons_succ, zg_0, zg_1, zg_2, zg_3, zg_4, zg_5, zg_6, zg_7, zg_8, zg_9, zc_lt, zc_le, zc_gt, zc_ge, zc_eq, zc_ne, zc_lt0, zc_ge0, zc_gt0, zc_eq0, zc_ne0, zb_ne, zb_eq, zb_01, z_00, z_01, z_11, zb_f, zb_T, zb_F, zbm1, zbm2, zbm5, zbm6, zbm3, zbm4, nI_clamp, zmod_n, pk_div, nI_ne0, pk_mul, nI_add, nI_1]
def mb (M : zM) (k : Nat) : Nat := if M 38 k = 0 then 0 else 1
def GB (M : zM) (n many : Nat) : Prop := zsum (mb M) 5040 = many ∧ ∀ m i, m < many → i < n → ∃ v, v < n ∧ M 37 (7 * m + i) = nI v
/-- scratch of the group alone -/
def gF (M M' : zM) : Prop := ∀ q j, q ≠ 36 → q ≠ 37 → q ≠ 38 → M' q j = M q j
theorem mb_le (M : zM) (k : Nat) : mb M k ≤ 1 := by unfold mb; split <;> omega
theorem qM_joins {M : zM} {n many : Nat} {g : Nat → Nat} (h7 : n ≤ 7) (hI : IM M n g) (hB : GB M n many) : ∃ many' M', zf_M_joins [.ref 32, .int (nI n), .int (nI many)] M = some (some (nI many'), M') ∧ GB M' n many' ∧ gF M M' ∧ (∀ i, M' 36 i = M 36 i) ∧ many ≤ many' := by
  have rb : rr n g n < 5040 := by have := rr_lt n g n (Nat.le_refl n); have := ff_le n h7 n (Nat.le_refl n); omega
  have rk := qM_rank h7 hI
  have mm : many ≤ 5040 := by rw [← hB.1]; exact zsum_b (mb_le M)
  by_cases hz : M 38 (rr n g n) = 0
  · have lt : many < 5040 := by
      rw [← hB.1]
      have := zsum_lt (f := mb M) (g := fun _ => 1) (n := 5040) (fun i _ => mb_le M i) ⟨rr n g n, rb, by unfold mb; rw [if_pos hz]; decide⟩
      have one : ∀ m, zsum (fun _ => 1) m = m := fun m => by
        induction m with
        | zero => rfl
        | succ m ih => show zsum _ m + 1 = _; rw [ih]
      rw [one] at this
      exact this
    have n1 : vp_nar .boolean (nI 1) = 1 := by decide
    have ne0 : xe_cd Cond.ne 0 0 = false := by decide
    have R := zwh_inv (c := zc_M_joins_1) (s := zs_M_joins_1) (fun j ls M' => ls = [some (Value.ref (32)), some (Value.int (nI n)), some (Value.int (nI many)), some (Value.int (nI j))] ∧ (∀ i, i < j → M' 37 (7 * many + i) = nI (g i)) ∧ (∀ q i, ¬ (q = 37 ∧ 7 * many ≤ i) → M' q i = zup M 38 (rr n g n) 1 q i)) (Q := fun r ls M' => r = none ∧ ls = [some (Value.ref (32)), some (Value.int (nI n)), some (Value.int (nI many)), some (Value.int (nI n))] ∧ (∀ i, i < n → M' 37 (7 * many + i) = nI (g i)) ∧ (∀ q i, ¬ (q = 37 ∧ 7 * many ≤ i) → M' q i = zup M 38 (rr n g n) 1 q i)) (n := n) ?_ n 0 (by omega) ?_ _ _ ⟨rfl, fun i hi => absurd hi (Nat.not_lt_zero i), fun _ _ _ => rfl⟩
    · obtain ⟨r, ls, M', w1, rfl, rfl, w2, w3⟩ := R
      refine ⟨many + 1, M', ?_, ⟨?_, fun m i hm hi => ?_⟩, fun q j q1 q2 q3 => ?_, fun i => ?_, by omega⟩
      · simp (disch := omega) [zf_M_joins, zmeth, xm_en, zret, zretz, zretv, zseq, zst, zinc, zkl, zskip, zk, zi, za, zbin, zdiv, zrem, zgi, zgr, zld, zldr, zlen, zn, zc, zcall, zcallv, zrcv, zdo, zdov, zpf, zpfc, zas, zasc, zmin, zmax, zcmp, zcz, zand_e, zor_e, zite_e, zbite_e, zif_e, znot_e, z_add, z_sub, z_mul, z_and, z_or, z_xor, z_shl, z_shr, zcpy, -List.getElem?_cons_succ, zg_0, zg_1, zg_2, zg_3, zg_4, zg_5, zg_6, zg_7, zg_8, zg_9, zc_lt, zc_le, zc_gt, zc_ge, zc_eq, zc_ne, zc_lt0, zc_ge0, zc_gt0, zc_eq0, zc_ne0, zb_ne, zb_eq, zb_01, z_00, z_01, z_11, zb_f, zb_T, zb_F, zbm1, zbm2, zbm5, zbm6, zbm3, zbm4, nI_clamp, zmod_n, pk_div, nI_ne0, pk_mul, nI_add, nI_1, zt_0, zt_12, zt_20, zt_26, zt_32, zf_0_0, zf_0_1, zf_0_2, zf_0_3, zf_0_4, zf_12_0, zf_12_1, zf_12_2, zf_12_4, zf_12_5, zf_20_1, zf_20_2, zf_20_3, zf_20_4, zf_20_6, zf_26_0, zf_26_1, zf_26_2, zf_26_3, zf_32_0, zf_32_1, zf_32_3, zf_32_4, zf_32_5, zf_32_6, rk, zi_38, hz, n1, ne0, w1]
        try rfl
      · have e : zsum (mb M') 5040 = zsum (fun k => mb M k + if k = rr n g n then 1 else 0) 5040 := zsum_congr (fun k hk => by
          unfold mb
          rw [w3 38 k (by omega), zup_e]
          by_cases q : k = rr n g n
          · simp [q, hz]
          · simp [q])
        have sp : ∀ m (f : Nat → Nat) (a : Nat), zsum (fun k => f k + if k = a then 1 else 0) m = zsum f m + if a < m then 1 else 0 := by
          intro m f a
          induction m with
          | zero => simp [zsum]
          | succ m ih =>
            show zsum _ m + (f m + if m = a then 1 else 0) = zsum f m + f m + _
            rw [ih]
            split <;> split <;> split <;> omega
        rw [e, sp, if_pos rb, hB.1]
      · rcases Nat.lt_or_ge m many with q | q
        · obtain ⟨v, v1, v2⟩ := hB.2 m i q hi
          exact ⟨v, v1, by rw [w3 37 _ (by omega), zup_e, if_neg (by omega)]; exact v2⟩
        · have : m = many := by omega
          subst this
          exact ⟨g i, (hI i hi).2, w2 i hi⟩
      · rw [w3 q j (by omega), zup_e, if_neg (by omega)]
      · rw [w3 36 i (by omega), zup_e, if_neg (by omega)]
    · rintro ls M' ⟨rfl, a1, a2⟩
      refine ⟨?_, rfl, rfl, a1, a2⟩
      simp (disch := omega) [zc_M_joins_1, zmeth, xm_en, zret, zretz, zretv, zseq, zst, zinc, zkl, zskip, zk, zi, za, zbin, zdiv, zrem, zgi, zgr, zld, zldr, zlen, zn, zc, zcall, zcallv, zrcv, zdo, zdov, zpf, zpfc, zas, zasc, zmin, zmax, zcmp, zcz, zand_e, zor_e, zite_e, zbite_e, zif_e, znot_e, z_add, z_sub, z_mul, z_and, z_or, z_xor, z_shl, z_shr, zcpy, -List.getElem?_cons_succ, zg_0, zg_1, zg_2, zg_3, zg_4, zg_5, zg_6, zg_7, zg_8, zg_9, zc_lt, zc_le, zc_gt, zc_ge, zc_eq, zc_ne, zc_lt0, zc_ge0, zc_gt0, zc_eq0, zc_ne0, zb_ne, zb_eq, zb_01, z_00, z_01, z_11, zb_f, zb_T, zb_F, zbm1, zbm2, zbm5, zbm6, zbm3, zbm4, nI_clamp, zmod_n, pk_div, nI_ne0, pk_mul, nI_add, nI_1]
    · rintro j ls M' _ hj ⟨rfl, a1, a2⟩
      have im : M' 36 j = nI (g j) := by rw [a2 36 j (by omega), zup_e, if_neg (by omega)]; exact (hI j hj).1
      refine ⟨by simp (disch := omega) [zc_M_joins_1, zmeth, xm_en, zret, zretz, zretv, zseq, zst, zinc, zkl, zskip, zk, zi, za, zbin, zdiv, zrem, zgi, zgr, zld, zldr, zlen, zn, zc, zcall, zcallv, zrcv, zdo, zdov, zpf, zpfc, zas, zasc, zmin, zmax, zcmp, zcz, zand_e, zor_e, zite_e, zbite_e, zif_e, znot_e, z_add, z_sub, z_mul, z_and, z_or, z_xor, z_shl, z_shr, zcpy, -List.getElem?_cons_succ, zg_0, zg_1, zg_2, zg_3, zg_4, zg_5, zg_6, zg_7, zg_8, zg_9, zc_lt, zc_le, zc_gt, zc_ge, zc_eq, zc_ne, zc_lt0, zc_ge0, zc_gt0, zc_eq0, zc_ne0, zb_ne, zb_eq, zb_01, z_00, z_01, z_11, zb_f, zb_T, zb_F, zbm1, zbm2, zbm5, zbm6, zbm3, zbm4, nI_clamp, zmod_n, pk_div, nI_ne0, pk_mul, nI_add, nI_1, hj], none, [some (Value.ref (32)), some (Value.int (nI n)), some (Value.int (nI many)), some (Value.int (nI (j + 1)))], zup M' 37 (7 * many + j) (nI (g j)), ?_, rfl, fun i hi => ?_, fun q i hq => ?_⟩
      · simp (disch := omega) [zs_M_joins_1, zmeth, xm_en, zret, zretz, zretv, zseq, zst, zinc, zkl, zskip, zk, zi, za, zbin, zdiv, zrem, zgi, zgr, zld, zldr, zlen, zn, zc, zcall, zcallv, zrcv, zdo, zdov, zpf, zpfc, zas, zasc, zmin, zmax, zcmp, zcz, zand_e, zor_e, zite_e, zbite_e, zif_e, znot_e, z_add, z_sub, z_mul, z_and, z_or, z_xor, z_shl, z_shr, zcpy, -List.getElem?_cons_succ, zg_0, zg_1, zg_2, zg_3, zg_4, zg_5, zg_6, zg_7, zg_8, zg_9, zc_lt, zc_le, zc_gt, zc_ge, zc_eq, zc_ne, zc_lt0, zc_ge0, zc_gt0, zc_eq0, zc_ne0, zb_ne, zb_eq, zb_01, z_00, z_01, z_11, zb_f, zb_T, zb_F, zbm1, zbm2, zbm5, zbm6, zbm3, zbm4, nI_clamp, zmod_n, pk_div, nI_ne0, pk_mul, nI_add, nI_1, zt_0, zt_12, zt_20, zt_26, zt_32, zf_0_0, zf_0_1, zf_0_2, zf_0_3, zf_0_4, zf_12_0, zf_12_1, zf_12_2, zf_12_4, zf_12_5, zf_20_1, zf_20_2, zf_20_3, zf_20_4, zf_20_6, zf_26_0, zf_26_1, zf_26_2, zf_26_3, zf_32_0, zf_32_1, zf_32_3, zf_32_4, zf_32_5, zf_32_6, zi_36, zi_37, im]
      · rw [zup_e]
        by_cases q : i = j
        · rw [if_pos ⟨rfl, by rw [q]⟩, q]
        · rw [if_neg (by omega)]
          exact a1 i (by omega)
      · rw [zup_e, if_neg (by omega)]
        exact a2 q i hq
  · refine ⟨many, M, ?_, hB, fun _ _ _ _ _ => rfl, fun _ => rfl, Nat.le_refl _⟩
    have e : xe_cd .ne (M 38 (rr n g n)) 0 = true := by
      show (!decide (M 38 (rr n g n) = 0)) = true
      rw [decide_eq_false hz]
      rfl
    simp (disch := omega) [zf_M_joins, zmeth, xm_en, zret, zretz, zretv, zseq, zst, zinc, zkl, zskip, zk, zi, za, zbin, zdiv, zrem, zgi, zgr, zld, zldr, zlen, zn, zc, zcall, zcallv, zrcv, zdo, zdov, zpf, zpfc, zas, zasc, zmin, zmax, zcmp, zcz, zand_e, zor_e, zite_e, zbite_e, zif_e, znot_e, z_add, z_sub, z_mul, z_and, z_or, z_xor, z_shl, z_shr, zcpy, -List.getElem?_cons_succ, zg_0, zg_1, zg_2, zg_3, zg_4, zg_5, zg_6, zg_7, zg_8, zg_9, zt_0, zt_12, zt_20, zt_26, zt_32, zf_0_0, zf_0_1, zf_0_2, zf_0_3, zf_0_4, zf_12_0, zf_12_1, zf_12_2, zf_12_4, zf_12_5, zf_20_1, zf_20_2, zf_20_3, zf_20_4, zf_20_6, zf_26_0, zf_26_1, zf_26_2, zf_26_3, zf_32_0, zf_32_1, zf_32_3, zf_32_4, zf_32_5, zf_32_6, rk, zi_38, nI_clamp, e]
