/-! group: the reference with its answer -/
theorem les_len (g : Nat → Nat) (i n : Nat) : zsum (les g i) n = ((List.range n).filter (fun k => decide (i < k ∧ g k < g i))).length := by
  rw [← List.countP_eq_length_filter]
  have h := cn_map (fun k => k) (fun k => decide (i < k ∧ g k < g i)) n
  rw [List.map_id'] at h
  rw [h]
  exact zsum_congr (fun k _ => by unfold les; simp only [decide_eq_true_eq])
theorem rk_pre {n i : Nat} {p q : List Nat} (hp : PQ n p) (hq : PQ n q) (hi : i < n) (pre : ∀ x, x < i → gd p x = gd q x) (lt : gd p i < gd q i) : zsum (les (gd p) i) n < zsum (les (gd q) i) n := by
  rw [les_len, les_len]
  have ab : ∀ k, k < n → ¬ k < i → k ≠ i → gd p k < gd q i → i < px q (gd p k) ∧ px q (gd p k) < n ∧ gd q (px q (gd p k)) = gd p k := fun k hk a b d => by
    have v := hp.gl hk
    have k1 := hq.pl v
    have k2 := hq.gp v
    refine ⟨?_, k1, k2⟩
    rcases Nat.lt_trichotomy (px q (gd p k)) i with z | z | z
    · rw [← pre _ z] at k2
      have := hp.inj k1 hk k2
      omega
    · rw [z] at k2
      omega
    · exact z
  have i0 : i < px q (gd p i) ∧ px q (gd p i) < n ∧ gd q (px q (gd p i)) = gd p i := by
    have v := hp.gl hi
    have k1 := hq.pl v
    have k2 := hq.gp v
    refine ⟨?_, k1, k2⟩
    rcases Nat.lt_trichotomy (px q (gd p i)) i with z | z | z
    · rw [← pre _ z] at k2
      have := hp.inj k1 hi k2
      omega
    · rw [z] at k2
      omega
    · exact z
  have nd : (px q (gd p i) :: ((List.range n).filter (fun k => decide (i < k ∧ gd p k < gd p i))).map (fun k => px q (gd p k))).Nodup := by
    refine List.nodup_cons.mpr ⟨fun z => ?_, nd_map (nd_filter List.nodup_range) (fun x y hx hy e => ?_)⟩
    · obtain ⟨k, k1, k2⟩ := List.mem_map.mp z
      obtain ⟨a, b⟩ := List.mem_filter.mp k1
      have b := of_decide_eq_true b
      have a := List.mem_range.mp a
      have e : gd p k = gd p i := by rw [← hq.gp (hp.gl a), ← hq.gp (hp.gl hi), k2]
      omega
    · have a := List.mem_range.mp (List.mem_filter.mp hx).1
      have b := List.mem_range.mp (List.mem_filter.mp hy).1
      have e : gd p x = gd p y := by rw [← hq.gp (hp.gl a), ← hq.gp (hp.gl b), e]
      exact hp.inj a b e
  have := nd_le nd (B := (List.range n).filter (fun k => decide (i < k ∧ gd q k < gd q i))) (fun x hx => by
    rcases List.mem_cons.mp hx with rfl | hx
    · exact List.mem_filter.mpr ⟨List.mem_range.mpr i0.2.1, decide_eq_true ⟨i0.1, by rw [i0.2.2]; exact lt⟩⟩
    · obtain ⟨k, k1, rfl⟩ := List.mem_map.mp hx
      obtain ⟨a, b⟩ := List.mem_filter.mp k1
      have b := of_decide_eq_true b
      have c := ab k (List.mem_range.mp a) (by omega) (by omega) (by omega)
      exact List.mem_filter.mpr ⟨List.mem_range.mpr c.2.1, decide_eq_true ⟨c.1, by rw [c.2.2]; omega⟩⟩)
  rw [List.length_cons, List.length_map] at this
  omega
theorem rr_les {n : Nat} {g h : Nat → Nat} : ∀ i, i ≤ n → rr n g i = rr n h i → ∀ k, k < i → zsum (les g k) n = zsum (les h k) n
  | 0, _, _, k, hk => absurd hk (Nat.not_lt_zero k)
  | i + 1, hi, e, k, hk => by
    have a := les_le n g i
    have b := les_le n h i
    have e : rr n g i * (n - i) + zsum (les g i) n = rr n h i * (n - i) + zsum (les h i) n := e
    obtain ⟨p1, p2⟩ := pr_inj (m := n - i) (a := rr n g i) (a' := rr n h i) (b := zsum (les g i) n) (b' := zsum (les h i) n) (by omega) (by omega) (by rw [Nat.mul_comm, e, Nat.mul_comm])
    by_cases q : k = i
    · rw [q]
      exact p2
    · exact rr_les i (by omega) p1 k (by omega)
theorem rr_inj {n : Nat} {p q : List Nat} (hp : PQ n p) (hq : PQ n q) (h : rr n (gd p) n = rr n (gd q) n) : p = q := by
  have l := rr_les n (Nat.le_refl n) h
  have key : ∀ i, i ≤ n → ∀ x, x < i → gd p x = gd q x := by
    intro i
    induction i with
    | zero => exact fun _ x hx => absurd hx (Nat.not_lt_zero x)
    | succ i ih =>
      intro hi x hx
      have pre := ih (by omega)
      by_cases e : x = i
      · subst e
        rcases Nat.lt_trichotomy (gd p x) (gd q x) with z | z | z
        · have := rk_pre hp hq (by omega) pre z
          have := l x (by omega)
          omega
        · exact z
        · have := rk_pre hq hp (by omega) (fun y hy => (pre y hy).symm) z
          have := l x (by omega)
          omega
      · exact pre x (by omega)
  exact PQ.ext hp hq (fun i hi => key n (Nat.le_refl n) i hi)
def ge : List (List Nat) → Nat → List Nat
  | [], _ => []
  | a :: _, 0 => a
  | _ :: l, i + 1 => ge l i
theorem ge_mem : ∀ {l : List (List Nat)} {i : Nat}, i < l.length → ge l i ∈ l
  | [], i, h => absurd h (Nat.not_lt_zero i)
  | a :: l, 0, _ => List.mem_cons_self ..
  | a :: l, i + 1, h => List.mem_cons_of_mem _ (ge_mem (by simpa using h))
theorem ge_of : ∀ {l : List (List Nat)} {p : List Nat}, p ∈ l → ∃ i, i < l.length ∧ ge l i = p
  | [], p, h => by cases h
  | a :: l, p, h => by
    rcases List.mem_cons.mp h with rfl | h
    · exact ⟨0, by simp, rfl⟩
    · obtain ⟨i, i1, i2⟩ := ge_of h
      exact ⟨i + 1, by simpa using i1, i2⟩
theorem ge_app : ∀ {l m : List (List Nat)} {i : Nat}, i < l.length → ge (l ++ m) i = ge l i
  | [], _, i, h => absurd h (Nat.not_lt_zero i)
  | a :: l, m, 0, _ => rfl
  | a :: l, m, i + 1, h => ge_app (l := l) (by simpa using h)
theorem ge_new : ∀ {l m : List (List Nat)} {x : List Nat}, ge (l ++ x :: m) l.length = x
  | [], _, _ => rfl
  | a :: l, m, x => ge_new (l := l)
/-- the members so far -/
def GM (M : zM) (n : Nat) (B : List (List Nat)) : Prop := (∀ p, p ∈ B → PQ n p) ∧ B.Nodup ∧ (∀ m i, m < B.length → i < n → M 37 (7 * m + i) = nI (gd (ge B m) i)) ∧ ∀ p, PQ n p → (M 38 (rr n (gd p) n) = 0 ↔ p ∉ B)
theorem GM.len {M : zM} {n : Nat} {B : List (List Nat)} (h7 : n ≤ 7) (h : GM M n B) : B.length ≤ 5040 ∧ ∀ p, PQ n p → p ∉ B → B.length < 5040 := by
  have rb : ∀ p, rr n (gd p) n < 5040 := fun p => by have := rr_lt n (gd p) n (Nat.le_refl n); have := ff_le n h7 n (Nat.le_refl n); omega
  have go : ∀ B : List (List Nat), (∀ p, p ∈ B → PQ n p) → B.Nodup → B.length ≤ 5040 := fun B a b => by
    have := nd_le (A := B.map (fun p => rr n (gd p) n)) (B := List.range 5040) (nd_map b (fun x y hx hy e => rr_inj (a x hx) (a y hy) e)) (fun x hx => by
      obtain ⟨p, p1, rfl⟩ := List.mem_map.mp hx
      exact List.mem_range.mpr (rb p))
    rw [List.length_map, List.length_range] at this
    exact this
  refine ⟨go B h.1 h.2.1, fun p hp q => ?_⟩
  have := go (p :: B) (fun x hx => by
    rcases List.mem_cons.mp hx with rfl | hx
    · exact hp
    · exact h.1 x hx) (List.nodup_cons.mpr ⟨q, h.2.1⟩)
  rw [List.length_cons] at this
  omega
theorem qM_joinsF {M : zM} {n : Nat} {B : List (List Nat)} {p : List Nat} (h7 : n ≤ 7) (hp : PQ n p) (hI : ∀ i, i < n → M 36 i = nI (gd p i)) (hB : GM M n B) : ∃ B' M', zf_M_joins [.ref 32, .int (nI n), .int (nI B.length)] M = some (some (nI B'.length), M') ∧ GM M' n B' ∧ gF M M' ∧ (∀ i, M' 36 i = M 36 i) ∧ (B' = B ∧ p ∈ B ∨ B' = B ++ [p]) := by
  have rb : rr n (gd p) n < 5040 := by have := rr_lt n (gd p) n (Nat.le_refl n); have := ff_le n h7 n (Nat.le_refl n); omega
  have rk := qM_rank (g := gd p) h7 (fun i hi => ⟨hI i hi, hp.gl hi⟩)
  have mm := hB.len h7
  by_cases hz : M 38 (rr n (gd p) n) = 0
  · have nin := (hB.2.2.2 p hp).mp hz
    have lt := mm.2 p hp nin
    generalize hm : B.length = many at lt
    have n1 : vp_nar .boolean (nI 1) = 1 := by decide
    have ne0 : xe_cd Cond.ne 0 0 = false := by decide
    have R := zwh_inv (c := zc_M_joins_1) (s := zs_M_joins_1) (fun j ls M' => ls = [some (Value.ref (32)), some (Value.int (nI n)), some (Value.int (nI many)), some (Value.int (nI j))] ∧ (∀ i, i < j → M' 37 (7 * many + i) = nI (gd p i)) ∧ (∀ q i, ¬ (q = 37 ∧ 7 * many ≤ i) → M' q i = zup M 38 (rr n (gd p) n) 1 q i)) (Q := fun r ls M' => r = none ∧ ls = [some (Value.ref (32)), some (Value.int (nI n)), some (Value.int (nI many)), some (Value.int (nI n))] ∧ (∀ i, i < n → M' 37 (7 * many + i) = nI (gd p i)) ∧ (∀ q i, ¬ (q = 37 ∧ 7 * many ≤ i) → M' q i = zup M 38 (rr n (gd p) n) 1 q i)) (n := n) ?_ n 0 (by omega) ?_ _ _ ⟨rfl, fun i hi => absurd hi (Nat.not_lt_zero i), fun _ _ _ => rfl⟩
    · obtain ⟨r, ls, M', w1, rfl, rfl, w2, w3⟩ := R
      refine ⟨B ++ [p], M', ?_, ⟨fun x hx => ?_, ?_, fun m i h1 hi => ?_, fun x hx => ?_⟩, fun q j q1 q2 q3 => ?_, fun i => ?_, Or.inr rfl⟩
      · rw [List.length_append, List.length_singleton, hm]
        simp (disch := omega) [zf_M_joins, zmeth, xm_en, zret, zretz, zretv, zseq, zst, zinc, zkl, zskip, zk, zi, za, zbin, zdiv, zrem, zgi, zgr, zld, zldr, zlen, zn, zc, zcall, zcallv, zrcv, zdo, zdov, zpf, zpfc, zas, zasc, zmin, zmax, zcmp, zcz, zand_e, zor_e, zite_e, zbite_e, zif_e, znot_e, z_add, z_sub, z_mul, z_and, z_or, z_xor, z_shl, z_shr, zcpy, -List.getElem?_cons_succ, zg_0, zg_1, zg_2, zg_3, zg_4, zg_5, zg_6, zg_7, zg_8, zg_9, zc_lt, zc_le, zc_gt, zc_ge, zc_eq, zc_ne, zc_lt0, zc_ge0, zc_gt0, zc_eq0, zc_ne0, zb_ne, zb_eq, zb_01, z_00, z_01, z_11, zb_f, zb_T, zb_F, zbm1, zbm2, zbm5, zbm6, zbm3, zbm4, nI_clamp, zmod_n, pk_div, nI_ne0, pk_mul, nI_add, nI_1, zt_0, zt_12, zt_20, zt_26, zt_32, zf_0_0, zf_0_1, zf_0_2, zf_0_3, zf_0_4, zf_12_0, zf_12_1, zf_12_2, zf_12_4, zf_12_5, zf_20_1, zf_20_2, zf_20_3, zf_20_4, zf_20_6, zf_26_0, zf_26_1, zf_26_2, zf_26_3, zf_32_0, zf_32_1, zf_32_3, zf_32_4, zf_32_5, zf_32_6, rk, zi_38, hz, n1, ne0, w1]
        try rfl
      · rcases List.mem_append.mp hx with hx | hx
        · exact hB.1 x hx
        · rw [List.mem_singleton.mp hx]
          exact hp
      · rw [List.nodup_append]
        refine ⟨hB.2.1, List.nodup_cons.mpr ⟨List.not_mem_nil, List.nodup_nil⟩, fun a ha b hb e => ?_⟩
        rw [List.mem_singleton] at hb
        subst e
        subst hb
        exact nin ha
      · rw [List.length_append, List.length_singleton] at h1
        by_cases q : m = B.length
        · rw [q, ge_new, hm]
          exact w2 i hi
        · rw [ge_app (by omega), w3 37 _ (by omega), zup_e, if_neg (by omega)]
          exact hB.2.2.1 m i (by omega) hi
      · rw [w3 38 _ (by omega), zup_e]
        by_cases q : rr n (gd x) n = rr n (gd p) n
        · rw [if_pos ⟨rfl, q⟩, rr_inj hx hp q]
          exact ⟨fun z => absurd z (by decide), fun z => absurd (List.mem_append.mpr (Or.inr (List.mem_singleton.mpr rfl))) z⟩
        · rw [if_neg (fun z => q z.2), hB.2.2.2 x hx]
          exact ⟨fun z w => (List.mem_append.mp w).elim z (fun w => q (by rw [List.mem_singleton.mp w])), fun z w => z (List.mem_append.mpr (Or.inl w))⟩
      · rw [w3 q j (by omega), zup_e, if_neg (by omega)]
      · rw [w3 36 i (by omega), zup_e, if_neg (by omega)]
    · rintro ls M' ⟨rfl, a1, a2⟩
      refine ⟨?_, rfl, rfl, a1, a2⟩
      simp (disch := omega) [zc_M_joins_1, zmeth, xm_en, zret, zretz, zretv, zseq, zst, zinc, zkl, zskip, zk, zi, za, zbin, zdiv, zrem, zgi, zgr, zld, zldr, zlen, zn, zc, zcall, zcallv, zrcv, zdo, zdov, zpf, zpfc, zas, zasc, zmin, zmax, zcmp, zcz, zand_e, zor_e, zite_e, zbite_e, zif_e, znot_e, z_add, z_sub, z_mul, z_and, z_or, z_xor, z_shl, z_shr, zcpy, -List.getElem?_cons_succ, zg_0, zg_1, zg_2, zg_3, zg_4, zg_5, zg_6, zg_7, zg_8, zg_9, zc_lt, zc_le, zc_gt, zc_ge, zc_eq, zc_ne, zc_lt0, zc_ge0, zc_gt0, zc_eq0, zc_ne0, zb_ne, zb_eq, zb_01, z_00, z_01, z_11, zb_f, zb_T, zb_F, zbm1, zbm2, zbm5, zbm6, zbm3, zbm4, nI_clamp, zmod_n, pk_div, nI_ne0, pk_mul, nI_add, nI_1]
    · rintro j ls M' _ hj ⟨rfl, a1, a2⟩
      have im : M' 36 j = nI (gd p j) := by rw [a2 36 j (by omega), zup_e, if_neg (by omega)]; exact hI j hj
      refine ⟨by simp (disch := omega) [zc_M_joins_1, zmeth, xm_en, zret, zretz, zretv, zseq, zst, zinc, zkl, zskip, zk, zi, za, zbin, zdiv, zrem, zgi, zgr, zld, zldr, zlen, zn, zc, zcall, zcallv, zrcv, zdo, zdov, zpf, zpfc, zas, zasc, zmin, zmax, zcmp, zcz, zand_e, zor_e, zite_e, zbite_e, zif_e, znot_e, z_add, z_sub, z_mul, z_and, z_or, z_xor, z_shl, z_shr, zcpy, -List.getElem?_cons_succ, zg_0, zg_1, zg_2, zg_3, zg_4, zg_5, zg_6, zg_7, zg_8, zg_9, zc_lt, zc_le, zc_gt, zc_ge, zc_eq, zc_ne, zc_lt0, zc_ge0, zc_gt0, zc_eq0, zc_ne0, zb_ne, zb_eq, zb_01, z_00, z_01, z_11, zb_f, zb_T, zb_F, zbm1, zbm2, zbm5, zbm6, zbm3, zbm4, nI_clamp, zmod_n, pk_div, nI_ne0, pk_mul, nI_add, nI_1, hj], none, [some (Value.ref (32)), some (Value.int (nI n)), some (Value.int (nI many)), some (Value.int (nI (j + 1)))], zup M' 37 (7 * many + j) (nI (gd p j)), ?_, rfl, fun i hi => ?_, fun q i hq => ?_⟩
      · simp (disch := omega) [zs_M_joins_1, zmeth, xm_en, zret, zretz, zretv, zseq, zst, zinc, zkl, zskip, zk, zi, za, zbin, zdiv, zrem, zgi, zgr, zld, zldr, zlen, zn, zc, zcall, zcallv, zrcv, zdo, zdov, zpf, zpfc, zas, zasc, zmin, zmax, zcmp, zcz, zand_e, zor_e, zite_e, zbite_e, zif_e, znot_e, z_add, z_sub, z_mul, z_and, z_or, z_xor, z_shl, z_shr, zcpy, -List.getElem?_cons_succ, zg_0, zg_1, zg_2, zg_3, zg_4, zg_5, zg_6, zg_7, zg_8, zg_9, zc_lt, zc_le, zc_gt, zc_ge, zc_eq, zc_ne, zc_lt0, zc_ge0, zc_gt0, zc_eq0, zc_ne0, zb_ne, zb_eq, zb_01, z_00, z_01, z_11, zb_f, zb_T, zb_F, zbm1, zbm2, zbm5, zbm6, zbm3, zbm4, nI_clamp, zmod_n, pk_div, nI_ne0, pk_mul, nI_add, nI_1, zt_0, zt_12, zt_20, zt_26, zt_32, zf_0_0, zf_0_1, zf_0_2, zf_0_3, zf_0_4, zf_12_0, zf_12_1, zf_12_2, zf_12_4, zf_12_5, zf_20_1, zf_20_2, zf_20_3, zf_20_4, zf_20_6, zf_26_0, zf_26_1, zf_26_2, zf_26_3, zf_32_0, zf_32_1, zf_32_3, zf_32_4, zf_32_5, zf_32_6, zi_36, zi_37, im]
      · rw [zup_e]
        by_cases q : i = j
        · rw [if_pos ⟨rfl, by rw [q]⟩, q]
        · rw [if_neg (by omega)]
          exact a1 i (by omega)
      · rw [zup_e, if_neg (by omega)]
        exact a2 q i hq
  · have inn : p ∈ B := Classical.byContradiction (fun z => hz ((hB.2.2.2 p hp).mpr z))
    refine ⟨B, M, ?_, hB, fun _ _ _ _ _ => rfl, fun _ => rfl, Or.inl ⟨rfl, inn⟩⟩
    have e : xe_cd .ne (M 38 (rr n (gd p) n)) 0 = true := by
      show (!decide (M 38 (rr n (gd p) n) = 0)) = true
      rw [decide_eq_false hz]
      rfl
    have m5 := mm.1
    simp (disch := omega) [zf_M_joins, zmeth, xm_en, zret, zretz, zretv, zseq, zst, zinc, zkl, zskip, zk, zi, za, zbin, zdiv, zrem, zgi, zgr, zld, zldr, zlen, zn, zc, zcall, zcallv, zrcv, zdo, zdov, zpf, zpfc, zas, zasc, zmin, zmax, zcmp, zcz, zand_e, zor_e, zite_e, zbite_e, zif_e, znot_e, z_add, z_sub, z_mul, z_and, z_or, z_xor, z_shl, z_shr, zcpy, -List.getElem?_cons_succ, zg_0, zg_1, zg_2, zg_3, zg_4, zg_5, zg_6, zg_7, zg_8, zg_9, zt_0, zt_12, zt_20, zt_26, zt_32, zf_0_0, zf_0_1, zf_0_2, zf_0_3, zf_0_4, zf_12_0, zf_12_1, zf_12_2, zf_12_4, zf_12_5, zf_20_1, zf_20_2, zf_20_3, zf_20_4, zf_20_6, zf_26_0, zf_26_1, zf_26_2, zf_26_3, zf_32_0, zf_32_1, zf_32_3, zf_32_4, zf_32_5, zf_32_6, rk, zi_38, nI_clamp, e]
theorem qM_imgF {c' : zB} {s' : zS} {M : zM} {n m : Nat} {p : List Nat} {ls0 : Nat → zL} {f : Nat → Nat} (hp : PQ n p) (hB : ∀ i, i < n → M 37 (7 * m + i) = nI (gd p i))
    (hc : ∀ j M', j < n → c' (ls0 j) M' = some (true, M')) (he : ∀ M', c' (ls0 n) M' = some (false, M'))
    (hs : ∀ j M' v, j < n → v < n → (∀ q i, q ≠ 36 → M' q i = M q i) → M' 37 (7 * m + j) = nI v → s' (ls0 j) M' = some (none, ls0 (j + 1), zup M' 36 j (nI (f v)))) : ∃ M', zwh c' s' (ls0 0) M = some (none, ls0 n, M') ∧ (∀ i, i < n → M' 36 i = nI (f (gd p i))) ∧ ∀ q i, q ≠ 36 → M' q i = M q i := by
  obtain ⟨r, ls, M', w1, rfl, rfl, w2, w3⟩ := zwh_inv (c := c') (s := s') (fun j ls M' => ls = ls0 j ∧ (∀ i, i < j → M' 36 i = nI (f (gd p i))) ∧ (∀ q i, q ≠ 36 → M' q i = M q i)) (Q := fun r ls M' => r = none ∧ ls = ls0 n ∧ (∀ i, i < n → M' 36 i = nI (f (gd p i))) ∧ (∀ q i, q ≠ 36 → M' q i = M q i)) (n := n) (fun ls M' h => by
      obtain ⟨rfl, a1, a2⟩ := h
      exact ⟨he M', rfl, rfl, a1, a2⟩) n 0 (by omega) (fun j ls M' _ hj h => by
      obtain ⟨rfl, a1, a2⟩ := h
      refine ⟨hc j M' hj, none, ls0 (j + 1), zup M' 36 j (nI (f (gd p j))), hs j M' _ hj (hp.gl hj) a2 (by rw [a2 37 _ (by omega)]; exact hB j hj), rfl, fun i hi => ?_, fun q i hq => ?_⟩
      · by_cases q : i = j
        · rw [zup_e, if_pos ⟨rfl, q⟩, q]
        · rw [zup_e, if_neg (by omega)]
          exact a1 i (by omega)
      · rw [zup_e, if_neg (by omega)]
        exact a2 q i hq) (ls0 0) M ⟨rfl, fun i hi => absurd hi (Nat.not_lt_zero i), fun _ _ _ => rfl⟩
  exact ⟨M', w1, w2, w3⟩
