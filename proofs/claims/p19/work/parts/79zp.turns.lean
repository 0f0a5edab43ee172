/-! group: the class's kept permutations -/
/-- in the group that the turns make -/
def HC (n : Nat) (c : tC) (H : List Nat → Prop) : Prop := H (List.range n) ∧ (∀ p q, PQ n p → PQ n q → H p → H q → H (cp p q)) ∧ (∀ p, PQ n p → H p → H (iv n p)) ∧ ∀ a, a < n → H (La n c a) ∧ H (Ra n c a)
def GH (n : Nat) (c : tC) (p : List Nat) : Prop := ∀ H, HC n c H → H p
theorem GH_HC (n : Nat) (c : tC) : HC n c (GH n c) := ⟨fun H h => h.1, fun p q hp hq a b H h => h.2.1 p q hp hq (a H h) (b H h), fun p hp a H h => h.2.2.1 p hp (a H h), fun a ha => ⟨fun H h => (h.2.2.2 a ha).1, fun H h => (h.2.2.2 a ha).2⟩⟩
/-- what the class has kept: its permutations e, its bits b, the places K in their order -/
def KS (M0 : zM) (n : Nat) (c : tC) (e : Nat → Nat → List Nat) (b : Nat → Nat) (K : List Nat) (M : zM) : Prop := (M 20 0 = nI n ∧ M 20 5 = nI K.length ∧ ∀ q j, q < 20 ∨ 25 < q → M q j = M0 q j) ∧ TB n e b ∧ (∀ i, i < 7 → M 23 i = nI (b i) ∧ b i < 128) ∧ (∀ i j, (b i).testBit j = true → GH n c (e i j) ∧ (∀ x, x < n → M 21 (7 * (7 * i + j) + x) = nI (gd (e i j) x)) ∧ ∀ x, x < n → M 22 (7 * (7 * i + j) + x) = nI (px (e i j) x)) ∧ (K.Nodup ∧ (∀ m, m < K.length → M 24 m = nI (gd K m)) ∧ ∀ k, k ∈ K ↔ ∃ i j, (b i).testBit j = true ∧ k = 7 * i + j)
theorem KS.fr {M0 M M' : zM} {n : Nat} {c : tC} {e : Nat → Nat → List Nat} {b : Nat → Nat} {K : List Nat} (h : KS M0 n c e b K M) (hs : ∀ q j, q ≠ 25 → M' q j = M q j) : KS M0 n c e b K M' := by
  obtain ⟨⟨a1, a2, a3⟩, a4, a5, a6, a7, a8, a9⟩ := h
  exact ⟨⟨(hs _ _ (by decide)).trans a1, (hs _ _ (by decide)).trans a2, fun q j hq => (hs q j (by omega)).trans (a3 q j hq)⟩, a4, fun i hi => ⟨(hs _ _ (by decide)).trans (a5 i hi).1, (a5 i hi).2⟩, fun i j q => ⟨(a6 i j q).1, fun x hx => (hs _ _ (by decide)).trans ((a6 i j q).2.1 x hx), fun x hx => (hs _ _ (by decide)).trans ((a6 i j q).2.2 x hx)⟩, a7, fun m hm => (hs _ _ (by decide)).trans (a8 m hm), a9⟩
theorem KS.n {M0 M : zM} {n : Nat} {c : tC} {e : Nat → Nat → List Nat} {b : Nat → Nat} {K : List Nat} (h : KS M0 n c e b K M) : M 20 0 = nI n := h.1.1
theorem KS.pl {M0 M : zM} {n : Nat} {c : tC} {e : Nat → Nat → List Nat} {b : Nat → Nat} {K : List Nat} (h7 : n ≤ 7) (h : KS M0 n c e b K M) {k : Nat} (hk : k ∈ K) : k < 49 ∧ (b (k / 7)).testBit (k % 7) = true := by
  obtain ⟨i, j, q, rfl⟩ := (h.2.2.2.2.2.2 k).mp hk
  have t := (h.2.1 i j q).1
  have e1 : (7 * i + j) / 7 = i := by omega
  have e2 : (7 * i + j) % 7 = j := by omega
  rw [e1, e2]
  exact ⟨by omega, q⟩
theorem KS.len {M0 M : zM} {n : Nat} {c : tC} {e : Nat → Nat → List Nat} {b : Nat → Nat} {K : List Nat} (h7 : n ≤ 7) (h : KS M0 n c e b K M) : K.length ≤ 49 ∧ ∀ k, k < 49 → k ∉ K → K.length < 49 := by
  have a := nd_le (B := List.range 49) h.2.2.2.2.1 (fun k hk => List.mem_range.mpr (h.pl h7 hk).1)
  rw [List.length_range] at a
  refine ⟨a, fun k hk q => ?_⟩
  have := nd_le (A := k :: K) (B := List.range 49) (List.nodup_cons.mpr ⟨q, h.2.2.2.2.1⟩) (fun x hx => by
    rcases List.mem_cons.mp hx with rfl | hx
    · exact List.mem_range.mpr hk
    · exact List.mem_range.mpr (h.pl h7 hx).1)
  rw [List.length_range, List.length_cons] at this
  omega
def TR (M : zM) (n : Nat) (p : List Nat) : Prop := ∀ x, x < n → M 25 x = nI (gd p x)
theorem qT_rd {M : zM} {k p x : Nat} (hk : xp_sh[k]? = some (0, 343)) (hp : p < 49) (hx : x < 7) : zf_Turns_read [.ref k, .int (nI p), .int (nI x)] M = some (some (M k (7 * p + x)), M) := by
  have hl : Int32.ofNat 343 = nI 343 := rfl
  have e : nI 7 * nI p + nI x = nI (7 * p + x) := by rw [pk_mul, nI_add]
  have h1 : xe_cd .ge (nI (7 * p + x)) 0 = true := zc_ge0 (by omega)
  have h2 : xe_cd .lt (nI (7 * p + x)) (nI 343) = true := by rw [zc_lt (by omega) (by omega)]; exact decide_eq_true (by omega)
  simp (disch := omega) [zf_Turns_read, zmeth, xm_en, zret, zretz, zretv, zseq, zst, zinc, zkl, zskip, zk, zi, za, zbin, zdiv, zrem, zgi, zgr, zld, zldr, zlen, zn, zc, zcall, zcallv, zrcv, zdo, zdov, zpf, zpfc, zas, zasc, zmin, zmax, zcmp, zcz, zand_e, zor_e, zite_e, zbite_e, zif_e, znot_e, z_add, z_sub, z_mul, z_and, z_or, z_xor, z_shl, z_shr, zcpy, -List.getElem?_cons_succ, zg_0, zg_1, zg_2, zg_3, zg_4, zg_5, zg_6, zg_7, zg_8, zg_9, e, h1, h2, hk, hl, zin_nI hk (show 7 * p + x < 343 by omega) (by decide), nI_clamp]
theorem qT_wr {M : zM} {k p x : Nat} {v : Int32} (hk : xp_sh[k]? = some (0, 343)) (hp : p < 49) (hx : x < 7) : zf_Turns_write [.ref k, .int (nI p), .int (nI x), .int v] M = some (none, zup M k (7 * p + x) v) := by
  have hl : Int32.ofNat 343 = nI 343 := rfl
  have e : nI 7 * nI p + nI x = nI (7 * p + x) := by rw [pk_mul, nI_add]
  have h1 : xe_cd .ge (nI (7 * p + x)) 0 = true := zc_ge0 (by omega)
  have h2 : xe_cd .lt (nI (7 * p + x)) (nI 343) = true := by rw [zc_lt (by omega) (by omega)]; exact decide_eq_true (by omega)
  simp (disch := omega) [zf_Turns_write, zmeth, xm_en, zret, zretz, zretv, zseq, zst, zinc, zkl, zskip, zk, zi, za, zbin, zdiv, zrem, zgi, zgr, zld, zldr, zlen, zn, zc, zcall, zcallv, zrcv, zdo, zdov, zpf, zpfc, zas, zasc, zmin, zmax, zcmp, zcz, zand_e, zor_e, zite_e, zbite_e, zif_e, znot_e, z_add, z_sub, z_mul, z_and, z_or, z_xor, z_shl, z_shr, zcpy, -List.getElem?_cons_succ, zg_0, zg_1, zg_2, zg_3, zg_4, zg_5, zg_6, zg_7, zg_8, zg_9, e, h1, h2, hk, hl, zin_nI hk (show 7 * p + x < 343 by omega) (by decide), nI_clamp]
/-- tried is written place by place -/
theorem tr_loop {c' : zB} {s' : zS} {M : zM} {n : Nat} {ls0 : Nat → zL} {f : Nat → Nat} (hc : ∀ j M', j < n → (∀ q i, q ≠ 25 → M' q i = M q i) → c' (ls0 j) M' = some (true, M')) (he : ∀ M', (∀ q i, q ≠ 25 → M' q i = M q i) → c' (ls0 n) M' = some (false, M'))
    (hs : ∀ j M', j < n → (∀ q i, q ≠ 25 → M' q i = M q i) → (∀ i, j ≤ i → M' 25 i = M 25 i) → s' (ls0 j) M' = some (none, ls0 (j + 1), zup M' 25 j (nI (f j)))) : ∃ M', zwh c' s' (ls0 0) M = some (none, ls0 n, M') ∧ (∀ i, i < n → M' 25 i = nI (f i)) ∧ ∀ q i, q ≠ 25 → M' q i = M q i := by
  obtain ⟨r, ls, M', w1, rfl, rfl, w2, w3, w4⟩ := zwh_inv (c := c') (s := s') (fun j ls M' => ls = ls0 j ∧ (∀ i, i < j → M' 25 i = nI (f i)) ∧ (∀ i, j ≤ i → M' 25 i = M 25 i) ∧ ∀ q i, q ≠ 25 → M' q i = M q i) (Q := fun r ls M' => r = none ∧ ls = ls0 n ∧ (∀ i, i < n → M' 25 i = nI (f i)) ∧ (∀ i, n ≤ i → M' 25 i = M 25 i) ∧ ∀ q i, q ≠ 25 → M' q i = M q i) (n := n) (fun ls M' h => by
      obtain ⟨rfl, a1, a2, a3⟩ := h
      exact ⟨he M' a3, rfl, rfl, a1, a2, a3⟩) n 0 (by omega) (fun j ls M' _ hj h => by
      obtain ⟨rfl, a1, a2, a3⟩ := h
      refine ⟨hc j M' hj a3, none, ls0 (j + 1), _, hs j M' hj a3 a2, rfl, fun i hi => ?_, fun i hi => ?_, fun q i hq => ?_⟩
      · by_cases q : i = j
        · rw [zup_e, if_pos ⟨rfl, q⟩, q]
        · rw [zup_e, if_neg (by omega)]
          exact a1 i (by omega)
      · rw [zup_e, if_neg (by omega)]
        exact a2 i (by omega)
      · rw [zup_e, if_neg (by omega)]
        exact a3 q i hq) (ls0 0) M ⟨rfl, fun i hi => absurd hi (Nat.not_lt_zero i), fun _ _ => rfl, fun _ _ _ => rfl⟩
  exact ⟨M', w1, w2, w4⟩
theorem qT_undoF {M0 M : zM} {n i j : Nat} {c : tC} {e : Nat → Nat → List Nat} {b : Nat → Nat} {K p : List Nat} (h7 : n ≤ 7) (h : KS M0 n c e b K M) (hp : PQ n p) (ht : TR M n p) (hb : (b i).testBit j = true) : ∃ M', zf_Turns_undo [.ref 20, .int (nI (7 * i + j))] M = some (none, M') ∧ KS M0 n c e b K M' ∧ TR M' n (cp (iv n (e i j)) p) := by
  obtain ⟨t1, t2, _, _⟩ := h.2.1 i j hb
  obtain ⟨_, _, s3⟩ := h.2.2.2.1 i j hb
  have n0 := h.n
  obtain ⟨M1, e1, g1, g2⟩ := tr_loop (c' := zc_Turns_undo_1) (s' := zs_Turns_undo_1) (M := M) (n := n) (ls0 := fun x => [some (Value.ref (20)), some (Value.int (nI (7 * i + j))), some (Value.int (nI x))]) (f := fun x => px (e i j) (gd p x)) (fun x M' hx fr => by
      have z : M' 20 0 = nI n := (fr _ _ (by decide)).trans n0
      simp (disch := omega) [zc_Turns_undo_1, zmeth, xm_en, zret, zretz, zretv, zseq, zst, zinc, zkl, zskip, zk, zi, za, zbin, zdiv, zrem, zgi, zgr, zld, zldr, zlen, zn, zc, zcall, zcallv, zrcv, zdo, zdov, zpf, zpfc, zas, zasc, zmin, zmax, zcmp, zcz, zand_e, zor_e, zite_e, zbite_e, zif_e, znot_e, z_add, z_sub, z_mul, z_and, z_or, z_xor, z_shl, z_shr, zcpy, -List.getElem?_cons_succ, zg_0, zg_1, zg_2, zg_3, zg_4, zg_5, zg_6, zg_7, zg_8, zg_9, zc_lt, zc_le, zc_gt, zc_ge, zc_eq, zc_ne, zc_lt0, zc_ge0, zc_gt0, zc_eq0, zc_ne0, zb_ne, zb_eq, zb_01, z_00, z_01, z_11, zb_f, zb_T, zb_F, zbm1, zbm2, zbm5, zbm6, zbm3, zbm4, nI_clamp, zmod_n, pk_div, nI_ne0, pk_mul, nI_add, nI_1, zt_0, zt_12, zt_20, zt_26, zt_32, zf_0_0, zf_0_1, zf_0_2, zf_0_3, zf_0_4, zf_12_0, zf_12_1, zf_12_2, zf_12_4, zf_12_5, zf_20_1, zf_20_2, zf_20_3, zf_20_4, zf_20_6, zf_26_0, zf_26_1, zf_26_2, zf_26_3, zf_32_0, zf_32_1, zf_32_3, zf_32_4, zf_32_5, zf_32_6, z, hx]) (fun M' fr => by
      have z : M' 20 0 = nI n := (fr _ _ (by decide)).trans n0
      simp (disch := omega) [zc_Turns_undo_1, zmeth, xm_en, zret, zretz, zretv, zseq, zst, zinc, zkl, zskip, zk, zi, za, zbin, zdiv, zrem, zgi, zgr, zld, zldr, zlen, zn, zc, zcall, zcallv, zrcv, zdo, zdov, zpf, zpfc, zas, zasc, zmin, zmax, zcmp, zcz, zand_e, zor_e, zite_e, zbite_e, zif_e, znot_e, z_add, z_sub, z_mul, z_and, z_or, z_xor, z_shl, z_shr, zcpy, -List.getElem?_cons_succ, zg_0, zg_1, zg_2, zg_3, zg_4, zg_5, zg_6, zg_7, zg_8, zg_9, zc_lt, zc_le, zc_gt, zc_ge, zc_eq, zc_ne, zc_lt0, zc_ge0, zc_gt0, zc_eq0, zc_ne0, zb_ne, zb_eq, zb_01, z_00, z_01, z_11, zb_f, zb_T, zb_F, zbm1, zbm2, zbm5, zbm6, zbm3, zbm4, nI_clamp, zmod_n, pk_div, nI_ne0, pk_mul, nI_add, nI_1, zt_0, zt_12, zt_20, zt_26, zt_32, zf_0_0, zf_0_1, zf_0_2, zf_0_3, zf_0_4, zf_12_0, zf_12_1, zf_12_2, zf_12_4, zf_12_5, zf_20_1, zf_20_2, zf_20_3, zf_20_4, zf_20_6, zf_26_0, zf_26_1, zf_26_2, zf_26_3, zf_32_0, zf_32_1, zf_32_3, zf_32_4, zf_32_5, zf_32_6, z]) (fun x M' hx fr same => by
      have tx : M' 25 x = nI (gd p x) := (same x (Nat.le_refl x)).trans (ht x hx)
      have gx := hp.gl hx
      have rd := qT_rd (M := M') (k := 22) (p := 7 * i + j) (x := gd p x) rfl (by omega) (by omega)
      have v : M' 22 (7 * (7 * i + j) + gd p x) = nI (px (e i j) (gd p x)) := (fr _ _ (by decide)).trans (s3 _ gx)
      rw [v] at rd
      simp (disch := omega) [zs_Turns_undo_1, zmeth, xm_en, zret, zretz, zretv, zseq, zst, zinc, zkl, zskip, zk, zi, za, zbin, zdiv, zrem, zgi, zgr, zld, zldr, zlen, zn, zc, zcall, zcallv, zrcv, zdo, zdov, zpf, zpfc, zas, zasc, zmin, zmax, zcmp, zcz, zand_e, zor_e, zite_e, zbite_e, zif_e, znot_e, z_add, z_sub, z_mul, z_and, z_or, z_xor, z_shl, z_shr, zcpy, -List.getElem?_cons_succ, zg_0, zg_1, zg_2, zg_3, zg_4, zg_5, zg_6, zg_7, zg_8, zg_9, zc_lt, zc_le, zc_gt, zc_ge, zc_eq, zc_ne, zc_lt0, zc_ge0, zc_gt0, zc_eq0, zc_ne0, zb_ne, zb_eq, zb_01, z_00, z_01, z_11, zb_f, zb_T, zb_F, zbm1, zbm2, zbm5, zbm6, zbm3, zbm4, nI_clamp, zmod_n, pk_div, nI_ne0, pk_mul, nI_add, nI_1, zt_0, zt_12, zt_20, zt_26, zt_32, zf_0_0, zf_0_1, zf_0_2, zf_0_3, zf_0_4, zf_12_0, zf_12_1, zf_12_2, zf_12_4, zf_12_5, zf_20_1, zf_20_2, zf_20_3, zf_20_4, zf_20_6, zf_26_0, zf_26_1, zf_26_2, zf_26_3, zf_32_0, zf_32_1, zf_32_3, zf_32_4, zf_32_5, zf_32_6, zi_25, tx, rd])
  refine ⟨M1, by simp (disch := omega) [zf_Turns_undo, zmeth, xm_en, zret, zretz, zretv, zseq, zst, zinc, zkl, zskip, zk, zi, za, zbin, zdiv, zrem, zgi, zgr, zld, zldr, zlen, zn, zc, zcall, zcallv, zrcv, zdo, zdov, zpf, zpfc, zas, zasc, zmin, zmax, zcmp, zcz, zand_e, zor_e, zite_e, zbite_e, zif_e, znot_e, z_add, z_sub, z_mul, z_and, z_or, z_xor, z_shl, z_shr, zcpy, -List.getElem?_cons_succ, zg_0, zg_1, zg_2, zg_3, zg_4, zg_5, zg_6, zg_7, zg_8, zg_9, e1], h.fr g2, fun x hx => ?_⟩
  rw [g1 x hx, cp_gd hp hx]
  unfold iv
  rw [fl_gd (hp.gl hx)]
def eU (e : Nat → Nat → List Nat) (i j : Nat) (p : List Nat) : Nat → Nat → List Nat := fun a d => if a = i ∧ d = j then p else e a d
def bU (b : Nat → Nat) (i j : Nat) : Nat → Nat := fun a => if a = i then b i ||| 2 ^ j else b a
theorem bU_t {b : Nat → Nat} {i j a d : Nat} : (bU b i j a).testBit d = true ↔ (b a).testBit d = true ∨ a = i ∧ d = j := by
  unfold bU
  by_cases h : a = i
  · rw [if_pos h, Nat.testBit_or, Nat.testBit_two_pow, Bool.or_eq_true, decide_eq_true_eq, h]
    exact ⟨fun q => q.elim Or.inl (fun q => Or.inr ⟨rfl, q.symm⟩), fun q => q.elim Or.inl (fun q => Or.inr q.2.symm)⟩
  · rw [if_neg h]
    exact ⟨Or.inl, fun q => q.elim id (fun q => absurd q.1 h)⟩
theorem eU_ex {e : Nat → Nat → List Nat} {b : Nat → Nat} {i j : Nat} {p : List Nat} (nb : ¬ (b i).testBit j = true) : EX e b (eU e i j p) (bU b i j) := fun a d h => ⟨bU_t.mpr (Or.inl h), if_neg (fun z => nb (by rw [← z.1, ← z.2]; exact h))⟩
theorem qT_keepF {M0 M : zM} {n i j : Nat} {c : tC} {e : Nat → Nat → List Nat} {b : Nat → Nat} {K p : List Nat} (h7 : n ≤ 7) (h : KS M0 n c e b K M) (hp : PQ n p) (ht : TR M n p) (hij : i < j) (hj : j < n) (fx : ∀ x, x < i → gd p x = x) (pi : gd p i = j) (gh : GH n c p) (nb : ¬ (b i).testBit j = true) : ∃ M', zf_Turns_keep [.ref 20, .int (nI i), .int (nI j)] M = some (none, M') ∧ KS M0 n c (eU e i j p) (bU b i j) (K ++ [7 * i + j]) M' := by
  have nk : 7 * i + j ∉ K := fun z => by
    obtain ⟨_, q⟩ := h.pl h7 z
    have e1 : (7 * i + j) / 7 = i := by omega
    have e2 : (7 * i + j) % 7 = j := by omega
    rw [e1, e2] at q
    exact nb q
  have lk := (h.len h7).2 (7 * i + j) (by omega) nk
  obtain ⟨⟨a1, a2, a3⟩, a4, a5, a6, a7, a8, a9⟩ := h
  have bi := a5 i (by omega)
  have b8 : b i ||| 2 ^ j < 128 := Nat.or_lt_two_pow (n := 7) bi.2 (Nat.pow_lt_pow_right (by decide) (by omega))
  obtain ⟨r, ls, M1, w1, rfl, rfl, w2, w3⟩ := zwh_inv (c := zc_Turns_keep_1) (s := zs_Turns_keep_1) (fun x ls M' => ls = [some (Value.ref (20)), some (Value.int (nI i)), some (Value.int (nI j)), some (Value.int (nI (7 * i + j))), some (Value.int (nI x))] ∧ (∀ y, y < x → M' 21 (7 * (7 * i + j) + y) = nI (gd p y) ∧ M' 22 (7 * (7 * i + j) + gd p y) = nI y) ∧ ∀ q k, ¬ ((q = 21 ∨ q = 22) ∧ 7 * (7 * i + j) ≤ k ∧ k < 7 * (7 * i + j) + 7) → M' q k = zup M 23 i (nI (b i ||| 2 ^ j)) q k) (Q := fun r ls M' => r = none ∧ ls = [some (Value.ref (20)), some (Value.int (nI i)), some (Value.int (nI j)), some (Value.int (nI (7 * i + j))), some (Value.int (nI n))] ∧ (∀ y, y < n → M' 21 (7 * (7 * i + j) + y) = nI (gd p y) ∧ M' 22 (7 * (7 * i + j) + gd p y) = nI y) ∧ ∀ q k, ¬ ((q = 21 ∨ q = 22) ∧ 7 * (7 * i + j) ≤ k ∧ k < 7 * (7 * i + j) + 7) → M' q k = zup M 23 i (nI (b i ||| 2 ^ j)) q k) (n := n) (fun ls M' q => by
      obtain ⟨rfl, q1, q2⟩ := q
      have z : M' 20 0 = nI n := by rw [q2 _ _ (by omega), zup_e, if_neg (by omega)]; exact a1
      exact ⟨by simp (disch := omega) [zc_Turns_keep_1, zmeth, xm_en, zret, zretz, zretv, zseq, zst, zinc, zkl, zskip, zk, zi, za, zbin, zdiv, zrem, zgi, zgr, zld, zldr, zlen, zn, zc, zcall, zcallv, zrcv, zdo, zdov, zpf, zpfc, zas, zasc, zmin, zmax, zcmp, zcz, zand_e, zor_e, zite_e, zbite_e, zif_e, znot_e, z_add, z_sub, z_mul, z_and, z_or, z_xor, z_shl, z_shr, zcpy, -List.getElem?_cons_succ, zg_0, zg_1, zg_2, zg_3, zg_4, zg_5, zg_6, zg_7, zg_8, zg_9, zc_lt, zc_le, zc_gt, zc_ge, zc_eq, zc_ne, zc_lt0, zc_ge0, zc_gt0, zc_eq0, zc_ne0, zb_ne, zb_eq, zb_01, z_00, z_01, z_11, zb_f, zb_T, zb_F, zbm1, zbm2, zbm5, zbm6, zbm3, zbm4, nI_clamp, zmod_n, pk_div, nI_ne0, pk_mul, nI_add, nI_1, zt_0, zt_12, zt_20, zt_26, zt_32, zf_0_0, zf_0_1, zf_0_2, zf_0_3, zf_0_4, zf_12_0, zf_12_1, zf_12_2, zf_12_4, zf_12_5, zf_20_1, zf_20_2, zf_20_3, zf_20_4, zf_20_6, zf_26_0, zf_26_1, zf_26_2, zf_26_3, zf_32_0, zf_32_1, zf_32_3, zf_32_4, zf_32_5, zf_32_6, z], rfl, rfl, q1, q2⟩) n 0 (by omega) (fun x ls M' _ hx q => by
      obtain ⟨rfl, q1, q2⟩ := q
      have z : M' 20 0 = nI n := by rw [q2 _ _ (by omega), zup_e, if_neg (by omega)]; exact a1
      have tx : M' 25 x = nI (gd p x) := by rw [q2 _ _ (by omega), zup_e, if_neg (by omega)]; exact ht x hx
      have gx := hp.gl hx
      refine ⟨by simp (disch := omega) [zc_Turns_keep_1, zmeth, xm_en, zret, zretz, zretv, zseq, zst, zinc, zkl, zskip, zk, zi, za, zbin, zdiv, zrem, zgi, zgr, zld, zldr, zlen, zn, zc, zcall, zcallv, zrcv, zdo, zdov, zpf, zpfc, zas, zasc, zmin, zmax, zcmp, zcz, zand_e, zor_e, zite_e, zbite_e, zif_e, znot_e, z_add, z_sub, z_mul, z_and, z_or, z_xor, z_shl, z_shr, zcpy, -List.getElem?_cons_succ, zg_0, zg_1, zg_2, zg_3, zg_4, zg_5, zg_6, zg_7, zg_8, zg_9, zc_lt, zc_le, zc_gt, zc_ge, zc_eq, zc_ne, zc_lt0, zc_ge0, zc_gt0, zc_eq0, zc_ne0, zb_ne, zb_eq, zb_01, z_00, z_01, z_11, zb_f, zb_T, zb_F, zbm1, zbm2, zbm5, zbm6, zbm3, zbm4, nI_clamp, zmod_n, pk_div, nI_ne0, pk_mul, nI_add, nI_1, zt_0, zt_12, zt_20, zt_26, zt_32, zf_0_0, zf_0_1, zf_0_2, zf_0_3, zf_0_4, zf_12_0, zf_12_1, zf_12_2, zf_12_4, zf_12_5, zf_20_1, zf_20_2, zf_20_3, zf_20_4, zf_20_6, zf_26_0, zf_26_1, zf_26_2, zf_26_3, zf_32_0, zf_32_1, zf_32_3, zf_32_4, zf_32_5, zf_32_6, z, hx], ?_⟩
      have e1 := qT_wr (M := M') (k := 21) (p := 7 * i + j) (x := x) (v := nI (gd p x)) rfl (by omega) (by omega)
      have tx2 : zup M' 21 (7 * (7 * i + j) + x) (nI (gd p x)) 25 x = nI (gd p x) := by rw [zup_e, if_neg (by omega)]; exact tx
      have e2 := qT_wr (M := zup M' 21 (7 * (7 * i + j) + x) (nI (gd p x))) (k := 22) (p := 7 * i + j) (x := gd p x) (v := nI x) rfl (by omega) (by omega)
      refine ⟨none, _, zup (zup M' 21 (7 * (7 * i + j) + x) (nI (gd p x))) 22 (7 * (7 * i + j) + gd p x) (nI x), by simp (disch := omega) [zs_Turns_keep_1, zmeth, xm_en, zret, zretz, zretv, zseq, zst, zinc, zkl, zskip, zk, zi, za, zbin, zdiv, zrem, zgi, zgr, zld, zldr, zlen, zn, zc, zcall, zcallv, zrcv, zdo, zdov, zpf, zpfc, zas, zasc, zmin, zmax, zcmp, zcz, zand_e, zor_e, zite_e, zbite_e, zif_e, znot_e, z_add, z_sub, z_mul, z_and, z_or, z_xor, z_shl, z_shr, zcpy, -List.getElem?_cons_succ, zg_0, zg_1, zg_2, zg_3, zg_4, zg_5, zg_6, zg_7, zg_8, zg_9, zc_lt, zc_le, zc_gt, zc_ge, zc_eq, zc_ne, zc_lt0, zc_ge0, zc_gt0, zc_eq0, zc_ne0, zb_ne, zb_eq, zb_01, z_00, z_01, z_11, zb_f, zb_T, zb_F, zbm1, zbm2, zbm5, zbm6, zbm3, zbm4, nI_clamp, zmod_n, pk_div, nI_ne0, pk_mul, nI_add, nI_1, zt_0, zt_12, zt_20, zt_26, zt_32, zf_0_0, zf_0_1, zf_0_2, zf_0_3, zf_0_4, zf_12_0, zf_12_1, zf_12_2, zf_12_4, zf_12_5, zf_20_1, zf_20_2, zf_20_3, zf_20_4, zf_20_6, zf_26_0, zf_26_1, zf_26_2, zf_26_3, zf_32_0, zf_32_1, zf_32_3, zf_32_4, zf_32_5, zf_32_6, zi_25, tx, tx2, e1, e2], rfl, fun y hy => ?_, fun q k hq => ?_⟩
      · by_cases ey : y = x
        · subst ey
          exact ⟨by rw [zup_e, if_neg (by omega), zup_e, if_pos ⟨rfl, rfl⟩], by rw [zup_e, if_pos ⟨rfl, rfl⟩]⟩
        · have := q1 y (by omega)
          have ne : gd p y ≠ gd p x := fun w => ey (hp.inj (by omega) hx w)
          exact ⟨by rw [zup_e, if_neg (by omega), zup_e, if_neg (by omega)]; exact this.1, by rw [zup_e, if_neg (by omega), zup_e, if_neg (by omega)]; exact this.2⟩
      · rw [zup_e, if_neg (by omega), zup_e, if_neg (by omega)]
        exact q2 q k hq) [some (Value.ref (20)), some (Value.int (nI i)), some (Value.int (nI j)), some (Value.int (nI (7 * i + j))), some (Value.int (nI 0))] (zup M 23 i (nI (b i ||| 2 ^ j))) ⟨rfl, fun y hy => absurd hy (Nat.not_lt_zero y), fun _ _ _ => rfl⟩
  have oth : ∀ q k, q ≠ 21 → q ≠ 22 → ¬ (q = 23 ∧ k = i) → M1 q k = M q k := fun q k x1 x2 x3 => by rw [w3 q k (by omega), zup_e, if_neg x3]
  refine ⟨zup (zup M1 24 K.length (nI (7 * i + j))) 20 5 (nI (K.length + 1)), ?_, ⟨?_, ?_, fun q k hq => ?_⟩, fun a d q => ?_, fun a ha => ?_, fun a d q => ?_, ?_, fun m hm => ?_, fun k => ?_⟩
  · have e7 : nI 7 * nI i = nI (7 * i) := pk_mul 7 i
    have ea : nI (7 * i) + nI j = nI (7 * i + j) := nI_add _ _
    have es := nI_shl1 (v := j) (by omega)
    have eo := nI_or (b i) (2 ^ j)
    have k1 : M1 20 5 = nI K.length := (oth _ _ (by decide) (by decide) (by omega)).trans a2
    have k2 : zup M1 24 K.length (nI (7 * i + j)) 20 5 = nI K.length := by rw [zup_e, if_neg (by omega)]; exact k1
    simp (disch := omega) [zf_Turns_keep, zmeth, xm_en, zret, zretz, zretv, zseq, zst, zinc, zkl, zskip, zk, zi, za, zbin, zdiv, zrem, zgi, zgr, zld, zldr, zlen, zn, zc, zcall, zcallv, zrcv, zdo, zdov, zpf, zpfc, zas, zasc, zmin, zmax, zcmp, zcz, zand_e, zor_e, zite_e, zbite_e, zif_e, znot_e, z_add, z_sub, z_mul, z_and, z_or, z_xor, z_shl, z_shr, zcpy, -List.getElem?_cons_succ, zg_0, zg_1, zg_2, zg_3, zg_4, zg_5, zg_6, zg_7, zg_8, zg_9, zc_lt, zc_le, zc_gt, zc_ge, zc_eq, zc_ne, zc_lt0, zc_ge0, zc_gt0, zc_eq0, zc_ne0, zb_ne, zb_eq, zb_01, z_00, z_01, z_11, zb_f, zb_T, zb_F, zbm1, zbm2, zbm5, zbm6, zbm3, zbm4, nI_clamp, zmod_n, pk_div, nI_ne0, pk_mul, nI_add, nI_1, zt_0, zt_12, zt_20, zt_26, zt_32, zf_0_0, zf_0_1, zf_0_2, zf_0_3, zf_0_4, zf_12_0, zf_12_1, zf_12_2, zf_12_4, zf_12_5, zf_20_1, zf_20_2, zf_20_3, zf_20_4, zf_20_6, zf_26_0, zf_26_1, zf_26_2, zf_26_3, zf_32_0, zf_32_1, zf_32_3, zf_32_4, zf_32_5, zf_32_6, a2, lk, zi_23, zi_24, nI_clamp, bi.1, es, eo, w1, k1, k2]
  · rw [zup_e, if_neg (by omega), zup_e, if_neg (by omega), oth _ _ (by decide) (by decide) (by omega)]
    exact a1
  · rw [zup_e, if_pos ⟨rfl, rfl⟩, List.length_append, List.length_singleton]
  · rw [zup_e, if_neg (by omega), zup_e, if_neg (by omega), oth q k (by omega) (by omega) (by omega)]
    exact a3 q k hq
  · by_cases z : a = i ∧ d = j
    · obtain ⟨rfl, rfl⟩ := z
      have ee : eU e a d p a d = p := if_pos ⟨rfl, rfl⟩
      rw [ee]
      exact ⟨⟨hij, hj⟩, hp, fx, pi⟩
    · have ee : eU e i j p a d = e a d := if_neg z
      rw [ee]
      exact a4 a d ((bU_t.mp q).elim id (fun w => absurd w z))
  · rw [zup_e, if_neg (by omega), zup_e, if_neg (by omega), w3 _ _ (by omega), zup_e]
    unfold bU
    by_cases z : a = i
    · rw [if_pos ⟨rfl, z⟩, if_pos z]
      exact ⟨rfl, b8⟩
    · rw [if_neg (fun w => z w.2), if_neg z]
      exact a5 a ha
  · by_cases z : a = i ∧ d = j
    · obtain ⟨rfl, rfl⟩ := z
      have ee : eU e a d p a d = p := if_pos ⟨rfl, rfl⟩
      rw [ee]
      refine ⟨gh, fun x hx => ?_, fun x hx => ?_⟩
      · rw [zup_e, if_neg (by omega), zup_e, if_neg (by omega)]
        exact (w2 x hx).1
      · rw [zup_e, if_neg (by omega), zup_e, if_neg (by omega)]
        have := (w2 _ (hp.pl hx)).2
        rw [hp.gp hx] at this
        exact this
    · have ee : eU e i j p a d = e a d := if_neg z
      have q' := (bU_t.mp q).elim id (fun w => absurd w z)
      have t := (a4 a d q').1
      obtain ⟨s1, s2, s3⟩ := a6 a d q'
      have ne : ¬ 7 * a + d = 7 * i + j := fun w => z (by omega)
      rw [ee]
      refine ⟨s1, fun x hx => ?_, fun x hx => ?_⟩
      · rw [zup_e, if_neg (by omega), zup_e, if_neg (by omega), w3 _ _ (by omega), zup_e, if_neg (by omega)]
        exact s2 x hx
      · rw [zup_e, if_neg (by omega), zup_e, if_neg (by omega), w3 _ _ (by omega), zup_e, if_neg (by omega)]
        exact s3 x hx
  · rw [List.nodup_append]
    refine ⟨a7, List.nodup_cons.mpr ⟨List.not_mem_nil, List.nodup_nil⟩, fun x hx y hy w => ?_⟩
    rw [List.mem_singleton] at hy
    subst w
    subst hy
    exact nk hx
  · rw [List.length_append, List.length_singleton] at hm
    rw [zup_e, if_neg (by omega), zup_e]
    by_cases z : m = K.length
    · rw [if_pos ⟨rfl, z⟩, z, gd_new]
    · rw [if_neg (fun w => z w.2), gd_app (by omega), oth _ _ (by decide) (by decide) (by omega)]
      exact a8 m (by omega)
  · rw [List.mem_append, List.mem_singleton, a9 k]
    constructor
    · intro q
      rcases q with ⟨x, y, q1, q2⟩ | q
      · exact ⟨x, y, bU_t.mpr (Or.inl q1), q2⟩
      · exact ⟨i, j, bU_t.mpr (Or.inr ⟨rfl, rfl⟩), q⟩
    · intro ⟨x, y, q1, q2⟩
      rcases bU_t.mp q1 with q1 | ⟨rfl, rfl⟩
      · exact Or.inl ⟨x, y, q1, q2⟩
      · exact Or.inr q2
