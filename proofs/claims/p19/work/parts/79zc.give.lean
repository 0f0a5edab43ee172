/-! name: the class's keepRenamed and giveNames -/
def tqb (n : Nat) (A B : tC) : Bool := zall (fun i => zall (fun j => decide (A i j = B i j)) n) n
theorem tqb_t {n : Nat} {A B : tC} : tqb n A B = true ↔ tq n A B := by
  unfold tqb tq
  rw [zall_t]
  constructor
  · intro h i j hi hj
    have := zall_t.mp (h i hi) j hj
    exact of_decide_eq_true this
  · intro h i hi
    rw [zall_t]
    exact fun j hj => decide_eq_true (h i j hi hj)
theorem tqb_f {n : Nat} {A B : tC} (h : ¬ tq n A B) : tqb n A B = false := by
  cases e : tqb n A B with
  | false => rfl
  | true => exact absurd (tqb_t.mp e) h
def cmps (n : Nat) : Nat → List Nat → List (List Nat)
  | 0, l => [l]
  | d + 1, l => (List.range n).flatMap (fun y => if y ∈ l then [] else cmps n d (l ++ [y]))
theorem cmps_mem {n : Nat} : ∀ (d : Nat) (l v : List Nat), PP n l → l.length + d = n → v ∈ cmps n d l → PL n v ∧ ex l v
  | 0, l, v, hl, e, h => by
    have : v = l := List.mem_singleton.mp h
    subst this
    exact ⟨hl.full (by omega), [], (List.append_nil v).symm⟩
  | d + 1, l, v, hl, e, h => by
    unfold cmps at h
    obtain ⟨y, hy, h⟩ := List.mem_flatMap.mp h
    rw [List.mem_range] at hy
    by_cases q : y ∈ l
    · rw [if_pos q] at h
      cases h
    · rw [if_neg q] at h
      obtain ⟨a, m, b⟩ := cmps_mem d (l ++ [y]) v (hl.up (by omega) hy q) (by rw [List.length_append, List.length_singleton]; omega) h
      exact ⟨a, y :: m, by rw [b, List.append_assoc]; rfl⟩
theorem cmps_all {n : Nat} : ∀ (d : Nat) (l v : List Nat), PP n l → l.length + d = n → PL n v → ex l v → v ∈ cmps n d l
  | 0, l, v, hl, e, hv, he => by
    obtain ⟨m, rfl⟩ := he
    have h1 := hv.1
    rw [List.length_append] at h1
    have : m = [] := List.length_eq_zero_iff.mp (by omega)
    subst this
    rw [List.append_nil]
    exact List.mem_singleton.mpr rfl
  | d + 1, l, v, hl, e, hv, he => by
    obtain ⟨m, rfl⟩ := he
    have h1 := hv.1
    rw [List.length_append] at h1
    match m, h1, hv with
    | [], h1, hv => exact absurd h1 (by simp only [List.length_nil]; omega)
    | y :: m, h1, hv =>
      have hy : y < n := hv.2.2.1 y (List.mem_append.mpr (Or.inr (List.mem_cons_self ..)))
      have q : y ∉ l := fun z => (List.nodup_append.mp hv.2.1).2.2 y z y (List.mem_cons_self ..) rfl
      have := cmps_all d (l ++ [y]) (l ++ y :: m) (hl.up (by omega) hy q) (by rw [List.length_append, List.length_singleton]; omega) hv ⟨m, by rw [List.append_assoc]; rfl⟩
      unfold cmps
      exact List.mem_flatMap.mpr ⟨y, List.mem_range.mpr hy, by rw [if_neg q]; exact this⟩
def DS (M0 : zM) (n : Nat) (c : tC) (V : List (List Nat)) (B : tC) (l : List Nat) (M : zM) : Prop := kT M 27 n B ∧ NM M l ∧ M 26 4 = nI (V.countP (fun v => tqb n (rn c v) B)) ∧ (∃ l0, PL n l0 ∧ tq n B (rn c l0)) ∧ (∀ v, v ∈ V → ¬ tl n (rn c v) B) ∧ ∀ q j, q < 10 ∨ 32 ≤ q → M q j = M0 q j
theorem DS.kt {M0 M : zM} {n k : Nat} {c B : tC} {V : List (List Nat)} {l : List Nat} (h : DS M0 n c V B l M) (hk2 : k + 1 < 10) (ht : kT M0 k n c) : kT M k n c := ht.same (fun j => h.2.2.2.2.2 _ _ (by omega)) (fun j => h.2.2.2.2.2 _ _ (by omega))
theorem DS.bf {M0 M : zM} {n : Nat} {c B : tC} {V : List (List Nat)} {l : List Nat} (h : DS M0 n c V B l M) (hO : tO n c) (hf : tF n c) : tF n B ∧ ∀ a, a < n → B 0 a = a ∧ B a 0 = a := by
  obtain ⟨l0, a, b⟩ := h.2.2.2.1
  have f := rn_F hf a
  have o := rn_O hO hf a
  have n1 := hO.1.1
  exact ⟨fun i j hi hj => by rw [b i j hi hj]; exact f i j hi hj, fun i hi => ⟨by rw [b 0 i (by omega) hi]; exact (o.2.1 i hi).1, by rw [b i 0 hi (by omega)]; exact (o.2.1 i hi).2⟩⟩
theorem PL.pre {n : Nat} {l : List Nat} (h : PL n l) (h1 : 1 ≤ n) : PP n l := ⟨by have := h.1; omega, h.2⟩
theorem qR_keep {M0 M : zM} {k n : Nat} {c B : tC} {V : List (List Nat)} {l : List Nat} (hk : ztb k) (hk2 : k + 1 < 10) (ht : kT M0 k n c) (hO : tO n c) (hf : tF n c) (hl : PL n l) (h : DS M0 n c V B l M) (hle : ¬ tl n B (rn c l)) : ∃ B' M', zf_Renamings_keepRenamed [.ref 26, .ref k] M = some (none, M') ∧ DS M0 n c (V ++ [l]) B' l M' := by
  have h8 := hO.1.2
  have kt := h.kt hk2 ht
  obtain ⟨hBf, hBu⟩ := h.bf hO hf
  obtain ⟨v, cm, cq⟩ := qR_compare hk kt hO hf h.1 hBf hBu (hl.pre hO.1.1) h.2.1
  rw [hl.1] at cm
  have exl : ex l l := ⟨[], (List.append_nil l).symm⟩
  rcases cq with ⟨rfl, q⟩ | ⟨rfl, q⟩ | ⟨rfl, q⟩
  · exact absurd (q l hl exl) hle
  · have q := q l hl exl
    have z1 : xe_cd .eq (-1 : Int32) 0 = false := by decide
    have hn : ∀ i, i < n → (zup M 26 4 (nI 1)) 30 i = nI (gd l i) ∧ gd l i < n := fun i hi => ⟨by rw [zup_e, if_neg (by omega)]; exact h.2.1.1 i (by rw [hl.1]; exact hi), hl.gl hi⟩
    obtain ⟨M', w1, w2⟩ := qR_kr1 (M0 := zup M 26 4 (nI 1)) (f := gd l) hk (by omega) (kt.same (fun j => by rw [zup_e, if_neg (by omega)]) (fun j => by rw [zup_e, if_neg (by omega)])) hf h8 hO.1.1 (by rw [zup_e, if_neg (by omega)]; exact h.1.1) hn
    have same : ∀ q j, q ≠ 28 → q ≠ 26 → M' q j = M q j := fun q j a b => by rw [w2.1 q j (Or.inl a), zup_e, if_neg (by omega)]
    have o := rn_O hO hf hl
    have f := rn_F hf hl
    refine ⟨rn c l, M', ?_, ⟨(same 27 0 (by decide) (by decide)).trans h.1.1, fun a b ha hb => ?_⟩, ⟨fun i hi => (same _ _ (by decide) (by decide)).trans (h.2.1.1 i hi), fun x hx => (same _ _ (by decide) (by decide)).trans (h.2.1.2 x hx)⟩, ?_, ⟨l, hl, fun _ _ _ _ => rfl⟩, fun v hv z => ?_, fun q j hq => (same q j (by omega) (by omega)).trans (h.2.2.2.2.2 q j hq)⟩
    · simp (disch := omega) [zf_Renamings_keepRenamed, zmeth, xm_en, zret, zretz, zretv, zseq, zst, zinc, zkl, zskip, zk, zi, za, zbin, zdiv, zrem, zgi, zgr, zld, zldr, zlen, zn, zc, zcall, zcallv, zrcv, zdo, zdov, zpf, zpfc, zas, zasc, zmin, zmax, zcmp, zcz, zand_e, zor_e, zite_e, zbite_e, zif_e, znot_e, z_add, z_sub, z_mul, z_and, z_or, z_xor, z_shl, z_shr, zcpy, -List.getElem?_cons_succ, zg_0, zg_1, zg_2, zg_3, zg_4, zg_5, zg_6, zg_7, zg_8, zg_9, zt_0, zt_12, zt_20, zt_26, zt_32, zf_0_0, zf_0_1, zf_0_2, zf_0_3, zf_0_4, zf_12_0, zf_12_1, zf_12_2, zf_12_4, zf_12_5, zf_20_1, zf_20_2, zf_20_3, zf_20_4, zf_20_6, zf_26_0, zf_26_1, zf_26_2, zf_26_3, zf_32_0, zf_32_1, zf_32_3, zf_32_4, zf_32_5, zf_32_6, zc_lt, zc_le, zc_gt, zc_ge, zc_eq, zc_ne, zc_lt0, zc_ge0, zc_gt0, zc_eq0, zc_ne0, zb_ne, zb_eq, zb_01, z_00, z_01, z_11, zb_f, zb_T, zb_F, zbm1, zbm2, zbm5, zbm6, zbm3, zbm4, nI_clamp, zmod_n, pk_div, nI_ne0, pk_mul, nI_add, nI_1, ztb_tag hk, kt.1, cm, z1, w1]
    · have f8 := f a b ha hb
      by_cases a0 : a = 0
      · subst a0
        rw [w2.1 _ _ (by omega), zup_e, if_neg (by omega), h.1.2 0 b ha hb, (hBu b hb).1, (o.2.1 b hb).1]
      · by_cases b0 : b = 0
        · subst b0
          rw [w2.1 _ _ (by omega), zup_e, if_neg (by omega), h.1.2 a 0 ha hb, (hBu a ha).2, (o.2.1 a ha).2]
        · have cl := hf _ _ (hl.gl ha) (hl.gl hb)
          rw [w2.2 a b (by omega) (by omega) ha hb (by omega), zup_e, if_neg (by omega), h.2.1.2 _ (by omega), if_pos (hl.mem cl), zcl_lt (by omega)]
          rfl
    · rw [w2.1 _ _ (by omega), zup_e, if_pos ⟨rfl, rfl⟩]
      have e1 : V.countP (fun v => tqb n (rn c v) (rn c l)) = 0 := List.countP_eq_zero.mpr (fun v hv z => h.2.2.2.2.1 v hv (tl_l (tqb_t.mp z).symm q))
      have e2 : tqb n (rn c l) (rn c l) = true := tqb_t.mpr (fun _ _ _ _ => rfl)
      rw [List.countP_append, e1, List.countP_singleton, if_pos e2]
    · rcases List.mem_append.mp hv with hv | hv
      · exact h.2.2.2.2.1 v hv (tl_tr z q)
      · rw [List.mem_singleton.mp hv] at z
        exact tl_ne z (fun _ _ _ _ => rfl)
  · have q := q hl.1
    refine ⟨B, zup M 26 4 (M 26 4 + nI 1), ?_, h.1.same (fun j => by rw [zup_e, if_neg (by omega)]) (fun j => by rw [zup_e, if_neg (by omega)]), ⟨fun i hi => ?_, fun x hx => ?_⟩, ?_, h.2.2.2.1, fun v hv z => ?_, fun q j hq => ?_⟩
    · simp (disch := omega) [zf_Renamings_keepRenamed, zmeth, xm_en, zret, zretz, zretv, zseq, zst, zinc, zkl, zskip, zk, zi, za, zbin, zdiv, zrem, zgi, zgr, zld, zldr, zlen, zn, zc, zcall, zcallv, zrcv, zdo, zdov, zpf, zpfc, zas, zasc, zmin, zmax, zcmp, zcz, zand_e, zor_e, zite_e, zbite_e, zif_e, znot_e, z_add, z_sub, z_mul, z_and, z_or, z_xor, z_shl, z_shr, zcpy, -List.getElem?_cons_succ, zg_0, zg_1, zg_2, zg_3, zg_4, zg_5, zg_6, zg_7, zg_8, zg_9, zt_0, zt_12, zt_20, zt_26, zt_32, zf_0_0, zf_0_1, zf_0_2, zf_0_3, zf_0_4, zf_12_0, zf_12_1, zf_12_2, zf_12_4, zf_12_5, zf_20_1, zf_20_2, zf_20_3, zf_20_4, zf_20_6, zf_26_0, zf_26_1, zf_26_2, zf_26_3, zf_32_0, zf_32_1, zf_32_3, zf_32_4, zf_32_5, zf_32_6, zc_lt, zc_le, zc_gt, zc_ge, zc_eq, zc_ne, zc_lt0, zc_ge0, zc_gt0, zc_eq0, zc_ne0, zb_ne, zb_eq, zb_01, z_00, z_01, z_11, zb_f, zb_T, zb_F, zbm1, zbm2, zbm5, zbm6, zbm3, zbm4, nI_clamp, zmod_n, pk_div, nI_ne0, pk_mul, nI_add, nI_1, ztb_tag hk, kt.1, cm]
    · rw [zup_e, if_neg (by omega)]
      exact h.2.1.1 i hi
    · rw [zup_e, if_neg (by omega)]
      exact h.2.1.2 x hx
    · rw [zup_e, if_pos ⟨rfl, rfl⟩, h.2.2.1, List.countP_append, List.countP_singleton, if_pos (tqb_t.mpr q)]
      exact nI_1 _
    · rcases List.mem_append.mp hv with hv | hv
      · exact h.2.2.2.2.1 v hv z
      · rw [List.mem_singleton.mp hv] at z
        exact tl_ne z q
    · rw [zup_e, if_neg (by omega)]
      exact h.2.2.2.2.2 q j hq
theorem NM.up {M : zM} {l : List Nat} {x : Nat} (h : NM M l) (hx : x ∉ l) : NM (zup (zup M 30 l.length (nI x)) 31 x (nI l.length)) (l ++ [x]) := by
  refine ⟨fun i hi => ?_, fun y hy => ?_⟩
  · rw [zup_e, if_neg (by omega), zup_e]
    rw [List.length_append, List.length_singleton] at hi
    by_cases e : i = l.length
    · subst e
      rw [if_pos ⟨rfl, rfl⟩, gd_new]
    · rw [if_neg (fun z => e z.2), gd_app (by omega)]
      exact h.1 i (by omega)
  · rw [zup_e]
    by_cases e : y = x
    · subst e
      rw [if_pos ⟨rfl, rfl⟩, if_pos (List.mem_append.mpr (Or.inr (List.mem_singleton.mpr rfl))), px_out hx]
      have : px [y] y = 0 := if_pos rfl
      rw [this]
      rfl
    · rw [if_neg (fun z => e z.2), zup_e, if_neg (by omega), h.2 y hy]
      by_cases q : y ∈ l
      · rw [if_pos q, if_pos (List.mem_append.mpr (Or.inl q)), px_app q]
      · rw [if_neg q, if_neg (fun z => (List.mem_append.mp z).elim q (fun z => e (List.mem_singleton.mp z)))]
theorem NM.down {M : zM} {l : List Nat} {x : Nat} (h : NM M (l ++ [x])) (hx : x ∉ l) : NM (zup M 31 x (-1)) l := by
  refine ⟨fun i hi => ?_, fun y hy => ?_⟩
  · rw [zup_e, if_neg (by omega), h.1 i (by rw [List.length_append]; omega), gd_app hi]
  · rw [zup_e]
    by_cases e : y = x
    · subst e
      rw [if_pos ⟨rfl, rfl⟩, if_neg hx]
    · rw [if_neg (fun z => e z.2), h.2 y hy]
      by_cases q : y ∈ l
      · rw [if_pos q, if_pos (List.mem_append.mpr (Or.inl q)), px_app q]
      · rw [if_neg q, if_neg (fun z => (List.mem_append.mp z).elim q (fun z => e (List.mem_singleton.mp z)))]
theorem DS.cut {M0 M : zM} {n : Nat} {c B : tC} {V W : List (List Nat)} {l : List Nat} (h : DS M0 n c V B l M) (hw : ∀ v, v ∈ W → tl n B (rn c v)) : DS M0 n c (V ++ W) B l M := by
  refine ⟨h.1, h.2.1, ?_, h.2.2.2.1, fun v hv z => ?_, h.2.2.2.2.2⟩
  · have : W.countP (fun v => tqb n (rn c v) B) = 0 := List.countP_eq_zero.mpr (fun v hv z => tl_ne (hw v hv) (tqb_t.mp z).symm)
    rw [List.countP_append, this]
    exact h.2.2.1
  · rcases List.mem_append.mp hv with hv | hv
    · exact h.2.2.2.2.1 v hv z
    · exact tl_as z (hw v hv)
theorem DS.mv {M0 M M' : zM} {n : Nat} {c B : tC} {V : List (List Nat)} {l l' : List Nat} (h : DS M0 n c V B l M) (hN : NM M' l') (hs : ∀ q j, q ≠ 30 → q ≠ 31 → M' q j = M q j) : DS M0 n c V B l' M' := ⟨h.1.same (fun j => hs _ _ (by decide) (by decide)) (fun j => hs _ _ (by decide) (by decide)), hN, (hs _ _ (by decide) (by decide)).trans h.2.2.1, h.2.2.2.1, h.2.2.2.2.1, fun q j hq => (hs q j (by omega) (by omega)).trans (h.2.2.2.2.2 q j hq)⟩
theorem giveNames_S (n : Nat) : zf_Renamings_giveNames (n + 1) = zmeth 4 (zseq (zseq (zif (zor (zcmp .ge (zi 2) (zgi 0 0 (za 1))) (zcmp .ge (zi 2) (zk (nI 8)))) (zseq (zdov 3 zf_Renamings_keepRenamed (zc (zc (zn) (za 0)) (za 1))) (zretv)) (zskip)) (zkl 3 (zseq (zst 3 (zk (nI 1))) (zwh (zc_Renamings_giveNames_1 (zf_Renamings_giveNames n)) (zs_Renamings_giveNames_1 (zf_Renamings_giveNames n)))))) zretv) := rfl
theorem qR_give {M0 : zM} {k n : Nat} {c : tC} (hk : ztb k) (hk2 : k + 1 < 10) (ht : kT M0 k n c) (hO : tO n c) (hf : tF n c) : ∀ (d f : Nat) (l : List Nat) (V : List (List Nat)) (B : tC) (M : zM), d < f → l.length + d = n → PP n l → DS M0 n c V B l M → (l.length = n → ¬ tl n B (rn c l)) → ∃ B' M', zf_Renamings_giveNames f [.ref 26, .ref k, .int (nI l.length)] M = some (none, M') ∧ DS M0 n c (V ++ cmps n d l) B' l M' := by
  have h8 := hO.1.2
  intro d
  induction d with
  | zero =>
    intro f l V B M hd e hl h hle
    obtain ⟨f, rfl⟩ : ∃ g, f = g + 1 := ⟨f - 1, by omega⟩
    have e : l.length = n := by omega
    obtain ⟨B', M', w1, w2⟩ := qR_keep hk hk2 ht hO hf (hl.full e) h (hle e)
    have kt := h.kt hk2 ht
    refine ⟨B', M', ?_, w2⟩
    rw [giveNames_S, e]
    simp (disch := omega) [zmeth, xm_en, zret, zretz, zretv, zseq, zst, zinc, zkl, zskip, zk, zi, za, zbin, zdiv, zrem, zgi, zgr, zld, zldr, zlen, zn, zc, zcall, zcallv, zrcv, zdo, zdov, zpf, zpfc, zas, zasc, zmin, zmax, zcmp, zcz, zand_e, zor_e, zite_e, zbite_e, zif_e, znot_e, z_add, z_sub, z_mul, z_and, z_or, z_xor, z_shl, z_shr, zcpy, -List.getElem?_cons_succ, zg_0, zg_1, zg_2, zg_3, zg_4, zg_5, zg_6, zg_7, zg_8, zg_9, zt_0, zt_12, zt_20, zt_26, zt_32, zf_0_0, zf_0_1, zf_0_2, zf_0_3, zf_0_4, zf_12_0, zf_12_1, zf_12_2, zf_12_4, zf_12_5, zf_20_1, zf_20_2, zf_20_3, zf_20_4, zf_20_6, zf_26_0, zf_26_1, zf_26_2, zf_26_3, zf_32_0, zf_32_1, zf_32_3, zf_32_4, zf_32_5, zf_32_6, zc_lt, zc_le, zc_gt, zc_ge, zc_eq, zc_ne, zc_lt0, zc_ge0, zc_gt0, zc_eq0, zc_ne0, zb_ne, zb_eq, zb_01, z_00, z_01, z_11, zb_f, zb_T, zb_F, zbm1, zbm2, zbm5, zbm6, zbm3, zbm4, nI_clamp, zmod_n, pk_div, nI_ne0, pk_mul, nI_add, nI_1, ztb_tag hk, kt.1, w1]
  | succ d ih =>
    intro f l V B M hd e hl h hle
    obtain ⟨f, rfl⟩ : ∃ g, f = g + 1 := ⟨f - 1, by omega⟩
    have hl1 := hl.1
    have hln : ¬ n ≤ l.length := by omega
    have hl8 : ¬ 8 ≤ l.length := by omega
    have nx : nI l.length + nI 1 = nI (l.length + 1) := nI_1 _
    obtain ⟨r, ls, M', w1, rfl, rfl, B', w2⟩ := zwh_inv (c := zc_Renamings_giveNames_1 (zf_Renamings_giveNames f)) (s := zs_Renamings_giveNames_1 (zf_Renamings_giveNames f)) (fun x ls M' => ls = [some (Value.ref (26)), some (Value.ref (k)), some (Value.int (nI l.length)), some (Value.int (nI x))] ∧ ∃ B', DS M0 n c (V ++ (List.range x).flatMap (fun y => if y ∈ l then [] else cmps n d (l ++ [y]))) B' l M') (Q := fun r ls M' => r = none ∧ ls = [some (Value.ref (26)), some (Value.ref (k)), some (Value.int (nI l.length)), some (Value.int (nI n))] ∧ ∃ B', DS M0 n c (V ++ cmps n (d + 1) l) B' l M') (n := n) (fun ls M' q => by
      obtain ⟨rfl, B', q⟩ := q
      have kt := q.kt hk2 ht
      exact ⟨by simp (disch := omega) [zc_Renamings_giveNames_1, zmeth, xm_en, zret, zretz, zretv, zseq, zst, zinc, zkl, zskip, zk, zi, za, zbin, zdiv, zrem, zgi, zgr, zld, zldr, zlen, zn, zc, zcall, zcallv, zrcv, zdo, zdov, zpf, zpfc, zas, zasc, zmin, zmax, zcmp, zcz, zand_e, zor_e, zite_e, zbite_e, zif_e, znot_e, z_add, z_sub, z_mul, z_and, z_or, z_xor, z_shl, z_shr, zcpy, -List.getElem?_cons_succ, zg_0, zg_1, zg_2, zg_3, zg_4, zg_5, zg_6, zg_7, zg_8, zg_9, zc_lt, zc_le, zc_gt, zc_ge, zc_eq, zc_ne, zc_lt0, zc_ge0, zc_gt0, zc_eq0, zc_ne0, zb_ne, zb_eq, zb_01, z_00, z_01, z_11, zb_f, zb_T, zb_F, zbm1, zbm2, zbm5, zbm6, zbm3, zbm4, nI_clamp, zmod_n, pk_div, nI_ne0, pk_mul, nI_add, nI_1, ztb_tag hk, kt.1], rfl, rfl, B', q⟩) (n - 1) 1 (by omega) (fun x ls M1 hx1 hx q => by
      obtain ⟨rfl, B1, q⟩ := q
      have kt := q.kt hk2 ht
      refine ⟨by simp (disch := omega) [zc_Renamings_giveNames_1, zmeth, xm_en, zret, zretz, zretv, zseq, zst, zinc, zkl, zskip, zk, zi, za, zbin, zdiv, zrem, zgi, zgr, zld, zldr, zlen, zn, zc, zcall, zcallv, zrcv, zdo, zdov, zpf, zpfc, zas, zasc, zmin, zmax, zcmp, zcz, zand_e, zor_e, zite_e, zbite_e, zif_e, znot_e, z_add, z_sub, z_mul, z_and, z_or, z_xor, z_shl, z_shr, zcpy, -List.getElem?_cons_succ, zg_0, zg_1, zg_2, zg_3, zg_4, zg_5, zg_6, zg_7, zg_8, zg_9, zc_lt, zc_le, zc_gt, zc_ge, zc_eq, zc_ne, zc_lt0, zc_ge0, zc_gt0, zc_eq0, zc_ne0, zb_ne, zb_eq, zb_01, z_00, z_01, z_11, zb_f, zb_T, zb_F, zbm1, zbm2, zbm5, zbm6, zbm3, zbm4, nI_clamp, zmod_n, pk_div, nI_ne0, pk_mul, nI_add, nI_1, ztb_tag hk, kt.1, hx], ?_⟩
      have n31 := q.2.1.2 x (by omega)
      have rs : (List.range (x + 1)).flatMap (fun y => if y ∈ l then [] else cmps n d (l ++ [y])) = (List.range x).flatMap (fun y => if y ∈ l then [] else cmps n d (l ++ [y])) ++ (if x ∈ l then [] else cmps n d (l ++ [x])) := by
        rw [List.range_succ, List.flatMap_append, List.flatMap_singleton]
      obtain ⟨W, hW⟩ : ∃ W, (List.range x).flatMap (fun y => if y ∈ l then [] else cmps n d (l ++ [y])) = W := ⟨_, rfl⟩
      rw [hW] at q rs
      by_cases hin : x ∈ l
      · rw [if_pos hin] at n31
        have p8 := (px_mem hin).1
        have m1 : xe_cd .eq (nI (px l x)) (-1) = false := by
          have := zcl_m1 (px l x)
          rw [zcl_lt (by omega)] at this
          rw [this]
          exact decide_eq_false (by omega)
        exact ⟨none, _, M1, by simp (disch := omega) [zs_Renamings_giveNames_1, zmeth, xm_en, zret, zretz, zretv, zseq, zst, zinc, zkl, zskip, zk, zi, za, zbin, zdiv, zrem, zgi, zgr, zld, zldr, zlen, zn, zc, zcall, zcallv, zrcv, zdo, zdov, zpf, zpfc, zas, zasc, zmin, zmax, zcmp, zcz, zand_e, zor_e, zite_e, zbite_e, zif_e, znot_e, z_add, z_sub, z_mul, z_and, z_or, z_xor, z_shl, z_shr, zcpy, -List.getElem?_cons_succ, zg_0, zg_1, zg_2, zg_3, zg_4, zg_5, zg_6, zg_7, zg_8, zg_9, zc_lt, zc_le, zc_gt, zc_ge, zc_eq, zc_ne, zc_lt0, zc_ge0, zc_gt0, zc_eq0, zc_ne0, zb_ne, zb_eq, zb_01, z_00, z_01, z_11, zb_f, zb_T, zb_F, zbm1, zbm2, zbm5, zbm6, zbm3, zbm4, nI_clamp, zmod_n, pk_div, nI_ne0, pk_mul, nI_add, nI_1, zt_0, zt_12, zt_20, zt_26, zt_32, zf_0_0, zf_0_1, zf_0_2, zf_0_3, zf_0_4, zf_12_0, zf_12_1, zf_12_2, zf_12_4, zf_12_5, zf_20_1, zf_20_2, zf_20_3, zf_20_4, zf_20_6, zf_26_0, zf_26_1, zf_26_2, zf_26_3, zf_32_0, zf_32_1, zf_32_3, zf_32_4, zf_32_5, zf_32_6, zi_31, n31, m1], rfl, B1, by rw [rs, if_pos hin, List.append_nil]; exact q⟩
      · rw [if_neg hin] at n31
        rw [if_neg hin] at rs
        have m1 : xe_cd .eq (-1 : Int32) (-1) = true := by decide
        have hl2 : PP n (l ++ [x]) := hl.up (by omega) hx hin
        have len : (l ++ [x]).length = l.length + 1 := by rw [List.length_append, List.length_singleton]
        have q1 : DS M0 n c (V ++ W) B1 (l ++ [x]) (zup (zup M1 30 l.length (nI x)) 31 x (nI l.length)) := q.mv (q.2.1.up hin) (fun q j a b => by rw [zup_e, if_neg (by omega), zup_e, if_neg (by omega)])
        obtain ⟨bf, bu⟩ := q1.bf hO hf
        obtain ⟨v, cm, cq⟩ := qR_compare hk (q1.kt hk2 ht) hO hf q1.1 bf bu hl2 q1.2.1
        rw [len] at cm
        have go : ∀ v : Int32, xe_cd .le v 0 = true → zf_Renamings_compare [.ref 26, .ref k, .int (nI (l.length + 1))] (zup (zup M1 30 l.length (nI x)) 31 x (nI l.length)) = some (some v, (zup (zup M1 30 l.length (nI x)) 31 x (nI l.length))) → ((l ++ [x]).length = n → ¬ tl n B1 (rn c (l ++ [x]))) → ∃ M2 B2, zs_Renamings_giveNames_1 (zf_Renamings_giveNames f) [some (Value.ref (26)), some (Value.ref (k)), some (Value.int (nI l.length)), some (Value.int (nI x))] M1 = some (none, [some (Value.ref (26)), some (Value.ref (k)), some (Value.int (nI l.length)), some (Value.int (nI (x + 1)))], M2) ∧ DS M0 n c (V ++ W ++ cmps n d (l ++ [x])) B2 l M2 := fun v le cm nt => by
          obtain ⟨B2, M2, e2, q2⟩ := ih f (l ++ [x]) (V ++ W) B1 _ (by omega) (by rw [len]; omega) hl2 q1 nt
          rw [len] at e2
          exact ⟨zup M2 31 x (-1), B2, by simp (disch := omega) [zs_Renamings_giveNames_1, zmeth, xm_en, zret, zretz, zretv, zseq, zst, zinc, zkl, zskip, zk, zi, za, zbin, zdiv, zrem, zgi, zgr, zld, zldr, zlen, zn, zc, zcall, zcallv, zrcv, zdo, zdov, zpf, zpfc, zas, zasc, zmin, zmax, zcmp, zcz, zand_e, zor_e, zite_e, zbite_e, zif_e, znot_e, z_add, z_sub, z_mul, z_and, z_or, z_xor, z_shl, z_shr, zcpy, -List.getElem?_cons_succ, zg_0, zg_1, zg_2, zg_3, zg_4, zg_5, zg_6, zg_7, zg_8, zg_9, zc_lt, zc_le, zc_gt, zc_ge, zc_eq, zc_ne, zc_lt0, zc_ge0, zc_gt0, zc_eq0, zc_ne0, zb_ne, zb_eq, zb_01, z_00, z_01, z_11, zb_f, zb_T, zb_F, zbm1, zbm2, zbm5, zbm6, zbm3, zbm4, nI_clamp, zmod_n, pk_div, nI_ne0, pk_mul, nI_add, nI_1, zt_0, zt_12, zt_20, zt_26, zt_32, zf_0_0, zf_0_1, zf_0_2, zf_0_3, zf_0_4, zf_12_0, zf_12_1, zf_12_2, zf_12_4, zf_12_5, zf_20_1, zf_20_2, zf_20_3, zf_20_4, zf_20_6, zf_26_0, zf_26_1, zf_26_2, zf_26_3, zf_32_0, zf_32_1, zf_32_3, zf_32_4, zf_32_5, zf_32_6, zi_30, zi_31, n31, m1, nx, cm, le, e2], q2.mv (q2.2.1.down hin) (fun q j a b => by rw [zup_e, if_neg (by omega)])⟩
        rcases cq with ⟨rfl, cq⟩ | ⟨rfl, cq⟩ | ⟨rfl, cq⟩
        · have le : xe_cd .le (nI 1) 0 = false := by decide
          have q2 : DS M0 n c (V ++ W ++ cmps n d (l ++ [x])) B1 (l ++ [x]) _ := q1.cut (fun v hv => by
            obtain ⟨a, b⟩ := cmps_mem d (l ++ [x]) v hl2 (by rw [len]; omega) hv
            exact cq v a b)
          exact ⟨none, _, _, by simp (disch := omega) [zs_Renamings_giveNames_1, zmeth, xm_en, zret, zretz, zretv, zseq, zst, zinc, zkl, zskip, zk, zi, za, zbin, zdiv, zrem, zgi, zgr, zld, zldr, zlen, zn, zc, zcall, zcallv, zrcv, zdo, zdov, zpf, zpfc, zas, zasc, zmin, zmax, zcmp, zcz, zand_e, zor_e, zite_e, zbite_e, zif_e, znot_e, z_add, z_sub, z_mul, z_and, z_or, z_xor, z_shl, z_shr, zcpy, -List.getElem?_cons_succ, zg_0, zg_1, zg_2, zg_3, zg_4, zg_5, zg_6, zg_7, zg_8, zg_9, zc_lt, zc_le, zc_gt, zc_ge, zc_eq, zc_ne, zc_lt0, zc_ge0, zc_gt0, zc_eq0, zc_ne0, zb_ne, zb_eq, zb_01, z_00, z_01, z_11, zb_f, zb_T, zb_F, zbm1, zbm2, zbm5, zbm6, zbm3, zbm4, nI_clamp, zmod_n, pk_div, nI_ne0, pk_mul, nI_add, nI_1, zt_0, zt_12, zt_20, zt_26, zt_32, zf_0_0, zf_0_1, zf_0_2, zf_0_3, zf_0_4, zf_12_0, zf_12_1, zf_12_2, zf_12_4, zf_12_5, zf_20_1, zf_20_2, zf_20_3, zf_20_4, zf_20_6, zf_26_0, zf_26_1, zf_26_2, zf_26_3, zf_32_0, zf_32_1, zf_32_3, zf_32_4, zf_32_5, zf_32_6, zi_30, zi_31, n31, m1, nx, cm, le]; rfl, rfl, B1, by rw [rs, ← List.append_assoc]; exact q2.mv (q2.2.1.down hin) (fun q j a b => by rw [zup_e, if_neg (by omega)])⟩
        · obtain ⟨M2, B2, a, b⟩ := go (-1) (by decide) cm (fun z y => tl_as y (cq _ (hl2.full z) ⟨[], (List.append_nil _).symm⟩))
          exact ⟨none, _, M2, a, rfl, B2, by rw [rs, ← List.append_assoc]; exact b⟩
        · obtain ⟨M2, B2, a, b⟩ := go (nI 0) (by decide) cm (fun z y => tl_ne y (cq z).symm)
          exact ⟨none, _, M2, a, rfl, B2, by rw [rs, ← List.append_assoc]; exact b⟩) [some (Value.ref (26)), some (Value.ref (k)), some (Value.int (nI l.length)), some (Value.int (nI 1))] M ⟨rfl, B, by
      have : (List.range 1).flatMap (fun y => if y ∈ l then [] else cmps n d (l ++ [y])) = [] := by
        show (if 0 ∈ l then [] else cmps n d (l ++ [0])) ++ [] = []
        rw [if_pos hl.mem0]
        rfl
      rw [this, List.append_nil]
      exact h⟩
    have kt := h.kt hk2 ht
    refine ⟨B', M', ?_, w2⟩
    rw [giveNames_S]
    simp (disch := omega) [zmeth, xm_en, zret, zretz, zretv, zseq, zst, zinc, zkl, zskip, zk, zi, za, zbin, zdiv, zrem, zgi, zgr, zld, zldr, zlen, zn, zc, zcall, zcallv, zrcv, zdo, zdov, zpf, zpfc, zas, zasc, zmin, zmax, zcmp, zcz, zand_e, zor_e, zite_e, zbite_e, zif_e, znot_e, z_add, z_sub, z_mul, z_and, z_or, z_xor, z_shl, z_shr, zcpy, -List.getElem?_cons_succ, zg_0, zg_1, zg_2, zg_3, zg_4, zg_5, zg_6, zg_7, zg_8, zg_9, zt_0, zt_12, zt_20, zt_26, zt_32, zf_0_0, zf_0_1, zf_0_2, zf_0_3, zf_0_4, zf_12_0, zf_12_1, zf_12_2, zf_12_4, zf_12_5, zf_20_1, zf_20_2, zf_20_3, zf_20_4, zf_20_6, zf_26_0, zf_26_1, zf_26_2, zf_26_3, zf_32_0, zf_32_1, zf_32_3, zf_32_4, zf_32_5, zf_32_6, zc_lt, zc_le, zc_gt, zc_ge, zc_eq, zc_ne, zc_lt0, zc_ge0, zc_gt0, zc_eq0, zc_ne0, zb_ne, zb_eq, zb_01, z_00, z_01, z_11, zb_f, zb_T, zb_F, zbm1, zbm2, zbm5, zbm6, zbm3, zbm4, nI_clamp, zmod_n, pk_div, nI_ne0, pk_mul, nI_add, nI_1, ztb_tag hk, kt.1, hln, hl8, w1]
