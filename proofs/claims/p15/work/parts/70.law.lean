/-! law: the cases that break it -/
def lwY (n w : Nat) : Nat := if 1 < lwL w then n else 1
def lwZ (n w : Nat) : Nat := if 2 < lwL w then n else 1
def bk3 (n : Nat) (c : tC) (w x y z : Nat) : List Nat := bif lwB n c w x y z then [] else [n * n * x + n * y + z]
def bk2 (n : Nat) (c : tC) (w x y : Nat) : List Nat := segs (bk3 n c w x y) 0 (lwZ n w)
def bk1 (n : Nat) (c : tC) (w x : Nat) : List Nat := segs (bk2 n c w x) 0 (lwY n w)
def bk (n : Nat) (c : tC) (w : Nat) : List Nat := segs (bk1 n c w) 0 n
theorem lwY_le {n w : Nat} (h : 1 ≤ n) : lwY n w ≤ n := by unfold lwY; split <;> omega
theorem lwZ_le {n w : Nat} (h : 1 ≤ n) : lwZ n w ≤ n := by unfold lwZ; split <;> omega
theorem bk3_len (n : Nat) (c : tC) (w x y z : Nat) : (bk3 n c w x y z).length ≤ 1 := by unfold bk3; cases lwB n c w x y z <;> simp
theorem bk2_len {n : Nat} (h1 : 1 ≤ n) (h8 : n ≤ 8) (c : tC) (w x y : Nat) : (bk2 n c w x y).length ≤ 8 := by
  have := segs_len (g := bk3 n c w x y) (b := 1) (lwZ n w) 0 (fun j => bk3_len n c w x y j)
  have := lwZ_le (w := w) h1
  unfold bk2
  omega
theorem bk1_len {n : Nat} (h1 : 1 ≤ n) (h8 : n ≤ 8) (c : tC) (w x : Nat) : (bk1 n c w x).length ≤ 64 := by
  have := segs_len (g := bk2 n c w x) (b := 8) (lwY n w) 0 (fun j => bk2_len h1 h8 c w x j)
  have := lwY_le (w := w) h1
  unfold bk1
  omega
theorem bk_len {n : Nat} (h1 : 1 ≤ n) (h8 : n ≤ 8) (c : tC) (w : Nat) : (bk n c w).length ≤ 512 := by
  have := segs_len (g := bk1 n c w) (b := 64) n 0 (fun j => bk1_len h1 h8 c w j)
  unfold bk
  omega
theorem nI3 (n x y z : Nat) : nI n * nI n * nI x + nI n * nI y + nI z = nI (n * n * x + n * y + z) := by simp only [pk_mul, nI_add]
/-- first: I is 0, nothing is counted; how many: I is -1 -/
def md (s : Bool) : Int := bif s then 0 else -1
def mP (s : Bool) (m : Nat) : Prop := s = true → m = 0
theorem mP_ok {s : Bool} (m : Nat) (seg : List Nat) (h : mP s m) (hh : hit (md s) m seg = none) : mP s (m + seg.length) := by
  intro hs
  subst hs
  have h0 := h rfl
  subst h0
  unfold hit md at hh
  split at hh
  · cases hh
  · rename_i g
    simp only [cond_true] at g
    omega
theorem qW_look3 {M : zM} {k n w x y : Nat} {c : tC} {s : Bool} {l1 l2 : Int32} (hk : ztb k) (h : kT M k n c) (ho : tO n c) (hf : tF n c) (hw : w < 13) (hx : x < n) (hy : y < n) (many : Nat) (hp : mP s many) (hm : many + (bk2 n c w x y).length ≤ 5000) : zsg (zwh zc_Laws_look_3 zs_Laws_look_3) [some (Value.ref (k)), some (Value.int (nI w)), some (Value.int (zb s)), some (Value.int (nI n)), some (Value.int (l1)), some (Value.int (l2)), some (Value.int (nI (lwZ n w))), some (Value.int (nI many)), some (Value.int (nI x)), some (Value.int (nI y)), some (Value.int (nI 0))] M (md s) many (bk2 n c w x y) (fun m => [some (Value.ref (k)), some (Value.int (nI w)), some (Value.int (zb s)), some (Value.int (nI n)), some (Value.int (l1)), some (Value.int (l2)), some (Value.int (nI (lwZ n w))), some (Value.int (nI m)), some (Value.int (nI x)), some (Value.int (nI y)), some (Value.int (nI (lwZ n w)))]) := by
  have h8 := ho.1.2
  have zl := lwZ_le (w := w) ho.1.1
  refine zwh_seg (K := 5000) (mP s) mP_ok (fun j m => [some (Value.ref (k)), some (Value.int (nI w)), some (Value.int (zb s)), some (Value.int (nI n)), some (Value.int (l1)), some (Value.int (l2)), some (Value.int (nI (lwZ n w))), some (Value.int (nI m)), some (Value.int (nI x)), some (Value.int (nI y)), some (Value.int (nI j))]) (bk3 n c w x y) (n := lwZ n w) ?_ (lwZ n w) 0 (by omega) ?_ ?_ many hp hm
  · intro m _ _
    simp (disch := omega) [zc_Laws_look_3, zmeth, xm_en, zret, zretz, zretv, zseq, zst, zinc, zkl, zskip, zk, zi, za, zbin, zdiv, zrem, zgi, zgr, zld, zldr, zlen, zn, zc, zcall, zcallv, zrcv, zdo, zdov, zpf, zpfc, zas, zasc, zmin, zmax, zcmp, zcz, zand_e, zor_e, zite_e, zbite_e, zif_e, znot_e, z_add, z_sub, z_mul, z_and, z_or, z_xor, z_shl, z_shr, zcpy, -List.getElem?_cons_succ, zg_0, zg_1, zg_2, zg_3, zg_4, zg_5, zg_6, zg_7, zg_8, zg_9, zc_lt, zc_le, zc_gt, zc_ge, zc_eq, zc_ne, zc_lt0, zc_ge0, zc_gt0, zc_eq0, zc_ne0, zb_ne, zb_eq, zb_01, z_00, z_01, z_11, zb_f, zb_T, zb_F, zbm1, zbm2, zbm5, zbm6, zbm3, zbm4, nI_clamp, zmod_n, pk_div, nI_ne0, pk_mul, nI_add, nI_1, zg_10]
  · intro j m _ h2 _ _
    simp (disch := omega) [zc_Laws_look_3, zmeth, xm_en, zret, zretz, zretv, zseq, zst, zinc, zkl, zskip, zk, zi, za, zbin, zdiv, zrem, zgi, zgr, zld, zldr, zlen, zn, zc, zcall, zcallv, zrcv, zdo, zdov, zpf, zpfc, zas, zasc, zmin, zmax, zcmp, zcz, zand_e, zor_e, zite_e, zbite_e, zif_e, znot_e, z_add, z_sub, z_mul, z_and, z_or, z_xor, z_shl, z_shr, zcpy, -List.getElem?_cons_succ, zg_0, zg_1, zg_2, zg_3, zg_4, zg_5, zg_6, zg_7, zg_8, zg_9, zc_lt, zc_le, zc_gt, zc_ge, zc_eq, zc_ne, zc_lt0, zc_ge0, zc_gt0, zc_eq0, zc_ne0, zb_ne, zb_eq, zb_01, z_00, z_01, z_11, zb_f, zb_T, zb_F, zbm1, zbm2, zbm5, zbm6, zbm3, zbm4, nI_clamp, zmod_n, pk_div, nI_ne0, pk_mul, nI_add, nI_1, zg_10, h2]
  · intro j m _ h2 hpm hK
    have g := qW_c (M := M) (z := j) hk h ho hf hx hy (by omega) hw
    unfold bk3
    cases hq : lwB n c w x y j with
    | true =>
      rw [hq] at g
      refine ⟨fun v hv => (by rw [cond_true, hit_nil] at hv; cases hv), fun _ => ?_⟩
      simp (disch := omega) [zs_Laws_look_3, zmeth, xm_en, zret, zretz, zretv, zseq, zst, zinc, zkl, zskip, zk, zi, za, zbin, zdiv, zrem, zgi, zgr, zld, zldr, zlen, zn, zc, zcall, zcallv, zrcv, zdo, zdov, zpf, zpfc, zas, zasc, zmin, zmax, zcmp, zcz, zand_e, zor_e, zite_e, zbite_e, zif_e, znot_e, z_add, z_sub, z_mul, z_and, z_or, z_xor, z_shl, z_shr, zcpy, -List.getElem?_cons_succ, zg_0, zg_1, zg_2, zg_3, zg_4, zg_5, zg_6, zg_7, zg_8, zg_9, zg_10, g, zb_ne, nI_1]
    | false =>
      rw [hq] at g
      rw [cond_false]
      cases s with
      | true =>
        have m0 := hpm rfl
        subst m0
        refine ⟨fun v hv => ?_, fun hn => ?_⟩
        · rw [hit_1, if_pos (show ((0 : Nat) : Int) = md true from rfl)] at hv
          cases hv
          refine ⟨[some (Value.ref (k)), some (Value.int (nI w)), some (Value.int (zb true)), some (Value.int (nI n)), some (Value.int (l1)), some (Value.int (l2)), some (Value.int (nI (lwZ n w))), some (Value.int (nI 0)), some (Value.int (nI x)), some (Value.int (nI y)), some (Value.int (nI j))], ?_⟩
          simp (disch := omega) [zs_Laws_look_3, zmeth, xm_en, zret, zretz, zretv, zseq, zst, zinc, zkl, zskip, zk, zi, za, zbin, zdiv, zrem, zgi, zgr, zld, zldr, zlen, zn, zc, zcall, zcallv, zrcv, zdo, zdov, zpf, zpfc, zas, zasc, zmin, zmax, zcmp, zcz, zand_e, zor_e, zite_e, zbite_e, zif_e, znot_e, z_add, z_sub, z_mul, z_and, z_or, z_xor, z_shl, z_shr, zcpy, -List.getElem?_cons_succ, zg_0, zg_1, zg_2, zg_3, zg_4, zg_5, zg_6, zg_7, zg_8, zg_9, zg_10, g, zb_ne, nI3]
        · rw [hit_1, if_pos (show ((0 : Nat) : Int) = md true from rfl)] at hn
          cases hn
      | false =>
        refine ⟨fun v hv => (by rw [show md false = -1 from rfl, hit_neg] at hv; cases hv), fun _ => ?_⟩
        simp (disch := omega) [zs_Laws_look_3, zmeth, xm_en, zret, zretz, zretv, zseq, zst, zinc, zkl, zskip, zk, zi, za, zbin, zdiv, zrem, zgi, zgr, zld, zldr, zlen, zn, zc, zcall, zcallv, zrcv, zdo, zdov, zpf, zpfc, zas, zasc, zmin, zmax, zcmp, zcz, zand_e, zor_e, zite_e, zbite_e, zif_e, znot_e, z_add, z_sub, z_mul, z_and, z_or, z_xor, z_shl, z_shr, zcpy, -List.getElem?_cons_succ, zg_0, zg_1, zg_2, zg_3, zg_4, zg_5, zg_6, zg_7, zg_8, zg_9, zg_10, g, zb_ne, nI_1]
theorem qW_look {M : zM} {k n w : Nat} {c : tC} {s : Bool} (hk : ztb k) (h : kT M k n c) (ho : tO n c) (hf : tF n c) (hw : w < 13) : zf_Laws_look [.ref k, .int (nI w), .int (zb s)] M = some (some (bif s then (match (bk n c w)[0]? with
    | some v => nI v
    | none => -4) else nI (bk n c w).length), M) := by
  have h8 := ho.1.2
  have h1 := ho.1.1
  have yl := lwY_le (w := w) h1
  have R2 : ∀ x many, x < n → mP s many → many + (bk1 n c w x).length ≤ 5000 → zsg (zwh zc_Laws_look_2 zs_Laws_look_2) [some (Value.ref (k)), some (Value.int (nI w)), some (Value.int (zb s)), some (Value.int (nI n)), some (Value.int (nI (lwL w))), some (Value.int (nI (lwY n w))), some (Value.int (nI (lwZ n w))), some (Value.int (nI many)), some (Value.int (nI x)), some (Value.int (nI 0)), none] M (md s) many (bk1 n c w x) (fun m => [some (Value.ref (k)), some (Value.int (nI w)), some (Value.int (zb s)), some (Value.int (nI n)), some (Value.int (nI (lwL w))), some (Value.int (nI (lwY n w))), some (Value.int (nI (lwZ n w))), some (Value.int (nI m)), some (Value.int (nI x)), some (Value.int (nI (lwY n w))), none]) := by
    intro x many hx hp hm
    refine zwh_seg (K := 5000) (mP s) mP_ok (fun j m => [some (Value.ref (k)), some (Value.int (nI w)), some (Value.int (zb s)), some (Value.int (nI n)), some (Value.int (nI (lwL w))), some (Value.int (nI (lwY n w))), some (Value.int (nI (lwZ n w))), some (Value.int (nI m)), some (Value.int (nI x)), some (Value.int (nI j)), none]) (bk2 n c w x) (n := lwY n w) ?_ (lwY n w) 0 (by omega) ?_ ?_ many hp hm
    · intro m _ _
      simp (disch := omega) [zc_Laws_look_2, zmeth, xm_en, zret, zretz, zretv, zseq, zst, zinc, zkl, zskip, zk, zi, za, zbin, zdiv, zrem, zgi, zgr, zld, zldr, zlen, zn, zc, zcall, zcallv, zrcv, zdo, zdov, zpf, zpfc, zas, zasc, zmin, zmax, zcmp, zcz, zand_e, zor_e, zite_e, zbite_e, zif_e, znot_e, z_add, z_sub, z_mul, z_and, z_or, z_xor, z_shl, z_shr, zcpy, -List.getElem?_cons_succ, zg_0, zg_1, zg_2, zg_3, zg_4, zg_5, zg_6, zg_7, zg_8, zg_9, zc_lt, zc_le, zc_gt, zc_ge, zc_eq, zc_ne, zc_lt0, zc_ge0, zc_gt0, zc_eq0, zc_ne0, zb_ne, zb_eq, zb_01, z_00, z_01, z_11, zb_f, zb_T, zb_F, zbm1, zbm2, zbm5, zbm6, zbm3, zbm4, nI_clamp, zmod_n, pk_div, nI_ne0, pk_mul, nI_add, nI_1]
    · intro j m _ h2 _ _
      simp (disch := omega) [zc_Laws_look_2, zmeth, xm_en, zret, zretz, zretv, zseq, zst, zinc, zkl, zskip, zk, zi, za, zbin, zdiv, zrem, zgi, zgr, zld, zldr, zlen, zn, zc, zcall, zcallv, zrcv, zdo, zdov, zpf, zpfc, zas, zasc, zmin, zmax, zcmp, zcz, zand_e, zor_e, zite_e, zbite_e, zif_e, znot_e, z_add, z_sub, z_mul, z_and, z_or, z_xor, z_shl, z_shr, zcpy, -List.getElem?_cons_succ, zg_0, zg_1, zg_2, zg_3, zg_4, zg_5, zg_6, zg_7, zg_8, zg_9, zc_lt, zc_le, zc_gt, zc_ge, zc_eq, zc_ne, zc_lt0, zc_ge0, zc_gt0, zc_eq0, zc_ne0, zb_ne, zb_eq, zb_01, z_00, z_01, z_11, zb_f, zb_T, zb_F, zbm1, zbm2, zbm5, zbm6, zbm3, zbm4, nI_clamp, zmod_n, pk_div, nI_ne0, pk_mul, nI_add, nI_1, h2]
    · intro j m _ h2 hpm hK
      exact zsg_inc (zsg_kl (v := .int (nI 0)) rfl (Nat.le_of_ble_eq_true rfl) rfl (qW_look3 hk h ho hf hw hx (by omega) m hpm hK) (fun m => rfl)) (fun m => rfl) (fun m => rfl)
  have R : zsg (zwh zc_Laws_look_1 zs_Laws_look_1) [some (Value.ref (k)), some (Value.int (nI w)), some (Value.int (zb s)), some (Value.int (nI n)), some (Value.int (nI (lwL w))), some (Value.int (nI (lwY n w))), some (Value.int (nI (lwZ n w))), some (Value.int (nI 0)), some (Value.int (nI 0)), none, none] M (md s) 0 (bk n c w) (fun m => [some (Value.ref (k)), some (Value.int (nI w)), some (Value.int (zb s)), some (Value.int (nI n)), some (Value.int (nI (lwL w))), some (Value.int (nI (lwY n w))), some (Value.int (nI (lwZ n w))), some (Value.int (nI m)), some (Value.int (nI n)), none, none]) := by
    refine zwh_seg (K := 5000) (mP s) mP_ok (fun j m => [some (Value.ref (k)), some (Value.int (nI w)), some (Value.int (zb s)), some (Value.int (nI n)), some (Value.int (nI (lwL w))), some (Value.int (nI (lwY n w))), some (Value.int (nI (lwZ n w))), some (Value.int (nI m)), some (Value.int (nI j)), none, none]) (bk1 n c w) (n := n) ?_ n 0 (by omega) ?_ ?_ 0 (fun _ => rfl) (by have := bk_len h1 h8 c w; unfold bk at this; omega)
    · intro m _ _
      simp (disch := omega) [zc_Laws_look_1, zmeth, xm_en, zret, zretz, zretv, zseq, zst, zinc, zkl, zskip, zk, zi, za, zbin, zdiv, zrem, zgi, zgr, zld, zldr, zlen, zn, zc, zcall, zcallv, zrcv, zdo, zdov, zpf, zpfc, zas, zasc, zmin, zmax, zcmp, zcz, zand_e, zor_e, zite_e, zbite_e, zif_e, znot_e, z_add, z_sub, z_mul, z_and, z_or, z_xor, z_shl, z_shr, zcpy, -List.getElem?_cons_succ, zg_0, zg_1, zg_2, zg_3, zg_4, zg_5, zg_6, zg_7, zg_8, zg_9, zc_lt, zc_le, zc_gt, zc_ge, zc_eq, zc_ne, zc_lt0, zc_ge0, zc_gt0, zc_eq0, zc_ne0, zb_ne, zb_eq, zb_01, z_00, z_01, z_11, zb_f, zb_T, zb_F, zbm1, zbm2, zbm5, zbm6, zbm3, zbm4, nI_clamp, zmod_n, pk_div, nI_ne0, pk_mul, nI_add, nI_1]
    · intro j m _ h2 _ _
      simp (disch := omega) [zc_Laws_look_1, zmeth, xm_en, zret, zretz, zretv, zseq, zst, zinc, zkl, zskip, zk, zi, za, zbin, zdiv, zrem, zgi, zgr, zld, zldr, zlen, zn, zc, zcall, zcallv, zrcv, zdo, zdov, zpf, zpfc, zas, zasc, zmin, zmax, zcmp, zcz, zand_e, zor_e, zite_e, zbite_e, zif_e, znot_e, z_add, z_sub, z_mul, z_and, z_or, z_xor, z_shl, z_shr, zcpy, -List.getElem?_cons_succ, zg_0, zg_1, zg_2, zg_3, zg_4, zg_5, zg_6, zg_7, zg_8, zg_9, zc_lt, zc_le, zc_gt, zc_ge, zc_eq, zc_ne, zc_lt0, zc_ge0, zc_gt0, zc_eq0, zc_ne0, zb_ne, zb_eq, zb_01, z_00, z_01, z_11, zb_f, zb_T, zb_F, zbm1, zbm2, zbm5, zbm6, zbm3, zbm4, nI_clamp, zmod_n, pk_div, nI_ne0, pk_mul, nI_add, nI_1, h2]
    · intro j m _ h2 hpm hK
      exact zsg_inc (zsg_kl (v := .int (nI 0)) rfl (Nat.le_of_ble_eq_true rfl) rfl (R2 j m h2 hpm hK) (fun m => rfl)) (fun m => rfl) (fun m => rfl)
  have lc := qW_lc (M := M) hw
  have lb : lwL w ≤ 3 := by
    match w, hw with
    | 0, _ => decide
    | 1, _ => decide
    | 2, _ => decide
    | 3, _ => decide
    | 4, _ => decide
    | 5, _ => decide
    | 6, _ => decide
    | 7, _ => decide
    | 8, _ => decide
    | 9, _ => decide
    | 10, _ => decide
    | 11, _ => decide
    | 12, _ => decide
  have ey : (bif decide (1 < lwL w) then nI n else nI 1) = nI (lwY n w) := by
    unfold lwY
    by_cases q : 1 < lwL w
    · rw [decide_eq_true q, if_pos q]; rfl
    · rw [decide_eq_false q, if_neg q]; rfl
  have ez : (bif decide (2 < lwL w) then nI n else nI 1) = nI (lwZ n w) := by
    unfold lwZ
    by_cases q : 2 < lwL w
    · rw [decide_eq_true q, if_pos q]; rfl
    · rw [decide_eq_false q, if_neg q]; rfl
  cases s with
  | false =>
    have g := R.2 hit_neg
    rw [Nat.zero_add] at g
    simp (disch := omega) [zf_Laws_look, zmeth, xm_en, zret, zretz, zretv, zseq, zst, zinc, zkl, zskip, zk, zi, za, zbin, zdiv, zrem, zgi, zgr, zld, zldr, zlen, zn, zc, zcall, zcallv, zrcv, zdo, zdov, zpf, zpfc, zas, zasc, zmin, zmax, zcmp, zcz, zand_e, zor_e, zite_e, zbite_e, zif_e, znot_e, z_add, z_sub, z_mul, z_and, z_or, z_xor, z_shl, z_shr, zcpy, -List.getElem?_cons_succ, zg_0, zg_1, zg_2, zg_3, zg_4, zg_5, zg_6, zg_7, zg_8, zg_9, ztb_tag hk, h.1, lc, zc_gt, zbm3, zbm4, ey, ez, g, zb_ne]
  | true =>
    cases hb : (bk n c w)[0]? with
    | none =>
      have hn : bk n c w = [] := by simpa using hb
      have g := R.2 (by rw [hn]; exact hit_nil _ _)
      simp (disch := omega) [zf_Laws_look, zmeth, xm_en, zret, zretz, zretv, zseq, zst, zinc, zkl, zskip, zk, zi, za, zbin, zdiv, zrem, zgi, zgr, zld, zldr, zlen, zn, zc, zcall, zcallv, zrcv, zdo, zdov, zpf, zpfc, zas, zasc, zmin, zmax, zcmp, zcz, zand_e, zor_e, zite_e, zbite_e, zif_e, znot_e, z_add, z_sub, z_mul, z_and, z_or, z_xor, z_shl, z_shr, zcpy, -List.getElem?_cons_succ, zg_0, zg_1, zg_2, zg_3, zg_4, zg_5, zg_6, zg_7, zg_8, zg_9, ztb_tag hk, h.1, lc, zc_gt, zbm3, zbm4, ey, ez, g, zb_ne]
    | some v =>
      have hh : hit (md true) 0 (bk n c w) = some v := by
        have hl : 0 < (bk n c w).length := by
          rcases Nat.eq_zero_or_pos (bk n c w).length with q | q
          · rw [List.eq_nil_of_length_eq_zero q] at hb; cases hb
          · exact q
        unfold hit md
        rw [if_pos (by simp only [cond_true]; omega)]
        show some ((bk n c w).getD 0 0) = _
        rw [List.getD_eq_getElem?_getD, hb]
        rfl
      obtain ⟨ls', g⟩ := R.1 v hh
      simp (disch := omega) [zf_Laws_look, zmeth, xm_en, zret, zretz, zretv, zseq, zst, zinc, zkl, zskip, zk, zi, za, zbin, zdiv, zrem, zgi, zgr, zld, zldr, zlen, zn, zc, zcall, zcallv, zrcv, zdo, zdov, zpf, zpfc, zas, zasc, zmin, zmax, zcmp, zcz, zand_e, zor_e, zite_e, zbite_e, zif_e, znot_e, z_add, z_sub, z_mul, z_and, z_or, z_xor, z_shl, z_shr, zcpy, -List.getElem?_cons_succ, zg_0, zg_1, zg_2, zg_3, zg_4, zg_5, zg_6, zg_7, zg_8, zg_9, ztb_tag hk, h.1, lc, zc_gt, zbm3, zbm4, ey, ez, g]
