/-! parts: closed sets -/
def zun (f : Nat → Nat) : Nat → Nat
  | 0 => 0
  | n + 1 => zun f n ||| f n
theorem zun_t {f : Nat → Nat} {v : Nat} : ∀ {n : Nat}, (zun f n).testBit v = zany (fun i => (f i).testBit v) n
  | 0 => by simp [zun, zany]
  | n + 1 => by
    unfold zun zany
    rw [Nat.testBit_or, zun_t]
theorem zun_lt {f : Nat → Nat} {m : Nat} : ∀ {n : Nat}, (∀ i, i < n → f i < 2 ^ m) → zun f n < 2 ^ m
  | 0, _ => by unfold zun; exact Nat.two_pow_pos m
  | n + 1, h => by
    unfold zun
    exact Nat.or_lt_two_pow (zun_lt (fun i hi => h i (by omega))) (h n (by omega))
/-! quotients -/
def tun (n : Nat) (c : tC) (a b : Nat) : Nat := zidx (fun y => decide (c a y = b)) 0 n
def tov (n : Nat) (c : tC) (b a : Nat) : Nat := zidx (fun x => decide (c x a = b)) 0 n
theorem tun_ok {n a b : Nat} {c : tC} (h : tO n c) (hf : tF n c) (ha : a < n) (hb : b < n) : tun n c a b < n ∧ c a (tun n c a b) = b := by
  have h8 := h.1.2
  obtain ⟨i, hi, e⟩ := zpig n (fun y => c a y) (fun i hi => hf a i ha hi) (fun i j hi hj g => h.2.2.2.1 a i j ha hi hj g (by have := hf a i ha hi; omega)) b hb
  have h1 : tun n c a b < n := by
    rcases Nat.lt_or_ge (tun n c a b) n with g | g
    · exact g
    · have := zidx_no (p := fun y => decide (c a y = b)) n 0 i (by omega) (by unfold tun at g; omega)
      simp [e] at this
  refine ⟨h1, ?_⟩
  have := zidx_lt (p := fun y => decide (c a y = b)) n 0 (by unfold tun at h1; omega)
  unfold tun
  simpa using this
theorem tov_ok {n a b : Nat} {c : tC} (h : tO n c) (hf : tF n c) (ha : a < n) (hb : b < n) : tov n c b a < n ∧ c (tov n c b a) a = b := by
  have h8 := h.1.2
  obtain ⟨i, hi, e⟩ := zpig n (fun x => c x a) (fun i hi => hf i a hi ha) (fun i j hi hj g => h.2.2.2.2 i j a hi hj ha g (by have := hf i a hi ha; omega)) b hb
  have h1 : tov n c b a < n := by
    rcases Nat.lt_or_ge (tov n c b a) n with g | g
    · exact g
    · have := zidx_no (p := fun x => decide (c x a = b)) n 0 i (by omega) (by unfold tov at g; omega)
      simp [e] at this
  refine ⟨h1, ?_⟩
  have := zidx_lt (p := fun x => decide (c x a = b)) n 0 (by unfold tov at h1; omega)
  unfold tov
  simpa using this
/-! the class: products of a set -/
def wPf (n : Nat) (c : tC) (s a : Nat) : Nat := bif s.testBit a then tL n c a s else 0
def wP (n : Nat) (c : tC) (s : Nat) : Nat := s ||| zun (wPf n c s) n
theorem wPf_lt {n s a : Nat} {c : tC} (hf : tF n c) (ha : a < n) : wPf n c s a < 2 ^ n := by
  unfold wPf
  cases s.testBit a with
  | false => exact Nat.two_pow_pos n
  | true => exact tL_lt hf ha
theorem wP_lt {n s : Nat} {c : tC} (hf : tF n c) (hs : s < 2 ^ n) : wP n c s < 2 ^ n := Nat.or_lt_two_pow hs (zun_lt (fun i hi => wPf_lt hf hi))
theorem qP_withProducts {M : zM} {k n s : Nat} {c : tC} (hk : ztb k) (h : kT M k n c) (h8 : n ≤ 8) (hf : tF n c) (hs : s < 2 ^ n) : zf_Parts_withProducts [.ref k, .int (nI s)] M = some (some (nI (wP n c s)), M) := by
  have hp := p8 h8
  have R := zwh_up (c := zc_Parts_withProducts_1) (s := zs_Parts_withProducts_1) (fun j => [some (Value.ref (k)), some (Value.int (nI s)), some (Value.int (nI (s ||| zun (wPf n c s) j))), some (Value.int (nI j))]) (fun _ => M) (n := n) n 0 (by omega) ?_ ?_ ?_
  · have e0 : s ||| zun (wPf n c s) 0 = s := by simp [zun]
    rw [e0] at R
    simp (disch := omega) [zf_Parts_withProducts, zmeth, xm_en, zret, zretz, zretv, zseq, zst, zinc, zkl, zskip, zk, zi, za, zbin, zdiv, zrem, zgi, zgr, zld, zldr, zlen, zn, zc, zcall, zcallv, zrcv, zdo, zdov, zpf, zpfc, zas, zasc, zmin, zmax, zcmp, zcz, zand_e, zor_e, zite_e, zbite_e, zif_e, znot_e, z_add, z_sub, z_mul, z_and, z_or, z_xor, z_shl, z_shr, zcpy, -List.getElem?_cons_succ, zg_0, zg_1, zg_2, zg_3, zg_4, zg_5, zg_6, zg_7, zg_8, zg_9, R, wP]
  · intro j _ h2
    simp (disch := omega) [zc_Parts_withProducts_1, zmeth, xm_en, zret, zretz, zretv, zseq, zst, zinc, zkl, zskip, zk, zi, za, zbin, zdiv, zrem, zgi, zgr, zld, zldr, zlen, zn, zc, zcall, zcallv, zrcv, zdo, zdov, zpf, zpfc, zas, zasc, zmin, zmax, zcmp, zcz, zand_e, zor_e, zite_e, zbite_e, zif_e, znot_e, z_add, z_sub, z_mul, z_and, z_or, z_xor, z_shl, z_shr, zcpy, -List.getElem?_cons_succ, zg_0, zg_1, zg_2, zg_3, zg_4, zg_5, zg_6, zg_7, zg_8, zg_9, zc_lt, zc_le, zc_gt, zc_ge, zc_eq, zc_ne, zc_lt0, zc_ge0, zc_gt0, zc_eq0, zc_ne0, zb_ne, zb_eq, zb_01, z_00, z_01, z_11, zb_f, zb_T, zb_F, zbm1, zbm2, zbm5, zbm6, zbm3, zbm4, nI_clamp, zmod_n, pk_div, nI_ne0, pk_mul, nI_add, nI_1, ztb_tag hk, h.1, h2]
  · intro j _ h2
    have hh := qP_has (M := M) (show s < 2 ^ 31 by omega) (show j < 32 by omega)
    have hl := qP_fromLeft (s := s) hk h h8 hf h2 (by omega)
    have e : s ||| zun (wPf n c s) (j + 1) = s ||| zun (wPf n c s) j ||| wPf n c s j := by rw [Nat.or_assoc]; rfl
    cases hb : s.testBit j with
    | false =>
      rw [hb] at hh
      simp (disch := omega) [zs_Parts_withProducts_1, zmeth, xm_en, zret, zretz, zretv, zseq, zst, zinc, zkl, zskip, zk, zi, za, zbin, zdiv, zrem, zgi, zgr, zld, zldr, zlen, zn, zc, zcall, zcallv, zrcv, zdo, zdov, zpf, zpfc, zas, zasc, zmin, zmax, zcmp, zcz, zand_e, zor_e, zite_e, zbite_e, zif_e, znot_e, z_add, z_sub, z_mul, z_and, z_or, z_xor, z_shl, z_shr, zcpy, -List.getElem?_cons_succ, zg_0, zg_1, zg_2, zg_3, zg_4, zg_5, zg_6, zg_7, zg_8, zg_9, zc_lt, zc_le, zc_gt, zc_ge, zc_eq, zc_ne, zc_lt0, zc_ge0, zc_gt0, zc_eq0, zc_ne0, zb_ne, zb_eq, zb_01, z_00, z_01, z_11, zb_f, zb_T, zb_F, zbm1, zbm2, zbm5, zbm6, zbm3, zbm4, nI_clamp, zmod_n, pk_div, nI_ne0, pk_mul, nI_add, nI_1, hh, e, wPf, hb]
    | true =>
      rw [hb] at hh
      simp (disch := omega) [zs_Parts_withProducts_1, zmeth, xm_en, zret, zretz, zretv, zseq, zst, zinc, zkl, zskip, zk, zi, za, zbin, zdiv, zrem, zgi, zgr, zld, zldr, zlen, zn, zc, zcall, zcallv, zrcv, zdo, zdov, zpf, zpfc, zas, zasc, zmin, zmax, zcmp, zcz, zand_e, zor_e, zite_e, zbite_e, zif_e, znot_e, z_add, z_sub, z_mul, z_and, z_or, z_xor, z_shl, z_shr, zcpy, -List.getElem?_cons_succ, zg_0, zg_1, zg_2, zg_3, zg_4, zg_5, zg_6, zg_7, zg_8, zg_9, zc_lt, zc_le, zc_gt, zc_ge, zc_eq, zc_ne, zc_lt0, zc_ge0, zc_gt0, zc_eq0, zc_ne0, zb_ne, zb_eq, zb_01, z_00, z_01, z_11, zb_f, zb_T, zb_F, zbm1, zbm2, zbm5, zbm6, zbm3, zbm4, nI_clamp, zmod_n, pk_div, nI_ne0, pk_mul, nI_add, nI_1, hh, hl, nI_or, e, wPf, hb]
  · simp (disch := omega) [zc_Parts_withProducts_1, zmeth, xm_en, zret, zretz, zretv, zseq, zst, zinc, zkl, zskip, zk, zi, za, zbin, zdiv, zrem, zgi, zgr, zld, zldr, zlen, zn, zc, zcall, zcallv, zrcv, zdo, zdov, zpf, zpfc, zas, zasc, zmin, zmax, zcmp, zcz, zand_e, zor_e, zite_e, zbite_e, zif_e, znot_e, z_add, z_sub, z_mul, z_and, z_or, z_xor, z_shl, z_shr, zcpy, -List.getElem?_cons_succ, zg_0, zg_1, zg_2, zg_3, zg_4, zg_5, zg_6, zg_7, zg_8, zg_9, zc_lt, zc_le, zc_gt, zc_ge, zc_eq, zc_ne, zc_lt0, zc_ge0, zc_gt0, zc_eq0, zc_ne0, zb_ne, zb_eq, zb_01, z_00, z_01, z_11, zb_f, zb_T, zb_F, zbm1, zbm2, zbm5, zbm6, zbm3, zbm4, nI_clamp, zmod_n, pk_div, nI_ne0, pk_mul, nI_add, nI_1, ztb_tag hk, h.1]
def isP (n : Nat) (c : tC) (s : Nat) : Bool := s.testBit 0 && decide (wP n c s = s)
theorem nI_and1 (s : Nat) : nI s &&& nI 1 = zb (s.testBit 0) := by
  rw [nI_and, Nat.and_one_is_mod]
  unfold zb
  rw [Nat.testBit_eq_decide_div_mod_eq]
  have h2 : s % 2 = 0 ∨ s % 2 = 1 := by omega
  simp only [Nat.pow_zero, Nat.div_one]
  rcases h2 with h2 | h2 <;> rw [h2] <;> rfl
theorem qP_isPart {M : zM} {k n s : Nat} {c : tC} (hk : ztb k) (h : kT M k n c) (h8 : n ≤ 8) (hf : tF n c) (hs : s < 2 ^ n) : zf_Parts_isPart [.ref k, .int (nI s)] M = some (some (zb (isP n c s)), M) := by
  have hp := p8 h8
  have hw := wP_lt hf hs
  have w := qP_withProducts hk h h8 hf hs
  simp (disch := omega) [zf_Parts_isPart, zmeth, xm_en, zret, zretz, zretv, zseq, zst, zinc, zkl, zskip, zk, zi, za, zbin, zdiv, zrem, zgi, zgr, zld, zldr, zlen, zn, zc, zcall, zcallv, zrcv, zdo, zdov, zpf, zpfc, zas, zasc, zmin, zmax, zcmp, zcz, zand_e, zor_e, zite_e, zbite_e, zif_e, znot_e, z_add, z_sub, z_mul, z_and, z_or, z_xor, z_shl, z_shr, zcpy, -List.getElem?_cons_succ, zg_0, zg_1, zg_2, zg_3, zg_4, zg_5, zg_6, zg_7, zg_8, zg_9, zc_lt, zc_le, zc_gt, zc_ge, zc_eq, zc_ne, zc_lt0, zc_ge0, zc_gt0, zc_eq0, zc_ne0, zb_ne, zb_eq, zb_01, z_00, z_01, z_11, zb_f, zb_T, zb_F, zbm1, zbm2, zbm5, zbm6, zbm3, zbm4, nI_clamp, zmod_n, pk_div, nI_ne0, pk_mul, nI_add, nI_1, nI_and1, w, isP]
/-! the reference: closed under products and both quotients -/
def clg (n : Nat) (c : tC) (s a b : Nat) : Nat := bif s.testBit a && s.testBit b then 2 ^ c a b ||| 2 ^ tun n c a b ||| 2 ^ tov n c b a else 0
def FS (n : Nat) (c : tC) (s : Nat) : Nat := s ||| zun (fun a => zun (clg n c s a) n) n
theorem clg_lt {n s a b : Nat} {c : tC} (h : tO n c) (hf : tF n c) (ha : a < n) (hb : b < n) : clg n c s a b < 2 ^ n := by
  unfold clg
  have p : ∀ v, v < n → 2 ^ v < 2 ^ n := fun v hv => Nat.pow_lt_pow_right (by decide) hv
  cases s.testBit a && s.testBit b with
  | false => exact Nat.two_pow_pos n
  | true => exact Nat.or_lt_two_pow (Nat.or_lt_two_pow (p _ (hf a b ha hb)) (p _ (tun_ok h hf ha hb).1)) (p _ (tov_ok h hf ha hb).1)
theorem FS_lt {n s : Nat} {c : tC} (h : tO n c) (hf : tF n c) (hs : s < 2 ^ n) : FS n c s < 2 ^ n := Nat.or_lt_two_pow hs (zun_lt (fun a ha => zun_lt (fun b hb => clg_lt h hf ha hb)))
theorem qM_cl3 {M : zM} {t n s x a : Nat} {c : tC} {y : Int32} (ht : t < 6) (h : rT M t n c) (ho : tO n c) (hf : tF n c) (ha : a < n) (hs : s < 2 ^ n) : zwh zc_M_closed_3 zs_M_closed_3 [some (Value.ref (32)), some (Value.int (nI t)), some (Value.int (y)), some (Value.int (nI x)), some (Value.int (nI s)), some (Value.int (nI a)), some (Value.int (nI 0))] M = some (none, [some (Value.ref (32)), some (Value.int (nI t)), some (Value.int (y)), some (Value.int (nI (x ||| zun (clg n c s a) n))), some (Value.int (nI s)), some (Value.int (nI a)), some (Value.int (nI n))], M) := by
  have h8 := ho.1.2
  have hp := p8 h8
  have R := zwh_up (c := zc_M_closed_3) (s := zs_M_closed_3) (fun j => [some (Value.ref (32)), some (Value.int (nI t)), some (Value.int (y)), some (Value.int (nI (x ||| zun (clg n c s a) j))), some (Value.int (nI s)), some (Value.int (nI a)), some (Value.int (nI j))]) (fun _ => M) (n := n) n 0 (by omega) ?_ ?_ ?_
  · have e0 : x ||| zun (clg n c s a) 0 = x := by simp [zun]
    rw [e0] at R
    exact R
  · intro j _ h2
    simp (disch := omega) [zc_M_closed_3, zmeth, xm_en, zret, zretz, zretv, zseq, zst, zinc, zkl, zskip, zk, zi, za, zbin, zdiv, zrem, zgi, zgr, zld, zldr, zlen, zn, zc, zcall, zcallv, zrcv, zdo, zdov, zpf, zpfc, zas, zasc, zmin, zmax, zcmp, zcz, zand_e, zor_e, zite_e, zbite_e, zif_e, znot_e, z_add, z_sub, z_mul, z_and, z_or, z_xor, z_shl, z_shr, zcpy, -List.getElem?_cons_succ, zg_0, zg_1, zg_2, zg_3, zg_4, zg_5, zg_6, zg_7, zg_8, zg_9, zc_lt, zc_le, zc_gt, zc_ge, zc_eq, zc_ne, zc_lt0, zc_ge0, zc_gt0, zc_eq0, zc_ne0, zb_ne, zb_eq, zb_01, z_00, z_01, z_11, zb_f, zb_T, zb_F, zbm1, zbm2, zbm5, zbm6, zbm3, zbm4, nI_clamp, zmod_n, pk_div, nI_ne0, pk_mul, nI_add, nI_1, zt_0, zt_12, zt_20, zt_26, zt_32, zf_0_0, zf_0_1, zf_0_2, zf_0_3, zf_0_4, zf_12_0, zf_12_1, zf_12_2, zf_12_4, zf_12_5, zf_20_1, zf_20_2, zf_20_3, zf_20_4, zf_20_6, zf_26_0, zf_26_1, zf_26_2, zf_26_3, zf_32_0, zf_32_1, zf_32_3, zf_32_4, zf_32_5, zf_32_6, zi_33, h.1, h2]
  · intro j _ h2
    have ha1 := qM_has (M := M) (show s < 2 ^ 31 by omega) (show a < 32 by omega)
    have ha2 := qM_has (M := M) (show s < 2 ^ 31 by omega) (show j < 32 by omega)
    have m := qM_mul ht h h8 hf ha h2
    have u := tun_ok ho hf ha h2
    have v := tov_ok ho hf ha h2
    have mu := qM_behind (w := j) ht h h8 ha (by omega) u.1
    have mv := qM_ahead (w := j) ht h h8 ha (by omega) v.1
    have hc := hf a j ha h2
    have e : x ||| zun (clg n c s a) (j + 1) = x ||| zun (clg n c s a) j ||| clg n c s a j := by rw [Nat.or_assoc]; rfl
    have eu : zidx (fun b => decide (c a b = j)) 0 n = tun n c a j := rfl
    have ev : zidx (fun x => decide (c x a = j)) 0 n = tov n c j a := rfl
    rw [eu] at mu
    rw [ev] at mv
    have s1 := nI_shl1 (v := c a j) (by omega)
    have s2 := nI_shl1 (v := tun n c a j) (by omega)
    have s3 := nI_shl1 (v := tov n c j a) (by omega)
    cases hb : s.testBit a && s.testBit j with
    | false =>
      simp (disch := omega) [zs_M_closed_3, zmeth, xm_en, zret, zretz, zretv, zseq, zst, zinc, zkl, zskip, zk, zi, za, zbin, zdiv, zrem, zgi, zgr, zld, zldr, zlen, zn, zc, zcall, zcallv, zrcv, zdo, zdov, zpf, zpfc, zas, zasc, zmin, zmax, zcmp, zcz, zand_e, zor_e, zite_e, zbite_e, zif_e, znot_e, z_add, z_sub, z_mul, z_and, z_or, z_xor, z_shl, z_shr, zcpy, -List.getElem?_cons_succ, zg_0, zg_1, zg_2, zg_3, zg_4, zg_5, zg_6, zg_7, zg_8, zg_9, zc_lt, zc_le, zc_gt, zc_ge, zc_eq, zc_ne, zc_lt0, zc_ge0, zc_gt0, zc_eq0, zc_ne0, zb_ne, zb_eq, zb_01, z_00, z_01, z_11, zb_f, zb_T, zb_F, zbm1, zbm2, zbm5, zbm6, zbm3, zbm4, nI_clamp, zmod_n, pk_div, nI_ne0, pk_mul, nI_add, nI_1, zt_0, zt_12, zt_20, zt_26, zt_32, zf_0_0, zf_0_1, zf_0_2, zf_0_3, zf_0_4, zf_12_0, zf_12_1, zf_12_2, zf_12_4, zf_12_5, zf_20_1, zf_20_2, zf_20_3, zf_20_4, zf_20_6, zf_26_0, zf_26_1, zf_26_2, zf_26_3, zf_32_0, zf_32_1, zf_32_3, zf_32_4, zf_32_5, zf_32_6, ha1, ha2, hb, e, clg]
    | true =>
      simp (disch := omega) [zs_M_closed_3, zmeth, xm_en, zret, zretz, zretv, zseq, zst, zinc, zkl, zskip, zk, zi, za, zbin, zdiv, zrem, zgi, zgr, zld, zldr, zlen, zn, zc, zcall, zcallv, zrcv, zdo, zdov, zpf, zpfc, zas, zasc, zmin, zmax, zcmp, zcz, zand_e, zor_e, zite_e, zbite_e, zif_e, znot_e, z_add, z_sub, z_mul, z_and, z_or, z_xor, z_shl, z_shr, zcpy, -List.getElem?_cons_succ, zg_0, zg_1, zg_2, zg_3, zg_4, zg_5, zg_6, zg_7, zg_8, zg_9, zc_lt, zc_le, zc_gt, zc_ge, zc_eq, zc_ne, zc_lt0, zc_ge0, zc_gt0, zc_eq0, zc_ne0, zb_ne, zb_eq, zb_01, z_00, z_01, z_11, zb_f, zb_T, zb_F, zbm1, zbm2, zbm5, zbm6, zbm3, zbm4, nI_clamp, zmod_n, pk_div, nI_ne0, pk_mul, nI_add, nI_1, zt_0, zt_12, zt_20, zt_26, zt_32, zf_0_0, zf_0_1, zf_0_2, zf_0_3, zf_0_4, zf_12_0, zf_12_1, zf_12_2, zf_12_4, zf_12_5, zf_20_1, zf_20_2, zf_20_3, zf_20_4, zf_20_6, zf_26_0, zf_26_1, zf_26_2, zf_26_3, zf_32_0, zf_32_1, zf_32_3, zf_32_4, zf_32_5, zf_32_6, ha1, ha2, hb, m, mu, mv, s1, s2, s3, nI_or, e, clg, Nat.or_assoc]
  · simp (disch := omega) [zc_M_closed_3, zmeth, xm_en, zret, zretz, zretv, zseq, zst, zinc, zkl, zskip, zk, zi, za, zbin, zdiv, zrem, zgi, zgr, zld, zldr, zlen, zn, zc, zcall, zcallv, zrcv, zdo, zdov, zpf, zpfc, zas, zasc, zmin, zmax, zcmp, zcz, zand_e, zor_e, zite_e, zbite_e, zif_e, znot_e, z_add, z_sub, z_mul, z_and, z_or, z_xor, z_shl, z_shr, zcpy, -List.getElem?_cons_succ, zg_0, zg_1, zg_2, zg_3, zg_4, zg_5, zg_6, zg_7, zg_8, zg_9, zc_lt, zc_le, zc_gt, zc_ge, zc_eq, zc_ne, zc_lt0, zc_ge0, zc_gt0, zc_eq0, zc_ne0, zb_ne, zb_eq, zb_01, z_00, z_01, z_11, zb_f, zb_T, zb_F, zbm1, zbm2, zbm5, zbm6, zbm3, zbm4, nI_clamp, zmod_n, pk_div, nI_ne0, pk_mul, nI_add, nI_1, zt_0, zt_12, zt_20, zt_26, zt_32, zf_0_0, zf_0_1, zf_0_2, zf_0_3, zf_0_4, zf_12_0, zf_12_1, zf_12_2, zf_12_4, zf_12_5, zf_20_1, zf_20_2, zf_20_3, zf_20_4, zf_20_6, zf_26_0, zf_26_1, zf_26_2, zf_26_3, zf_32_0, zf_32_1, zf_32_3, zf_32_4, zf_32_5, zf_32_6, zi_33, h.1]
theorem qM_cl2 {M : zM} {t n s : Nat} {c : tC} {y : Int32} (ht : t < 6) (h : rT M t n c) (ho : tO n c) (hf : tF n c) (hs : s < 2 ^ n) : zwh zc_M_closed_2 zs_M_closed_2 [some (Value.ref (32)), some (Value.int (nI t)), some (Value.int (y)), some (Value.int (nI s)), some (Value.int (nI s)), some (Value.int (nI 0)), none] M = some (none, [some (Value.ref (32)), some (Value.int (nI t)), some (Value.int (y)), some (Value.int (nI (FS n c s))), some (Value.int (nI s)), some (Value.int (nI n)), none], M) := by
  have h8 := ho.1.2
  have R := zwh_up (c := zc_M_closed_2) (s := zs_M_closed_2) (fun j => [some (Value.ref (32)), some (Value.int (nI t)), some (Value.int (y)), some (Value.int (nI (s ||| zun (fun a => zun (clg n c s a) n) j))), some (Value.int (nI s)), some (Value.int (nI j)), none]) (fun _ => M) (n := n) n 0 (by omega) ?_ ?_ ?_
  · have e0 : s ||| zun (fun a => zun (clg n c s a) n) 0 = s := by simp [zun]
    rw [e0] at R
    exact R
  · intro j _ h2
    simp (disch := omega) [zc_M_closed_2, zmeth, xm_en, zret, zretz, zretv, zseq, zst, zinc, zkl, zskip, zk, zi, za, zbin, zdiv, zrem, zgi, zgr, zld, zldr, zlen, zn, zc, zcall, zcallv, zrcv, zdo, zdov, zpf, zpfc, zas, zasc, zmin, zmax, zcmp, zcz, zand_e, zor_e, zite_e, zbite_e, zif_e, znot_e, z_add, z_sub, z_mul, z_and, z_or, z_xor, z_shl, z_shr, zcpy, -List.getElem?_cons_succ, zg_0, zg_1, zg_2, zg_3, zg_4, zg_5, zg_6, zg_7, zg_8, zg_9, zc_lt, zc_le, zc_gt, zc_ge, zc_eq, zc_ne, zc_lt0, zc_ge0, zc_gt0, zc_eq0, zc_ne0, zb_ne, zb_eq, zb_01, z_00, z_01, z_11, zb_f, zb_T, zb_F, zbm1, zbm2, zbm5, zbm6, zbm3, zbm4, nI_clamp, zmod_n, pk_div, nI_ne0, pk_mul, nI_add, nI_1, zt_0, zt_12, zt_20, zt_26, zt_32, zf_0_0, zf_0_1, zf_0_2, zf_0_3, zf_0_4, zf_12_0, zf_12_1, zf_12_2, zf_12_4, zf_12_5, zf_20_1, zf_20_2, zf_20_3, zf_20_4, zf_20_6, zf_26_0, zf_26_1, zf_26_2, zf_26_3, zf_32_0, zf_32_1, zf_32_3, zf_32_4, zf_32_5, zf_32_6, zi_33, h.1, h2]
  · intro j _ h2
    have g := qM_cl3 (x := s ||| zun (fun a => zun (clg n c s a) n) j) (y := y) ht h ho hf h2 hs
    have e : s ||| zun (fun a => zun (clg n c s a) n) (j + 1) = s ||| zun (fun a => zun (clg n c s a) n) j ||| zun (clg n c s j) n := by rw [Nat.or_assoc]; rfl
    simp (disch := omega) [zs_M_closed_2, zmeth, xm_en, zret, zretz, zretv, zseq, zst, zinc, zkl, zskip, zk, zi, za, zbin, zdiv, zrem, zgi, zgr, zld, zldr, zlen, zn, zc, zcall, zcallv, zrcv, zdo, zdov, zpf, zpfc, zas, zasc, zmin, zmax, zcmp, zcz, zand_e, zor_e, zite_e, zbite_e, zif_e, znot_e, z_add, z_sub, z_mul, z_and, z_or, z_xor, z_shl, z_shr, zcpy, -List.getElem?_cons_succ, zg_0, zg_1, zg_2, zg_3, zg_4, zg_5, zg_6, zg_7, zg_8, zg_9, zc_lt, zc_le, zc_gt, zc_ge, zc_eq, zc_ne, zc_lt0, zc_ge0, zc_gt0, zc_eq0, zc_ne0, zb_ne, zb_eq, zb_01, z_00, z_01, z_11, zb_f, zb_T, zb_F, zbm1, zbm2, zbm5, zbm6, zbm3, zbm4, nI_clamp, zmod_n, pk_div, nI_ne0, pk_mul, nI_add, nI_1, g, e]
  · simp (disch := omega) [zc_M_closed_2, zmeth, xm_en, zret, zretz, zretv, zseq, zst, zinc, zkl, zskip, zk, zi, za, zbin, zdiv, zrem, zgi, zgr, zld, zldr, zlen, zn, zc, zcall, zcallv, zrcv, zdo, zdov, zpf, zpfc, zas, zasc, zmin, zmax, zcmp, zcz, zand_e, zor_e, zite_e, zbite_e, zif_e, znot_e, z_add, z_sub, z_mul, z_and, z_or, z_xor, z_shl, z_shr, zcpy, -List.getElem?_cons_succ, zg_0, zg_1, zg_2, zg_3, zg_4, zg_5, zg_6, zg_7, zg_8, zg_9, zc_lt, zc_le, zc_gt, zc_ge, zc_eq, zc_ne, zc_lt0, zc_ge0, zc_gt0, zc_eq0, zc_ne0, zb_ne, zb_eq, zb_01, z_00, z_01, z_11, zb_f, zb_T, zb_F, zbm1, zbm2, zbm5, zbm6, zbm3, zbm4, nI_clamp, zmod_n, pk_div, nI_ne0, pk_mul, nI_add, nI_1, zt_0, zt_12, zt_20, zt_26, zt_32, zf_0_0, zf_0_1, zf_0_2, zf_0_3, zf_0_4, zf_12_0, zf_12_1, zf_12_2, zf_12_4, zf_12_5, zf_20_1, zf_20_2, zf_20_3, zf_20_4, zf_20_6, zf_26_0, zf_26_1, zf_26_2, zf_26_3, zf_32_0, zf_32_1, zf_32_3, zf_32_4, zf_32_5, zf_32_6, zi_33, h.1]
def tcl (n : Nat) (c : tC) : Nat → Nat → Nat
  | 0, s => s
  | k + 1, s => if FS n c s = s then s else tcl n c k (FS n c s)
theorem qM_cl1 {M : zM} {t n : Nat} {c : tC} {y : Int32} (ht : t < 6) (h : rT M t n c) (ho : tO n c) (hf : tF n c) : ∀ (k s w : Nat), s < 2 ^ n → w < 2 ^ n → s ≠ w → 2 ^ n ≤ s + k → zwh zc_M_closed_1 zs_M_closed_1 [some (Value.ref (32)), some (Value.int (nI t)), some (Value.int (y)), some (Value.int (nI s)), some (Value.int (nI w)), none, none] M = some (none, [some (Value.ref (32)), some (Value.int (nI t)), some (Value.int (y)), some (Value.int (nI (tcl n c k s))), some (Value.int (nI (tcl n c k s))), none, none], M) ∧ FS n c (tcl n c k s) = tcl n c k s
  | 0, s, w, hs, _, _, hk => by omega
  | k + 1, s, w, hs, hw, hne, hk => by
    have hp := p8 ho.1.2
    have hF := FS_lt ho hf hs
    have hge : s ≤ FS n c s := Nat.left_le_or
    have c1 : zc_M_closed_1 [some (Value.ref (32)), some (Value.int (nI t)), some (Value.int (y)), some (Value.int (nI s)), some (Value.int (nI w)), none, none] M = some (true, M) := by
      simp (disch := omega) [zc_M_closed_1, zmeth, xm_en, zret, zretz, zretv, zseq, zst, zinc, zkl, zskip, zk, zi, za, zbin, zdiv, zrem, zgi, zgr, zld, zldr, zlen, zn, zc, zcall, zcallv, zrcv, zdo, zdov, zpf, zpfc, zas, zasc, zmin, zmax, zcmp, zcz, zand_e, zor_e, zite_e, zbite_e, zif_e, znot_e, z_add, z_sub, z_mul, z_and, z_or, z_xor, z_shl, z_shr, zcpy, -List.getElem?_cons_succ, zg_0, zg_1, zg_2, zg_3, zg_4, zg_5, zg_6, zg_7, zg_8, zg_9, zc_lt, zc_le, zc_gt, zc_ge, zc_eq, zc_ne, zc_lt0, zc_ge0, zc_gt0, zc_eq0, zc_ne0, zb_ne, zb_eq, zb_01, z_00, z_01, z_11, zb_f, zb_T, zb_F, zbm1, zbm2, zbm5, zbm6, zbm3, zbm4, nI_clamp, zmod_n, pk_div, nI_ne0, pk_mul, nI_add, nI_1, hne]
    have s1 : zs_M_closed_1 [some (Value.ref (32)), some (Value.int (nI t)), some (Value.int (y)), some (Value.int (nI s)), some (Value.int (nI w)), none, none] M = some (none, [some (Value.ref (32)), some (Value.int (nI t)), some (Value.int (y)), some (Value.int (nI (FS n c s))), some (Value.int (nI s)), none, none], M) := by
      simp (disch := omega) [zs_M_closed_1, zmeth, xm_en, zret, zretz, zretv, zseq, zst, zinc, zkl, zskip, zk, zi, za, zbin, zdiv, zrem, zgi, zgr, zld, zldr, zlen, zn, zc, zcall, zcallv, zrcv, zdo, zdov, zpf, zpfc, zas, zasc, zmin, zmax, zcmp, zcz, zand_e, zor_e, zite_e, zbite_e, zif_e, znot_e, z_add, z_sub, z_mul, z_and, z_or, z_xor, z_shl, z_shr, zcpy, -List.getElem?_cons_succ, zg_0, zg_1, zg_2, zg_3, zg_4, zg_5, zg_6, zg_7, zg_8, zg_9, zc_lt, zc_le, zc_gt, zc_ge, zc_eq, zc_ne, zc_lt0, zc_ge0, zc_gt0, zc_eq0, zc_ne0, zb_ne, zb_eq, zb_01, z_00, z_01, z_11, zb_f, zb_T, zb_F, zbm1, zbm2, zbm5, zbm6, zbm3, zbm4, nI_clamp, zmod_n, pk_div, nI_ne0, pk_mul, nI_add, nI_1, qM_cl2 (y := y) ht h ho hf hs]
    unfold tcl
    by_cases he : FS n c s = s
    · rw [if_pos he]
      refine ⟨zwh_t c1 s1 ?_, he⟩
      rw [he]
      refine zwh_f ?_
      simp (disch := omega) [zc_M_closed_1, zmeth, xm_en, zret, zretz, zretv, zseq, zst, zinc, zkl, zskip, zk, zi, za, zbin, zdiv, zrem, zgi, zgr, zld, zldr, zlen, zn, zc, zcall, zcallv, zrcv, zdo, zdov, zpf, zpfc, zas, zasc, zmin, zmax, zcmp, zcz, zand_e, zor_e, zite_e, zbite_e, zif_e, znot_e, z_add, z_sub, z_mul, z_and, z_or, z_xor, z_shl, z_shr, zcpy, -List.getElem?_cons_succ, zg_0, zg_1, zg_2, zg_3, zg_4, zg_5, zg_6, zg_7, zg_8, zg_9, zc_lt, zc_le, zc_gt, zc_ge, zc_eq, zc_ne, zc_lt0, zc_ge0, zc_gt0, zc_eq0, zc_ne0, zb_ne, zb_eq, zb_01, z_00, z_01, z_11, zb_f, zb_T, zb_F, zbm1, zbm2, zbm5, zbm6, zbm3, zbm4, nI_clamp, zmod_n, pk_div, nI_ne0, pk_mul, nI_add, nI_1]
    · rw [if_neg he]
      obtain ⟨g1, g2⟩ := qM_cl1 (y := y) ht h ho hf k (FS n c s) s hF hs he (by omega)
      exact ⟨zwh_t c1 s1 g1, g2⟩
theorem or1_lt {n s : Nat} (h1 : 1 ≤ n) (hs : s < 2 ^ n) : s ||| 1 < 2 ^ n := Nat.or_lt_two_pow hs (Nat.one_lt_two_pow (by omega))
theorem or1_ne (s : Nat) : s ||| 1 ≠ 0 := fun h => by
  have : (s ||| 1).testBit 0 = true := by rw [Nat.testBit_or]; simp
  rw [h] at this
  simp at this
def tCl (n : Nat) (c : tC) (s : Nat) : Nat := tcl n c (2 ^ n) (s ||| 1)
theorem qM_closed {M : zM} {t n s : Nat} {c : tC} (ht : t < 6) (h : rT M t n c) (ho : tO n c) (hf : tF n c) (hs : s < 2 ^ n) : zf_M_closed [.ref 32, .int (nI t), .int (nI s)] M = some (some (nI (tCl n c s)), M) ∧ FS n c (tCl n c s) = tCl n c s := by
  obtain ⟨g1, g2⟩ := qM_cl1 (y := nI s) ht h ho hf (2 ^ n) (s ||| 1) 0 (or1_lt ho.1.1 hs) (Nat.two_pow_pos n) (or1_ne s) (by omega)
  refine ⟨?_, g2⟩
  simp (disch := omega) [zf_M_closed, zmeth, xm_en, zret, zretz, zretv, zseq, zst, zinc, zkl, zskip, zk, zi, za, zbin, zdiv, zrem, zgi, zgr, zld, zldr, zlen, zn, zc, zcall, zcallv, zrcv, zdo, zdov, zpf, zpfc, zas, zasc, zmin, zmax, zcmp, zcz, zand_e, zor_e, zite_e, zbite_e, zif_e, znot_e, z_add, z_sub, z_mul, z_and, z_or, z_xor, z_shl, z_shr, zcpy, -List.getElem?_cons_succ, zg_0, zg_1, zg_2, zg_3, zg_4, zg_5, zg_6, zg_7, zg_8, zg_9, nI_or, g1, tCl]
/-! a set is closed if its products lie in it -/
theorem FS_t {n s v : Nat} {c : tC} : (FS n c s).testBit v = true ↔ s.testBit v = true ∨ ∃ a b, a < n ∧ b < n ∧ s.testBit a = true ∧ s.testBit b = true ∧ (v = c a b ∨ v = tun n c a b ∨ v = tov n c b a) := by
  unfold FS
  rw [Nat.testBit_or, Bool.or_eq_true, zun_t, zany_t]
  refine or_congr Iff.rfl ⟨fun h => ?_, fun h => ?_⟩
  · obtain ⟨a, ha, h⟩ := h
    rw [zun_t, zany_t] at h
    obtain ⟨b, hb, h⟩ := h
    unfold clg at h
    cases hs : s.testBit a && s.testBit b with
    | false => rw [hs] at h; simp at h
    | true =>
      rw [hs] at h
      simp only [Bool.and_eq_true] at hs
      simp only [cond_true, Nat.testBit_or, Nat.testBit_two_pow, Bool.or_eq_true, decide_eq_true_eq] at h
      exact ⟨a, b, ha, hb, hs.1, hs.2, by omega⟩
  · obtain ⟨a, b, ha, hb, s1, s2, h⟩ := h
    refine ⟨a, ha, ?_⟩
    rw [zun_t, zany_t]
    refine ⟨b, hb, ?_⟩
    unfold clg
    rw [s1, s2]
    simp only [Bool.and_self, cond_true, Nat.testBit_or, Nat.testBit_two_pow, Bool.or_eq_true, decide_eq_true_eq]
    omega
theorem tL_t {n x s v : Nat} {c : tC} : (tL n c x s).testBit v = true ↔ ∃ b, b < n ∧ s.testBit b = true ∧ c x b = v := by
  unfold tL
  rw [zim_t, zany_t]
  simp only [Bool.and_eq_true, decide_eq_true_eq]
theorem tRt_t {n x s v : Nat} {c : tC} : (tRt n c s x).testBit v = true ↔ ∃ b, b < n ∧ s.testBit b = true ∧ c b x = v := by
  unfold tRt
  rw [zim_t, zany_t]
  simp only [Bool.and_eq_true, decide_eq_true_eq]
theorem wP_t {n s v : Nat} {c : tC} : (wP n c s).testBit v = true ↔ s.testBit v = true ∨ ∃ a b, a < n ∧ b < n ∧ s.testBit a = true ∧ s.testBit b = true ∧ v = c a b := by
  unfold wP
  rw [Nat.testBit_or, Bool.or_eq_true, zun_t, zany_t]
  refine or_congr Iff.rfl ⟨fun h => ?_, fun h => ?_⟩
  · obtain ⟨a, ha, h⟩ := h
    unfold wPf at h
    cases hs : s.testBit a with
    | false => rw [hs] at h; simp at h
    | true =>
      rw [hs, cond_true, tL_t] at h
      obtain ⟨b, hb, s2, e⟩ := h
      exact ⟨a, b, ha, hb, hs, s2, e.symm⟩
  · obtain ⟨a, b, ha, hb, s1, s2, h⟩ := h
    refine ⟨a, ha, ?_⟩
    unfold wPf
    rw [s1, cond_true, tL_t]
    exact ⟨b, hb, s2, h.symm⟩
theorem tb_ext {x y : Nat} (h : ∀ v, x.testBit v = true ↔ y.testBit v = true) : x = y := by
  apply Nat.eq_of_testBit_eq
  intro i
  rw [Bool.eq_iff_iff]
  exact h i
theorem wP_fix {n s : Nat} {c : tC} : wP n c s = s ↔ ∀ a b, a < n → b < n → s.testBit a = true → s.testBit b = true → s.testBit (c a b) = true := by
  constructor
  · intro h a b ha hb s1 s2
    have : (wP n c s).testBit (c a b) = true := wP_t.mpr (Or.inr ⟨a, b, ha, hb, s1, s2, rfl⟩)
    rwa [h] at this
  · intro h
    refine tb_ext (fun v => ?_)
    rw [wP_t]
    constructor
    · rintro (g | ⟨a, b, ha, hb, s1, s2, rfl⟩)
      · exact g
      · exact h a b ha hb s1 s2
    · exact Or.inl
/-- a subset of a finite set that an injection takes into itself -/
theorem zpig_s {n : Nat} {f : Nat → Nat} {s : Nat} (hf : ∀ i, i < n → f i < n) (hi : ∀ i j, i < n → j < n → f i = f j → i = j) (hs : ∀ i, i < n → s.testBit i = true → s.testBit (f i) = true) {v : Nat} (hv : v < n) (hsv : s.testBit v = true) : ∃ i, i < n ∧ s.testBit i = true ∧ f i = v := by
  obtain ⟨i, h1, h2⟩ := zpig n (fun i => if s.testBit i = true then f i else i) (fun i h => by
    try dsimp only
    split
    · exact hf i h
    · exact h) (fun i j h1 h2 g => by
    try dsimp only at g
    split at g
    · rename_i a1
      split at g
      · exact hi i j h1 h2 g
      · rename_i a2
        exact absurd (g ▸ hs i h1 a1) a2
    · rename_i a1
      split at g
      · rename_i a2
        exact absurd (g ▸ hs j h2 a2) a1
      · exact g) v hv
  try dsimp only at h2
  split at h2
  · rename_i a1
    exact ⟨i, h1, a1, h2⟩
  · rename_i a1
    rw [h2] at a1
    exact absurd hsv a1
theorem FS_fix {n s : Nat} {c : tC} (h : tO n c) (hf : tF n c) (hw : wP n c s = s) : FS n c s = s := by
  have h8 := h.1.2
  have hc := wP_fix.mp hw
  refine tb_ext (fun v => ?_)
  rw [FS_t]
  constructor
  · rintro (g | ⟨a, b, ha, hb, s1, s2, rfl | rfl | rfl⟩)
    · exact g
    · exact hc a b ha hb s1 s2
    · obtain ⟨i, hi, si, e⟩ := zpig_s (f := fun y => c a y) (fun i hi => hf a i ha hi) (fun i j hi hj g => h.2.2.2.1 a i j ha hi hj g (by have := hf a i ha hi; omega)) (fun i hi g => hc a i ha hi s1 g) hb s2
      have u := tun_ok h hf ha hb
      have : tun n c a b = i := h.2.2.2.1 a _ i ha u.1 hi (u.2.trans e.symm) (by have := u.2; omega)
      rw [this]
      exact si
    · obtain ⟨i, hi, si, e⟩ := zpig_s (f := fun x => c x a) (fun i hi => hf i a hi ha) (fun i j hi hj g => h.2.2.2.2 i j a hi hj ha g (by have := hf i a hi ha; omega)) (fun i hi g => hc i a hi ha g s1) hb s2
      have u := tov_ok h hf ha hb
      have : tov n c b a = i := h.2.2.2.2 _ i a u.1 hi ha (u.2.trans e.symm) (by have := u.2; omega)
      rw [this]
      exact si
  · exact Or.inl
theorem wP_of_FS {n s : Nat} {c : tC} (h : FS n c s = s) : wP n c s = s := wP_fix.mpr (fun a b ha hb s1 s2 => by
  have : (FS n c s).testBit (c a b) = true := FS_t.mpr (Or.inr ⟨a, b, ha, hb, s1, s2, Or.inl rfl⟩)
  rwa [h] at this)
theorem tcl_sub {n : Nat} {c : tC} : ∀ (k s v : Nat), s.testBit v = true → (tcl n c k s).testBit v = true
  | 0, s, v, h => h
  | k + 1, s, v, h => by
    unfold tcl
    split
    · exact h
    · exact tcl_sub k _ v (FS_t.mpr (Or.inl h))
theorem tcl_fix {n s : Nat} {c : tC} (h : FS n c s = s) : ∀ k, tcl n c k s = s
  | 0 => rfl
  | k + 1 => by unfold tcl; rw [if_pos h]
theorem or1_eq {s : Nat} (h : s.testBit 0 = true) : s ||| 1 = s := by
  refine tb_ext (fun v => ?_)
  rw [Nat.testBit_or, Bool.or_eq_true]
  constructor
  · rintro (g | g)
    · exact g
    · have : v = 0 := by
        rcases Nat.eq_zero_or_pos v with q | q
        · exact q
        · rw [Nat.testBit_one_eq_true_iff_self_eq_zero] at g
          exact g
      rw [this]
      exact h
  · exact Or.inl
theorem isP_iff {n s : Nat} {c : tC} (h : tO n c) (hf : tF n c) (hfix : FS n c (tCl n c s) = tCl n c s) : decide (tCl n c s = s) = isP n c s := by
  rw [Bool.eq_iff_iff, decide_eq_true_eq]
  unfold isP
  rw [Bool.and_eq_true, decide_eq_true_eq]
  constructor
  · intro g
    have h0 : (tCl n c s).testBit 0 = true := tcl_sub _ _ 0 (by rw [Nat.testBit_or]; simp)
    rw [g] at h0 hfix
    exact ⟨h0, wP_of_FS hfix⟩
  · rintro ⟨g1, g2⟩
    unfold tCl
    rw [or1_eq g1]
    exact tcl_fix (FS_fix h hf g2) _
