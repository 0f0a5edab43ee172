/-! product -/
def tPr (c d : tC) (m : Nat) : tC := fun x y => m * c (x / m) (y / m) + d (x % m) (y % m)
theorem pr_lt {a b n m : Nat} (ha : a < n) (hb : b < m) : m * a + b < n * m := by
  have h1 : m * (a + 1) ≤ m * n := Nat.mul_le_mul_left m ha
  rw [Nat.mul_succ, Nat.mul_comm m n] at h1
  omega
theorem pr_div {a b m : Nat} (hb : b < m) : (m * a + b) / m = a := by
  rw [Nat.mul_add_div (by omega), Nat.div_eq_of_lt hb, Nat.add_zero]
theorem pr_mod {a b m : Nat} (hb : b < m) : (m * a + b) % m = b := by
  rw [Nat.mul_add_mod, Nat.mod_eq_of_lt hb]
theorem pr_inj {a b a' b' m : Nat} (hb : b < m) (hb' : b' < m) (h : m * a + b = m * a' + b') : a = a' ∧ b = b' := by
  have h1 := pr_div (a := a) hb
  have h2 := pr_div (a := a') hb'
  have h3 := pr_mod (a := a) hb
  have h4 := pr_mod (a := a') hb'
  rw [h] at h1 h3
  exact ⟨h1.symm.trans h2, h3.symm.trans h4⟩
theorem tF_pr {n m : Nat} {c d : tC} (hc : tF n c) (hd : tF m d) : tF (n * m) (tPr c d m) := fun x y hx hy => by
  have hm : 0 < m := by
    rcases Nat.eq_zero_or_pos m with h | h
    · rw [h] at hx; omega
    · exact h
  exact pr_lt (hc _ _ (Nat.div_lt_of_lt_mul (by rw [Nat.mul_comm]; exact hx)) (Nat.div_lt_of_lt_mul (by rw [Nat.mul_comm]; exact hy))) (hd _ _ (Nat.mod_lt _ hm) (Nat.mod_lt _ hm))
theorem tO_pr {n m : Nat} {c d : tC} (hc : tO n c) (hd : tO m d) (fc : tF n c) (fd : tF m d) (h8 : n * m ≤ 8) : tO (n * m) (tPr c d m) := by
  have hm : 0 < m := hd.1.1
  have hn : 0 < n := hc.1.1
  have h1 : 1 ≤ n * m := Nat.mul_pos hn hm
  have hF := tF_pr fc fd
  have dv : ∀ x, x < n * m → x / m < n := fun x hx => Nat.div_lt_of_lt_mul (by rw [Nat.mul_comm]; exact hx)
  have md : ∀ x, x % m < m := fun x => Nat.mod_lt _ hm
  have c8 : ∀ a b, a < n → b < n → c a b < 8 := fun a b ha hb => by have := fc a b ha hb; have := hc.1.2; omega
  have d8 : ∀ a b, a < m → b < m → d a b < 8 := fun a b ha hb => by have := fd a b ha hb; have := hd.1.2; omega
  refine ⟨⟨h1, h8⟩, fun a ha => ?_, fun a b ha hb => Or.inl (hF a b ha hb), fun a b e ha hb he g1 g2 => ?_, fun a b e ha hb he g1 g2 => ?_⟩
  · unfold tPr
    rw [Nat.zero_div, Nat.zero_mod, (hc.2.1 _ (dv a ha)).1, (hc.2.1 _ (dv a ha)).2, (hd.2.1 _ (md a)).1, (hd.2.1 _ (md a)).2]
    exact ⟨Nat.div_add_mod a m, Nat.div_add_mod a m⟩
  · unfold tPr at g1
    obtain ⟨e1, e2⟩ := pr_inj (fd _ _ (md a) (md b)) (fd _ _ (md a) (md e)) g1
    have q1 := hc.2.2.2.1 _ _ _ (dv a ha) (dv b hb) (dv e he) e1 (c8 _ _ (dv a ha) (dv b hb))
    have q2 := hd.2.2.2.1 _ _ _ (md a) (md b) (md e) e2 (d8 _ _ (md a) (md b))
    rw [← Nat.div_add_mod b m, ← Nat.div_add_mod e m, q1, q2]
  · unfold tPr at g1
    obtain ⟨e1, e2⟩ := pr_inj (fd _ _ (md a) (md e)) (fd _ _ (md b) (md e)) g1
    have q1 := hc.2.2.2.2 _ _ _ (dv a ha) (dv b hb) (dv e he) e1 (c8 _ _ (dv a ha) (dv e he))
    have q2 := hd.2.2.2.2 _ _ _ (md a) (md b) (md e) e2 (d8 _ _ (md a) (md e))
    rw [← Nat.div_add_mod a m, ← Nat.div_add_mod b m, q1, q2]
theorem qG_pr4 {M : zM} {k k2 n m a b e : Nat} {c d : tC} (hk : ztb k) (hk2 : ztb k2) (hne : k ≠ 10) (hne2 : k2 ≠ 10) (h : kT M k n c) (h2 : kT M k2 m d) (h10 : M 10 0 = nI (n * m)) (h8 : n * m ≤ 8) (hn8 : n ≤ 8) (hm8 : m ≤ 8) (fc : tF n c) (fd : tF m d) (ha : a < n) (hb : b < m) (he : e < n) : zwh zc_Larger_buildProduct_4 zs_Larger_buildProduct_4 [some (Value.ref (k)), some (Value.ref (k2)), some (Value.ref (10)), some (Value.int (nI m)), some (Value.int (nI a)), some (Value.int (nI b)), some (Value.int (nI e)), some (Value.int (nI 0))] (zkf M 10 (n * m) (tPr c d m) (m * a + b) (m * e)) = some (none, [some (Value.ref (k)), some (Value.ref (k2)), some (Value.ref (10)), some (Value.int (nI m)), some (Value.int (nI a)), some (Value.int (nI b)), some (Value.int (nI e)), some (Value.int (nI m))], zkf M 10 (n * m) (tPr c d m) (m * a + b) (m * (e + 1))) := by
  have hx := pr_lt ha hb
  refine zwh_up (c := zc_Larger_buildProduct_4) (s := zs_Larger_buildProduct_4) (fun j => [some (Value.ref (k)), some (Value.ref (k2)), some (Value.ref (10)), some (Value.int (nI m)), some (Value.int (nI a)), some (Value.int (nI b)), some (Value.int (nI e)), some (Value.int (nI j))]) (fun j => zkf M 10 (n * m) (tPr c d m) (m * a + b) (m * e + j)) (n := m) m 0 (by omega) ?_ ?_ ?_
  · intro j g1 g2
    simp (disch := omega) [zc_Larger_buildProduct_4, zmeth, xm_en, zret, zretz, zretv, zseq, zst, zinc, zkl, zskip, zk, zi, za, zbin, zdiv, zrem, zgi, zgr, zld, zldr, zlen, zn, zc, zcall, zcallv, zrcv, zdo, zdov, zpf, zpfc, zas, zasc, zmin, zmax, zcmp, zcz, zand_e, zor_e, zite_e, zbite_e, zif_e, znot_e, z_add, z_sub, z_mul, z_and, z_or, z_xor, z_shl, z_shr, zcpy, -List.getElem?_cons_succ, zg_0, zg_1, zg_2, zg_3, zg_4, zg_5, zg_6, zg_7, zg_8, zg_9, zc_lt, zc_le, zc_gt, zc_ge, zc_eq, zc_ne, zc_lt0, zc_ge0, zc_gt0, zc_eq0, zc_ne0, zb_ne, zb_eq, zb_01, z_00, z_01, z_11, zb_f, zb_T, zb_F, zbm1, zbm2, zbm5, zbm6, zbm3, zbm4, nI_clamp, zmod_n, pk_div, nI_ne0, pk_mul, nI_add, nI_1, g2]
  · intro j g1 g2
    have hy := pr_lt he g2
    have k1 := kT_kf (m := n * m) (d := tPr c d m) (a := m * a + b) (b := m * e + j) hk tb10 hne h
    have k3 := kT_kf (m := n * m) (d := tPr c d m) (a := m * a + b) (b := m * e + j) hk2 tb10 hne2 h2
    have q1 := qT_mul hk k1 hn8 fc ha he
    have q2 := qT_mul hk2 k3 hm8 fd hb g2
    have e1 := zkf_s (M := M) (k := 10) (c := tPr c d m) h8 (show m * a + b < 8 by omega) hy
    have vl := pr_lt (fc a e ha he) (fd b j hb g2)
    have ev : zcl (-1) (tPr c d m (m * a + b) (m * e + j)) = nI (m * c a e + d b j) := by
      unfold tPr
      rw [pr_div hb, pr_div g2, pr_mod hb, pr_mod g2]
      exact zcl_lt (by omega)
    rw [ev] at e1
    have p := qT_put (M := zkf M 10 (n * m) (tPr c d m) (m * a + b) (m * e + j)) (v := nI (m * c a e + d b j)) tb10 (by rw [zkf_out (by omega)]; exact h10) h8 hx hy
    simp (disch := omega) [zs_Larger_buildProduct_4, zmeth, xm_en, zret, zretz, zretv, zseq, zst, zinc, zkl, zskip, zk, zi, za, zbin, zdiv, zrem, zgi, zgr, zld, zldr, zlen, zn, zc, zcall, zcallv, zrcv, zdo, zdov, zpf, zpfc, zas, zasc, zmin, zmax, zcmp, zcz, zand_e, zor_e, zite_e, zbite_e, zif_e, znot_e, z_add, z_sub, z_mul, z_and, z_or, z_xor, z_shl, z_shr, zcpy, -List.getElem?_cons_succ, zg_0, zg_1, zg_2, zg_3, zg_4, zg_5, zg_6, zg_7, zg_8, zg_9, zc_lt, zc_le, zc_gt, zc_ge, zc_eq, zc_ne, zc_lt0, zc_ge0, zc_gt0, zc_eq0, zc_ne0, zb_ne, zb_eq, zb_01, z_00, z_01, z_11, zb_f, zb_T, zb_F, zbm1, zbm2, zbm5, zbm6, zbm3, zbm4, nI_clamp, zmod_n, pk_div, nI_ne0, pk_mul, nI_add, nI_1, ztb_tag tb10, ztb_tag hk, ztb_tag hk2, q1, q2, p, e1, Nat.add_assoc]
  · simp (disch := omega) [zc_Larger_buildProduct_4, zmeth, xm_en, zret, zretz, zretv, zseq, zst, zinc, zkl, zskip, zk, zi, za, zbin, zdiv, zrem, zgi, zgr, zld, zldr, zlen, zn, zc, zcall, zcallv, zrcv, zdo, zdov, zpf, zpfc, zas, zasc, zmin, zmax, zcmp, zcz, zand_e, zor_e, zite_e, zbite_e, zif_e, znot_e, z_add, z_sub, z_mul, z_and, z_or, z_xor, z_shl, z_shr, zcpy, -List.getElem?_cons_succ, zg_0, zg_1, zg_2, zg_3, zg_4, zg_5, zg_6, zg_7, zg_8, zg_9, zc_lt, zc_le, zc_gt, zc_ge, zc_eq, zc_ne, zc_lt0, zc_ge0, zc_gt0, zc_eq0, zc_ne0, zb_ne, zb_eq, zb_01, z_00, z_01, z_11, zb_f, zb_T, zb_F, zbm1, zbm2, zbm5, zbm6, zbm3, zbm4, nI_clamp, zmod_n, pk_div, nI_ne0, pk_mul, nI_add, nI_1]
theorem qG_pr3 {M : zM} {k k2 n m a b : Nat} {c d : tC} (hk : ztb k) (hk2 : ztb k2) (hne : k ≠ 10) (hne2 : k2 ≠ 10) (h : kT M k n c) (h2 : kT M k2 m d) (h10 : M 10 0 = nI (n * m)) (h8 : n * m ≤ 8) (hn8 : n ≤ 8) (hm8 : m ≤ 8) (fc : tF n c) (fd : tF m d) (ha : a < n) (hb : b < m) : zwh zc_Larger_buildProduct_3 zs_Larger_buildProduct_3 [some (Value.ref (k)), some (Value.ref (k2)), some (Value.ref (10)), some (Value.int (nI m)), some (Value.int (nI a)), some (Value.int (nI b)), some (Value.int (nI 0)), none] (zkf M 10 (n * m) (tPr c d m) (m * a + b) 0) = some (none, [some (Value.ref (k)), some (Value.ref (k2)), some (Value.ref (10)), some (Value.int (nI m)), some (Value.int (nI a)), some (Value.int (nI b)), some (Value.int (nI n)), none], zkf M 10 (n * m) (tPr c d m) (m * a + (b + 1)) 0) := by
  have e0 : zkf M 10 (n * m) (tPr c d m) (m * a + (b + 1)) 0 = zkf M 10 (n * m) (tPr c d m) (m * a + b) (m * n) := by rw [Nat.mul_comm m n, zkf_r]; rfl
  rw [e0]
  refine zwh_up (c := zc_Larger_buildProduct_3) (s := zs_Larger_buildProduct_3) (fun j => [some (Value.ref (k)), some (Value.ref (k2)), some (Value.ref (10)), some (Value.int (nI m)), some (Value.int (nI a)), some (Value.int (nI b)), some (Value.int (nI j)), none]) (fun j => zkf M 10 (n * m) (tPr c d m) (m * a + b) (m * j)) (n := n) n 0 (by omega) ?_ ?_ ?_
  · intro j g1 g2
    have k1 := kT_kf (m := n * m) (d := tPr c d m) (a := m * a + b) (b := m * j) hk tb10 hne h
    simp (disch := omega) [zc_Larger_buildProduct_3, zmeth, xm_en, zret, zretz, zretv, zseq, zst, zinc, zkl, zskip, zk, zi, za, zbin, zdiv, zrem, zgi, zgr, zld, zldr, zlen, zn, zc, zcall, zcallv, zrcv, zdo, zdov, zpf, zpfc, zas, zasc, zmin, zmax, zcmp, zcz, zand_e, zor_e, zite_e, zbite_e, zif_e, znot_e, z_add, z_sub, z_mul, z_and, z_or, z_xor, z_shl, z_shr, zcpy, -List.getElem?_cons_succ, zg_0, zg_1, zg_2, zg_3, zg_4, zg_5, zg_6, zg_7, zg_8, zg_9, zc_lt, zc_le, zc_gt, zc_ge, zc_eq, zc_ne, zc_lt0, zc_ge0, zc_gt0, zc_eq0, zc_ne0, zb_ne, zb_eq, zb_01, z_00, z_01, z_11, zb_f, zb_T, zb_F, zbm1, zbm2, zbm5, zbm6, zbm3, zbm4, nI_clamp, zmod_n, pk_div, nI_ne0, pk_mul, nI_add, nI_1, ztb_tag hk, k1.1, g2]
  · intro j g1 g2
    have R := qG_pr4 hk hk2 hne hne2 h h2 h10 h8 hn8 hm8 fc fd ha hb g2
    simp (disch := omega) [zs_Larger_buildProduct_3, zmeth, xm_en, zret, zretz, zretv, zseq, zst, zinc, zkl, zskip, zk, zi, za, zbin, zdiv, zrem, zgi, zgr, zld, zldr, zlen, zn, zc, zcall, zcallv, zrcv, zdo, zdov, zpf, zpfc, zas, zasc, zmin, zmax, zcmp, zcz, zand_e, zor_e, zite_e, zbite_e, zif_e, znot_e, z_add, z_sub, z_mul, z_and, z_or, z_xor, z_shl, z_shr, zcpy, -List.getElem?_cons_succ, zg_0, zg_1, zg_2, zg_3, zg_4, zg_5, zg_6, zg_7, zg_8, zg_9, zc_lt, zc_le, zc_gt, zc_ge, zc_eq, zc_ne, zc_lt0, zc_ge0, zc_gt0, zc_eq0, zc_ne0, zb_ne, zb_eq, zb_01, z_00, z_01, z_11, zb_f, zb_T, zb_F, zbm1, zbm2, zbm5, zbm6, zbm3, zbm4, nI_clamp, zmod_n, pk_div, nI_ne0, pk_mul, nI_add, nI_1, R]
  · have k1 := kT_kf (m := n * m) (d := tPr c d m) (a := m * a + b) (b := m * n) hk tb10 hne h
    simp (disch := omega) [zc_Larger_buildProduct_3, zmeth, xm_en, zret, zretz, zretv, zseq, zst, zinc, zkl, zskip, zk, zi, za, zbin, zdiv, zrem, zgi, zgr, zld, zldr, zlen, zn, zc, zcall, zcallv, zrcv, zdo, zdov, zpf, zpfc, zas, zasc, zmin, zmax, zcmp, zcz, zand_e, zor_e, zite_e, zbite_e, zif_e, znot_e, z_add, z_sub, z_mul, z_and, z_or, z_xor, z_shl, z_shr, zcpy, -List.getElem?_cons_succ, zg_0, zg_1, zg_2, zg_3, zg_4, zg_5, zg_6, zg_7, zg_8, zg_9, zc_lt, zc_le, zc_gt, zc_ge, zc_eq, zc_ne, zc_lt0, zc_ge0, zc_gt0, zc_eq0, zc_ne0, zb_ne, zb_eq, zb_01, z_00, z_01, z_11, zb_f, zb_T, zb_F, zbm1, zbm2, zbm5, zbm6, zbm3, zbm4, nI_clamp, zmod_n, pk_div, nI_ne0, pk_mul, nI_add, nI_1, ztb_tag hk, k1.1]
theorem qG_pr2 {M : zM} {k k2 n m a : Nat} {c d : tC} (hk : ztb k) (hk2 : ztb k2) (hne : k ≠ 10) (hne2 : k2 ≠ 10) (h : kT M k n c) (h2 : kT M k2 m d) (h10 : M 10 0 = nI (n * m)) (h8 : n * m ≤ 8) (hn8 : n ≤ 8) (hm8 : m ≤ 8) (fc : tF n c) (fd : tF m d) (ha : a < n) : zwh zc_Larger_buildProduct_2 zs_Larger_buildProduct_2 [some (Value.ref (k)), some (Value.ref (k2)), some (Value.ref (10)), some (Value.int (nI m)), some (Value.int (nI a)), some (Value.int (nI 0)), none, none] (zkf M 10 (n * m) (tPr c d m) (m * a) 0) = some (none, [some (Value.ref (k)), some (Value.ref (k2)), some (Value.ref (10)), some (Value.int (nI m)), some (Value.int (nI a)), some (Value.int (nI m)), none, none], zkf M 10 (n * m) (tPr c d m) (m * (a + 1)) 0) := by
  refine zwh_up (c := zc_Larger_buildProduct_2) (s := zs_Larger_buildProduct_2) (fun j => [some (Value.ref (k)), some (Value.ref (k2)), some (Value.ref (10)), some (Value.int (nI m)), some (Value.int (nI a)), some (Value.int (nI j)), none, none]) (fun j => zkf M 10 (n * m) (tPr c d m) (m * a + j) 0) (n := m) m 0 (by omega) ?_ ?_ ?_
  · intro j g1 g2
    simp (disch := omega) [zc_Larger_buildProduct_2, zmeth, xm_en, zret, zretz, zretv, zseq, zst, zinc, zkl, zskip, zk, zi, za, zbin, zdiv, zrem, zgi, zgr, zld, zldr, zlen, zn, zc, zcall, zcallv, zrcv, zdo, zdov, zpf, zpfc, zas, zasc, zmin, zmax, zcmp, zcz, zand_e, zor_e, zite_e, zbite_e, zif_e, znot_e, z_add, z_sub, z_mul, z_and, z_or, z_xor, z_shl, z_shr, zcpy, -List.getElem?_cons_succ, zg_0, zg_1, zg_2, zg_3, zg_4, zg_5, zg_6, zg_7, zg_8, zg_9, zc_lt, zc_le, zc_gt, zc_ge, zc_eq, zc_ne, zc_lt0, zc_ge0, zc_gt0, zc_eq0, zc_ne0, zb_ne, zb_eq, zb_01, z_00, z_01, z_11, zb_f, zb_T, zb_F, zbm1, zbm2, zbm5, zbm6, zbm3, zbm4, nI_clamp, zmod_n, pk_div, nI_ne0, pk_mul, nI_add, nI_1, g2]
  · intro j g1 g2
    have R := qG_pr3 hk hk2 hne hne2 h h2 h10 h8 hn8 hm8 fc fd ha g2
    simp (disch := omega) [zs_Larger_buildProduct_2, zmeth, xm_en, zret, zretz, zretv, zseq, zst, zinc, zkl, zskip, zk, zi, za, zbin, zdiv, zrem, zgi, zgr, zld, zldr, zlen, zn, zc, zcall, zcallv, zrcv, zdo, zdov, zpf, zpfc, zas, zasc, zmin, zmax, zcmp, zcz, zand_e, zor_e, zite_e, zbite_e, zif_e, znot_e, z_add, z_sub, z_mul, z_and, z_or, z_xor, z_shl, z_shr, zcpy, -List.getElem?_cons_succ, zg_0, zg_1, zg_2, zg_3, zg_4, zg_5, zg_6, zg_7, zg_8, zg_9, zc_lt, zc_le, zc_gt, zc_ge, zc_eq, zc_ne, zc_lt0, zc_ge0, zc_gt0, zc_eq0, zc_ne0, zb_ne, zb_eq, zb_01, z_00, z_01, z_11, zb_f, zb_T, zb_F, zbm1, zbm2, zbm5, zbm6, zbm3, zbm4, nI_clamp, zmod_n, pk_div, nI_ne0, pk_mul, nI_add, nI_1, R]
  · simp (disch := omega) [zc_Larger_buildProduct_2, zmeth, xm_en, zret, zretz, zretv, zseq, zst, zinc, zkl, zskip, zk, zi, za, zbin, zdiv, zrem, zgi, zgr, zld, zldr, zlen, zn, zc, zcall, zcallv, zrcv, zdo, zdov, zpf, zpfc, zas, zasc, zmin, zmax, zcmp, zcz, zand_e, zor_e, zite_e, zbite_e, zif_e, znot_e, z_add, z_sub, z_mul, z_and, z_or, z_xor, z_shl, z_shr, zcpy, -List.getElem?_cons_succ, zg_0, zg_1, zg_2, zg_3, zg_4, zg_5, zg_6, zg_7, zg_8, zg_9, zc_lt, zc_le, zc_gt, zc_ge, zc_eq, zc_ne, zc_lt0, zc_ge0, zc_gt0, zc_eq0, zc_ne0, zb_ne, zb_eq, zb_01, z_00, z_01, z_11, zb_f, zb_T, zb_F, zbm1, zbm2, zbm5, zbm6, zbm3, zbm4, nI_clamp, zmod_n, pk_div, nI_ne0, pk_mul, nI_add, nI_1]
theorem qG_product {M : zM} {k k2 n m : Nat} {c d : tC} (hk : ztb k) (hk2 : ztb k2) (hne : k ≠ 10) (hne2 : k2 ≠ 10) (h : kT M k n c) (h2 : kT M k2 m d) (hn1 : 1 ≤ n) (hm1 : 1 ≤ m) (h8 : n * m ≤ 8) (hn8 : n ≤ 8) (hm8 : m ≤ 8) (fc : tF n c) (fd : tF m d) : ∃ M', zf_Larger_buildProduct [.ref k, .ref k2, .ref 10] M = some (none, M') ∧ kT M' 10 (n * m) (tPr c d m) ∧ zsc M M' := by
  have j1 := kT_rs (m := n * m) (i := n * m) hk tb10 hne h
  have j2 := kT_rs (m := n * m) (i := n * m) hk2 tb10 hne2 h2
  have hp : 1 ≤ n * m := Nat.mul_pos hn1 hm1
  have h10 : zrs M 10 (n * m) (n * m) 10 0 = nI (n * m) := by simp [zrs]
  have R := zwh_up (c := zc_Larger_buildProduct_1) (s := zs_Larger_buildProduct_1) (fun j => [some (Value.ref (k)), some (Value.ref (k2)), some (Value.ref (10)), some (Value.int (nI m)), some (Value.int (nI j)), none, none, none]) (fun j => zkf (zrs M 10 (n * m) (n * m)) 10 (n * m) (tPr c d m) (m * j) 0) (n := n) n 0 (by omega) ?_ ?_ ?_
  · rw [Nat.mul_zero, zkf_0, Nat.mul_comm m n] at R
    refine ⟨zkf (zrs M 10 (n * m) (n * m)) 10 (n * m) (tPr c d m) (n * m) 0, ?_, zkf_kT h8 h10, ?_⟩
    · simp (disch := omega) [zf_Larger_buildProduct, zmeth, xm_en, zret, zretz, zretv, zseq, zst, zinc, zkl, zskip, zk, zi, za, zbin, zdiv, zrem, zgi, zgr, zld, zldr, zlen, zn, zc, zcall, zcallv, zrcv, zdo, zdov, zpf, zpfc, zas, zasc, zmin, zmax, zcmp, zcz, zand_e, zor_e, zite_e, zbite_e, zif_e, znot_e, z_add, z_sub, z_mul, z_and, z_or, z_xor, z_shl, z_shr, zcpy, -List.getElem?_cons_succ, zg_0, zg_1, zg_2, zg_3, zg_4, zg_5, zg_6, zg_7, zg_8, zg_9, zc_lt, zc_le, zc_gt, zc_ge, zc_eq, zc_ne, zc_lt0, zc_ge0, zc_gt0, zc_eq0, zc_ne0, zb_ne, zb_eq, zb_01, z_00, z_01, z_11, zb_f, zb_T, zb_F, zbm1, zbm2, zbm5, zbm6, zbm3, zbm4, nI_clamp, zmod_n, pk_div, nI_ne0, pk_mul, nI_add, nI_1, ztb_tag tb10, ztb_tag hk, ztb_tag hk2, h.1, h2.1, qT_restart tb10 hp h8, R]
    · intro q j hq
      rw [zkf_out (by omega)]
      unfold zrs
      rw [if_neg (by omega), if_neg (by omega)]
  · intro j g1 g2
    have k1 := kT_kf (m := n * m) (d := tPr c d m) (a := m * j) (b := 0) hk tb10 hne j1
    simp (disch := omega) [zc_Larger_buildProduct_1, zmeth, xm_en, zret, zretz, zretv, zseq, zst, zinc, zkl, zskip, zk, zi, za, zbin, zdiv, zrem, zgi, zgr, zld, zldr, zlen, zn, zc, zcall, zcallv, zrcv, zdo, zdov, zpf, zpfc, zas, zasc, zmin, zmax, zcmp, zcz, zand_e, zor_e, zite_e, zbite_e, zif_e, znot_e, z_add, z_sub, z_mul, z_and, z_or, z_xor, z_shl, z_shr, zcpy, -List.getElem?_cons_succ, zg_0, zg_1, zg_2, zg_3, zg_4, zg_5, zg_6, zg_7, zg_8, zg_9, zc_lt, zc_le, zc_gt, zc_ge, zc_eq, zc_ne, zc_lt0, zc_ge0, zc_gt0, zc_eq0, zc_ne0, zb_ne, zb_eq, zb_01, z_00, z_01, z_11, zb_f, zb_T, zb_F, zbm1, zbm2, zbm5, zbm6, zbm3, zbm4, nI_clamp, zmod_n, pk_div, nI_ne0, pk_mul, nI_add, nI_1, ztb_tag hk, k1.1, g2]
  · intro j g1 g2
    have R2 := qG_pr2 hk hk2 hne hne2 j1 j2 h10 h8 hn8 hm8 fc fd g2
    simp (disch := omega) [zs_Larger_buildProduct_1, zmeth, xm_en, zret, zretz, zretv, zseq, zst, zinc, zkl, zskip, zk, zi, za, zbin, zdiv, zrem, zgi, zgr, zld, zldr, zlen, zn, zc, zcall, zcallv, zrcv, zdo, zdov, zpf, zpfc, zas, zasc, zmin, zmax, zcmp, zcz, zand_e, zor_e, zite_e, zbite_e, zif_e, znot_e, z_add, z_sub, z_mul, z_and, z_or, z_xor, z_shl, z_shr, zcpy, -List.getElem?_cons_succ, zg_0, zg_1, zg_2, zg_3, zg_4, zg_5, zg_6, zg_7, zg_8, zg_9, zc_lt, zc_le, zc_gt, zc_ge, zc_eq, zc_ne, zc_lt0, zc_ge0, zc_gt0, zc_eq0, zc_ne0, zb_ne, zb_eq, zb_01, z_00, z_01, z_11, zb_f, zb_T, zb_F, zbm1, zbm2, zbm5, zbm6, zbm3, zbm4, nI_clamp, zmod_n, pk_div, nI_ne0, pk_mul, nI_add, nI_1, R2]
  · have k1 := kT_kf (m := n * m) (d := tPr c d m) (a := m * n) (b := 0) hk tb10 hne j1
    simp (disch := omega) [zc_Larger_buildProduct_1, zmeth, xm_en, zret, zretz, zretv, zseq, zst, zinc, zkl, zskip, zk, zi, za, zbin, zdiv, zrem, zgi, zgr, zld, zldr, zlen, zn, zc, zcall, zcallv, zrcv, zdo, zdov, zpf, zpfc, zas, zasc, zmin, zmax, zcmp, zcz, zand_e, zor_e, zite_e, zbite_e, zif_e, znot_e, z_add, z_sub, z_mul, z_and, z_or, z_xor, z_shl, z_shr, zcpy, -List.getElem?_cons_succ, zg_0, zg_1, zg_2, zg_3, zg_4, zg_5, zg_6, zg_7, zg_8, zg_9, zc_lt, zc_le, zc_gt, zc_ge, zc_eq, zc_ne, zc_lt0, zc_ge0, zc_gt0, zc_eq0, zc_ne0, zb_ne, zb_eq, zb_01, z_00, z_01, z_11, zb_f, zb_T, zb_F, zbm1, zbm2, zbm5, zbm6, zbm3, zbm4, nI_clamp, zmod_n, pk_div, nI_ne0, pk_mul, nI_add, nI_1, ztb_tag hk, k1.1]
def okPr (T : tS) (x y z : Int32) : Bool := zlt x 4 && (zlt y 4 && zlt z 4) && (tB (T y.toNatClampNeg).1 (T y.toNatClampNeg).2 && (tB (T z.toNatClampNeg).1 (T z.toNatClampNeg).2 && decide ((T y.toNatClampNeg).1 * (T z.toNatClampNeg).1 ≤ 8)))
def sPr (T : tS) (x y z : Int32) : tS := bif okPr T x y z then tset T x.toNatClampNeg ((T y.toNatClampNeg).1 * (T z.toNatClampNeg).1) (tPr (T y.toNatClampNeg).2 (T z.toNatClampNeg).2 (T z.toNatClampNeg).1) else T
def aPr (T : tS) (x y z : Int32) : Int32 := bif zlt x 4 && (zlt y 4 && zlt z 4) then (bif okPr T x y z then nI ((T y.toNatClampNeg).1 * (T z.toNatClampNeg).1) else -2) else -1
theorem qL_product {T : tS} {M : zM} (x y z : Int32) (hC : CS T M) (hT : TO T) : ∃ M', zf_L_product [.ref 0, .int x, .int y, .int z] M = some (some (aPr T x y z), M') ∧ CS (sPr T x y z) M' ∧ zhi M M' := by
  rcases z3 x (n := 4) (by decide) with h | ⟨s, hs, rfl⟩
  · refine ⟨M, ?_, by simpa [sPr, okPr, h] using hC, zhi.refl M⟩
    simp [zf_L_product, zmeth, xm_en, zret, zretz, zretv, zseq, zst, zinc, zkl, zskip, zk, zi, za, zbin, zdiv, zrem, zgi, zgr, zld, zldr, zlen, zn, zc, zcall, zcallv, zrcv, zdo, zdov, zpf, zpfc, zas, zasc, zmin, zmax, zcmp, zcz, zand_e, zor_e, zite_e, zbite_e, zif_e, znot_e, z_add, z_sub, z_mul, z_and, z_or, z_xor, z_shl, z_shr, zcpy, -List.getElem?_cons_succ, zg_0, zg_1, zg_2, zg_3, zg_4, zg_5, zg_6, zg_7, zg_8, zg_9, qL_isTable, zb_ne, h, aPr]
  · have e := zlt_y hs (by decide)
    rcases z3 y (n := 4) (by decide) with h | ⟨t, ht, rfl⟩
    · refine ⟨M, ?_, by simpa [sPr, okPr, h] using hC, zhi.refl M⟩
      simp [zf_L_product, zmeth, xm_en, zret, zretz, zretv, zseq, zst, zinc, zkl, zskip, zk, zi, za, zbin, zdiv, zrem, zgi, zgr, zld, zldr, zlen, zn, zc, zcall, zcallv, zrcv, zdo, zdov, zpf, zpfc, zas, zasc, zmin, zmax, zcmp, zcz, zand_e, zor_e, zite_e, zbite_e, zif_e, znot_e, z_add, z_sub, z_mul, z_and, z_or, z_xor, z_shl, z_shr, zcpy, -List.getElem?_cons_succ, zg_0, zg_1, zg_2, zg_3, zg_4, zg_5, zg_6, zg_7, zg_8, zg_9, qL_isTable, zb_ne, e, h, aPr]
    · have e2 := zlt_y ht (by decide)
      rcases z3 z (n := 4) (by decide) with h | ⟨u, hu, rfl⟩
      · refine ⟨M, ?_, by simpa [sPr, okPr, h] using hC, zhi.refl M⟩
        simp [zf_L_product, zmeth, xm_en, zret, zretz, zretv, zseq, zst, zinc, zkl, zskip, zk, zi, za, zbin, zdiv, zrem, zgi, zgr, zld, zldr, zlen, zn, zc, zcall, zcallv, zrcv, zdo, zdov, zpf, zpfc, zas, zasc, zmin, zmax, zcmp, zcz, zand_e, zor_e, zite_e, zbite_e, zif_e, znot_e, z_add, z_sub, z_mul, z_and, z_or, z_xor, z_shl, z_shr, zcpy, -List.getElem?_cons_succ, zg_0, zg_1, zg_2, zg_3, zg_4, zg_5, zg_6, zg_7, zg_8, zg_9, qL_isTable, zb_ne, e, e2, h, aPr]
      · have e3 := zlt_y hu (by decide)
        have h8 := (hT t ht).1.2
        have h8u := (hT u hu).1.2
        have ct : (nI t).toNatClampNeg = t := nI_clamp (by omega)
        have cs : (nI s).toNatClampNeg = s := nI_clamp (by omega)
        have cu : (nI u).toNatClampNeg = u := nI_clamp (by omega)
        have hb64 : (T t).1 * (T u).1 ≤ 8 * 8 := Nat.mul_le_mul h8 h8u
        cases hb : tB (T t).1 (T t).2 with
        | false =>
          refine ⟨M, ?_, by simpa [sPr, okPr, ct, hb] using hC, zhi.refl M⟩
          simp (disch := omega) [zf_L_product, zmeth, xm_en, zret, zretz, zretv, zseq, zst, zinc, zkl, zskip, zk, zi, za, zbin, zdiv, zrem, zgi, zgr, zld, zldr, zlen, zn, zc, zcall, zcallv, zrcv, zdo, zdov, zpf, zpfc, zas, zasc, zmin, zmax, zcmp, zcz, zand_e, zor_e, zite_e, zbite_e, zif_e, znot_e, z_add, z_sub, z_mul, z_and, z_or, z_xor, z_shl, z_shr, zcpy, -List.getElem?_cons_succ, zg_0, zg_1, zg_2, zg_3, zg_4, zg_5, zg_6, zg_7, zg_8, zg_9, zt_0, zt_12, zt_20, zt_26, zt_32, zf_0_0, zf_0_1, zf_0_2, zf_0_3, zf_0_4, zf_12_0, zf_12_1, zf_12_2, zf_12_4, zf_12_5, zf_20_1, zf_20_2, zf_20_3, zf_20_4, zf_20_6, zf_26_0, zf_26_1, zf_26_2, zf_26_3, zf_32_0, zf_32_1, zf_32_3, zf_32_4, zf_32_5, zf_32_6, qL_isTable, zb_ne, e, e2, e3, aPr, okPr, ct, hb, zi_1, zf_1, nI_clamp, ztb_tag (tb4 ht), qT_isFull (tb4 ht) (hC t ht) (hT t ht)]
        | true =>
          cases hb2 : tB (T u).1 (T u).2 with
          | false =>
            refine ⟨M, ?_, by simpa [sPr, okPr, ct, cu, hb, hb2] using hC, zhi.refl M⟩
            simp (disch := omega) [zf_L_product, zmeth, xm_en, zret, zretz, zretv, zseq, zst, zinc, zkl, zskip, zk, zi, za, zbin, zdiv, zrem, zgi, zgr, zld, zldr, zlen, zn, zc, zcall, zcallv, zrcv, zdo, zdov, zpf, zpfc, zas, zasc, zmin, zmax, zcmp, zcz, zand_e, zor_e, zite_e, zbite_e, zif_e, znot_e, z_add, z_sub, z_mul, z_and, z_or, z_xor, z_shl, z_shr, zcpy, -List.getElem?_cons_succ, zg_0, zg_1, zg_2, zg_3, zg_4, zg_5, zg_6, zg_7, zg_8, zg_9, zt_0, zt_12, zt_20, zt_26, zt_32, zf_0_0, zf_0_1, zf_0_2, zf_0_3, zf_0_4, zf_12_0, zf_12_1, zf_12_2, zf_12_4, zf_12_5, zf_20_1, zf_20_2, zf_20_3, zf_20_4, zf_20_6, zf_26_0, zf_26_1, zf_26_2, zf_26_3, zf_32_0, zf_32_1, zf_32_3, zf_32_4, zf_32_5, zf_32_6, qL_isTable, zb_ne, e, e2, e3, aPr, okPr, ct, cu, hb, hb2, zi_1, zf_1, nI_clamp, ztb_tag (tb4 ht), ztb_tag (tb4 hu), qT_isFull (tb4 ht) (hC t ht) (hT t ht), qT_isFull (tb4 hu) (hC u hu) (hT u hu)]
          | true =>
            by_cases h4 : (T t).1 * (T u).1 ≤ 8
            · have hf := (tB_iff (hT t ht)).mp hb
              have hf2 := (tB_iff (hT u hu)).mp hb2
              obtain ⟨M1, g1, g2, g3⟩ := qG_product (tb4 ht) (tb4 hu) (by omega) (by omega) (hC t ht) (hC u hu) (hT t ht).1.1 (hT u hu).1.1 h4 h8 h8u hf hf2
              have hok : okPr T (nI s) (nI t) (nI u) = true := by simp [okPr, ct, cu, e, e2, e3, hb, hb2, h4]
              refine ⟨zto M1 (2 + 2 * s) 10, ?_, ?_, zhi.trans g3.hi (zhi_to hs)⟩
              · have n4 : ¬ 8 < (T t).1 * (T u).1 := by omega
                simp (disch := omega) [zf_L_product, zmeth, xm_en, zret, zretz, zretv, zseq, zst, zinc, zkl, zskip, zk, zi, za, zbin, zdiv, zrem, zgi, zgr, zld, zldr, zlen, zn, zc, zcall, zcallv, zrcv, zdo, zdov, zpf, zpfc, zas, zasc, zmin, zmax, zcmp, zcz, zand_e, zor_e, zite_e, zbite_e, zif_e, znot_e, z_add, z_sub, z_mul, z_and, z_or, z_xor, z_shl, z_shr, zcpy, -List.getElem?_cons_succ, zg_0, zg_1, zg_2, zg_3, zg_4, zg_5, zg_6, zg_7, zg_8, zg_9, zt_0, zt_12, zt_20, zt_26, zt_32, zf_0_0, zf_0_1, zf_0_2, zf_0_3, zf_0_4, zf_12_0, zf_12_1, zf_12_2, zf_12_4, zf_12_5, zf_20_1, zf_20_2, zf_20_3, zf_20_4, zf_20_6, zf_26_0, zf_26_1, zf_26_2, zf_26_3, zf_32_0, zf_32_1, zf_32_3, zf_32_4, zf_32_5, zf_32_6, qL_isTable, zb_ne, e, e2, e3, aPr, hok, ct, cu, hb, hb2, zi_1, zf_1, nI_clamp, ztb_tag (tb4 ht), ztb_tag (tb4 hu), qT_isFull (tb4 ht) (hC t ht) (hT t ht), qT_isFull (tb4 hu) (hC u hu) (hT u hu), (hC t ht).1, (hC u hu).1, pk_mul, zc_gt, n4, g1, qL_keepBuilt hs g2]
              · simp only [sPr, hok, cond_true, ct, cs, cu]
                exact CS_to hs tb10 h4 (hC.sc g3) g2
            · refine ⟨M, ?_, by simpa [sPr, okPr, ct, cu, hb, hb2, h4] using hC, zhi.refl M⟩
              have n4 : 8 < (T t).1 * (T u).1 := by omega
              simp (disch := omega) [zf_L_product, zmeth, xm_en, zret, zretz, zretv, zseq, zst, zinc, zkl, zskip, zk, zi, za, zbin, zdiv, zrem, zgi, zgr, zld, zldr, zlen, zn, zc, zcall, zcallv, zrcv, zdo, zdov, zpf, zpfc, zas, zasc, zmin, zmax, zcmp, zcz, zand_e, zor_e, zite_e, zbite_e, zif_e, znot_e, z_add, z_sub, z_mul, z_and, z_or, z_xor, z_shl, z_shr, zcpy, -List.getElem?_cons_succ, zg_0, zg_1, zg_2, zg_3, zg_4, zg_5, zg_6, zg_7, zg_8, zg_9, zt_0, zt_12, zt_20, zt_26, zt_32, zf_0_0, zf_0_1, zf_0_2, zf_0_3, zf_0_4, zf_12_0, zf_12_1, zf_12_2, zf_12_4, zf_12_5, zf_20_1, zf_20_2, zf_20_3, zf_20_4, zf_20_6, zf_26_0, zf_26_1, zf_26_2, zf_26_3, zf_32_0, zf_32_1, zf_32_3, zf_32_4, zf_32_5, zf_32_6, qL_isTable, zb_ne, e, e2, e3, aPr, okPr, ct, cu, hb, hb2, h4, zi_1, zf_1, nI_clamp, ztb_tag (tb4 ht), ztb_tag (tb4 hu), qT_isFull (tb4 ht) (hC t ht) (hT t ht), qT_isFull (tb4 hu) (hC u hu) (hT u hu), (hC t ht).1, (hC u hu).1, pk_mul, zc_gt, n4]
theorem qM_pr2 {M : zM} {s t u n m x : Nat} {c d : tC} (ht : t < 4) (hu : u < 4) (h : rT M t n c) (h2 : rT M u m d) (hm1 : 1 ≤ m) (h8 : n * m ≤ 8) (hn8 : n ≤ 8) (hm8 : m ≤ 8) (fc : tF n c) (fd : tF m d) (hx : x < n * m) : zwh zc_M_product_2 zs_M_product_2 [some (Value.ref (32)), some (Value.int (nI s)), some (Value.int (nI t)), some (Value.int (nI u)), some (Value.int (nI m)), some (Value.int (nI (n * m))), some (Value.int (nI x)), some (Value.int (nI 0))] (zft M 4 (n * m) (tPr c d m) x 0) = some (none, [some (Value.ref (32)), some (Value.int (nI s)), some (Value.int (nI t)), some (Value.int (nI u)), some (Value.int (nI m)), some (Value.int (nI (n * m))), some (Value.int (nI x)), some (Value.int (nI (n * m)))], zft M 4 (n * m) (tPr c d m) (x + 1) 0) := by
  rw [← zft_r]
  have dv : ∀ x, x < n * m → x / m < n := fun x hx => Nat.div_lt_of_lt_mul (by rw [Nat.mul_comm]; exact hx)
  have md : ∀ x, x % m < m := fun x => Nat.mod_lt _ hm1
  refine zwh_up (c := zc_M_product_2) (s := zs_M_product_2) (fun j => [some (Value.ref (32)), some (Value.int (nI s)), some (Value.int (nI t)), some (Value.int (nI u)), some (Value.int (nI m)), some (Value.int (nI (n * m))), some (Value.int (nI x)), some (Value.int (nI j))]) (fun j => zft M 4 (n * m) (tPr c d m) x j) (n := n * m) (n * m) 0 (by omega) ?_ ?_ ?_
  · intro j h1 h2
    simp (disch := omega) [zc_M_product_2, zmeth, xm_en, zret, zretz, zretv, zseq, zst, zinc, zkl, zskip, zk, zi, za, zbin, zdiv, zrem, zgi, zgr, zld, zldr, zlen, zn, zc, zcall, zcallv, zrcv, zdo, zdov, zpf, zpfc, zas, zasc, zmin, zmax, zcmp, zcz, zand_e, zor_e, zite_e, zbite_e, zif_e, znot_e, z_add, z_sub, z_mul, z_and, z_or, z_xor, z_shl, z_shr, zcpy, -List.getElem?_cons_succ, zg_0, zg_1, zg_2, zg_3, zg_4, zg_5, zg_6, zg_7, zg_8, zg_9, zc_lt, zc_le, zc_gt, zc_ge, zc_eq, zc_ne, zc_lt0, zc_ge0, zc_gt0, zc_eq0, zc_ne0, zb_ne, zb_eq, zb_01, z_00, z_01, z_11, zb_f, zb_T, zb_F, zbm1, zbm2, zbm5, zbm6, zbm3, zbm4, nI_clamp, zmod_n, pk_div, nI_ne0, pk_mul, nI_add, nI_1, h2]
  · intro j h1 h9
    have hr := rT_ft (m := n * m) (d := tPr c d m) (a := x) (b := j) ht hn8 h
    have hr2 := rT_ft (m := n * m) (d := tPr c d m) (a := x) (b := j) hu hm8 h2
    have e1 := zft_s (M := M) (t := 4) (c := tPr c d m) h8 (show x < 8 by omega) h9
    have q1 := qM_mul (show t < 6 by omega) hr hn8 fc (dv x hx) (dv j h9)
    have q2 := qM_mul (show u < 6 by omega) hr2 hm8 fd (md x) (md j)
    have vl := pr_lt (fc _ _ (dv x hx) (dv j h9)) (fd _ _ (md x) (md j))
    have ev : zcl (-4) (tPr c d m x j) = nI (m * c (x / m) (j / m) + d (x % m) (j % m)) := zcl_lt (by unfold tPr; omega)
    rw [ev] at e1
    have p := qM_puts (M := zft M 4 (n * m) (tPr c d m) x j) (t := 4) (a := x) (b := j) (v := nI (m * c (x / m) (j / m) + d (x % m) (j % m))) (by omega)
    simp only [Nat.reduceMul] at e1 p
    simp (disch := omega) [zs_M_product_2, zmeth, xm_en, zret, zretz, zretv, zseq, zst, zinc, zkl, zskip, zk, zi, za, zbin, zdiv, zrem, zgi, zgr, zld, zldr, zlen, zn, zc, zcall, zcallv, zrcv, zdo, zdov, zpf, zpfc, zas, zasc, zmin, zmax, zcmp, zcz, zand_e, zor_e, zite_e, zbite_e, zif_e, znot_e, z_add, z_sub, z_mul, z_and, z_or, z_xor, z_shl, z_shr, zcpy, -List.getElem?_cons_succ, zg_0, zg_1, zg_2, zg_3, zg_4, zg_5, zg_6, zg_7, zg_8, zg_9, zc_lt, zc_le, zc_gt, zc_ge, zc_eq, zc_ne, zc_lt0, zc_ge0, zc_gt0, zc_eq0, zc_ne0, zb_ne, zb_eq, zb_01, z_00, z_01, z_11, zb_f, zb_T, zb_F, zbm1, zbm2, zbm5, zbm6, zbm3, zbm4, nI_clamp, zmod_n, pk_div, nI_ne0, pk_mul, nI_add, nI_1, zt_0, zt_12, zt_20, zt_26, zt_32, zf_0_0, zf_0_1, zf_0_2, zf_0_3, zf_0_4, zf_12_0, zf_12_1, zf_12_2, zf_12_4, zf_12_5, zf_20_1, zf_20_2, zf_20_3, zf_20_4, zf_20_6, zf_26_0, zf_26_1, zf_26_2, zf_26_3, zf_32_0, zf_32_1, zf_32_3, zf_32_4, zf_32_5, zf_32_6, q1, q2, p, e1]
  · simp (disch := omega) [zc_M_product_2, zmeth, xm_en, zret, zretz, zretv, zseq, zst, zinc, zkl, zskip, zk, zi, za, zbin, zdiv, zrem, zgi, zgr, zld, zldr, zlen, zn, zc, zcall, zcallv, zrcv, zdo, zdov, zpf, zpfc, zas, zasc, zmin, zmax, zcmp, zcz, zand_e, zor_e, zite_e, zbite_e, zif_e, znot_e, z_add, z_sub, z_mul, z_and, z_or, z_xor, z_shl, z_shr, zcpy, -List.getElem?_cons_succ, zg_0, zg_1, zg_2, zg_3, zg_4, zg_5, zg_6, zg_7, zg_8, zg_9, zc_lt, zc_le, zc_gt, zc_ge, zc_eq, zc_ne, zc_lt0, zc_ge0, zc_gt0, zc_eq0, zc_ne0, zb_ne, zb_eq, zb_01, z_00, z_01, z_11, zb_f, zb_T, zb_F, zbm1, zbm2, zbm5, zbm6, zbm3, zbm4, nI_clamp, zmod_n, pk_div, nI_ne0, pk_mul, nI_add, nI_1]
theorem qM_product {T : tS} {M : zM} (x y z : Int32) (hR : RS T M) (hT : TO T) : ∃ M', zf_M_product [.ref 32, .int x, .int y, .int z] M = some (some (aPr T x y z), M') ∧ RS (sPr T x y z) M' ∧ TO (sPr T x y z) ∧ zlo M M' := by
  rcases z3 x (n := 4) (by decide) with h | ⟨s, hs, rfl⟩
  · refine ⟨M, ?_, by simpa [sPr, okPr, h] using hR, by simpa [sPr, okPr, h] using hT, zlo.refl M⟩
    simp [zf_M_product, zmeth, xm_en, zret, zretz, zretv, zseq, zst, zinc, zkl, zskip, zk, zi, za, zbin, zdiv, zrem, zgi, zgr, zld, zldr, zlen, zn, zc, zcall, zcallv, zrcv, zdo, zdov, zpf, zpfc, zas, zasc, zmin, zmax, zcmp, zcz, zand_e, zor_e, zite_e, zbite_e, zif_e, znot_e, z_add, z_sub, z_mul, z_and, z_or, z_xor, z_shl, z_shr, zcpy, -List.getElem?_cons_succ, zg_0, zg_1, zg_2, zg_3, zg_4, zg_5, zg_6, zg_7, zg_8, zg_9, qM_isTable, zb_ne, h, aPr]
  · have e := zlt_y hs (by decide)
    rcases z3 y (n := 4) (by decide) with h | ⟨t, ht, rfl⟩
    · refine ⟨M, ?_, by simpa [sPr, okPr, h] using hR, by simpa [sPr, okPr, h] using hT, zlo.refl M⟩
      simp [zf_M_product, zmeth, xm_en, zret, zretz, zretv, zseq, zst, zinc, zkl, zskip, zk, zi, za, zbin, zdiv, zrem, zgi, zgr, zld, zldr, zlen, zn, zc, zcall, zcallv, zrcv, zdo, zdov, zpf, zpfc, zas, zasc, zmin, zmax, zcmp, zcz, zand_e, zor_e, zite_e, zbite_e, zif_e, znot_e, z_add, z_sub, z_mul, z_and, z_or, z_xor, z_shl, z_shr, zcpy, -List.getElem?_cons_succ, zg_0, zg_1, zg_2, zg_3, zg_4, zg_5, zg_6, zg_7, zg_8, zg_9, qM_isTable, zb_ne, e, h, aPr]
    · have e2 := zlt_y ht (by decide)
      rcases z3 z (n := 4) (by decide) with h | ⟨u, hu, rfl⟩
      · refine ⟨M, ?_, by simpa [sPr, okPr, h] using hR, by simpa [sPr, okPr, h] using hT, zlo.refl M⟩
        simp [zf_M_product, zmeth, xm_en, zret, zretz, zretv, zseq, zst, zinc, zkl, zskip, zk, zi, za, zbin, zdiv, zrem, zgi, zgr, zld, zldr, zlen, zn, zc, zcall, zcallv, zrcv, zdo, zdov, zpf, zpfc, zas, zasc, zmin, zmax, zcmp, zcz, zand_e, zor_e, zite_e, zbite_e, zif_e, znot_e, z_add, z_sub, z_mul, z_and, z_or, z_xor, z_shl, z_shr, zcpy, -List.getElem?_cons_succ, zg_0, zg_1, zg_2, zg_3, zg_4, zg_5, zg_6, zg_7, zg_8, zg_9, qM_isTable, zb_ne, e, e2, h, aPr]
      · have e3 := zlt_y hu (by decide)
        have h8 := (hT t ht).1.2
        have h8u := (hT u hu).1.2
        have h6 : t < 6 := by omega
        have h6u : u < 6 := by omega
        have ct : (nI t).toNatClampNeg = t := nI_clamp (by omega)
        have cs : (nI s).toNatClampNeg = s := nI_clamp (by omega)
        have cu : (nI u).toNatClampNeg = u := nI_clamp (by omega)
        have hb64 : (T t).1 * (T u).1 ≤ 8 * 8 := Nat.mul_le_mul h8 h8u
        cases hb : tB (T t).1 (T t).2 with
        | false =>
          refine ⟨M, ?_, by simpa [sPr, okPr, ct, hb] using hR, by simpa [sPr, okPr, ct, hb] using hT, zlo.refl M⟩
          simp (disch := omega) [zf_M_product, zmeth, xm_en, zret, zretz, zretv, zseq, zst, zinc, zkl, zskip, zk, zi, za, zbin, zdiv, zrem, zgi, zgr, zld, zldr, zlen, zn, zc, zcall, zcallv, zrcv, zdo, zdov, zpf, zpfc, zas, zasc, zmin, zmax, zcmp, zcz, zand_e, zor_e, zite_e, zbite_e, zif_e, znot_e, z_add, z_sub, z_mul, z_and, z_or, z_xor, z_shl, z_shr, zcpy, -List.getElem?_cons_succ, zg_0, zg_1, zg_2, zg_3, zg_4, zg_5, zg_6, zg_7, zg_8, zg_9, zt_0, zt_12, zt_20, zt_26, zt_32, zf_0_0, zf_0_1, zf_0_2, zf_0_3, zf_0_4, zf_12_0, zf_12_1, zf_12_2, zf_12_4, zf_12_5, zf_20_1, zf_20_2, zf_20_3, zf_20_4, zf_20_6, zf_26_0, zf_26_1, zf_26_2, zf_26_3, zf_32_0, zf_32_1, zf_32_3, zf_32_4, zf_32_5, zf_32_6, qM_isTable, zb_ne, e, e2, e3, aPr, okPr, ct, hb, qM_isFull h6 (hR t ht) h8]
        | true =>
          cases hb2 : tB (T u).1 (T u).2 with
          | false =>
            refine ⟨M, ?_, by simpa [sPr, okPr, ct, cu, hb, hb2] using hR, by simpa [sPr, okPr, ct, cu, hb, hb2] using hT, zlo.refl M⟩
            simp (disch := omega) [zf_M_product, zmeth, xm_en, zret, zretz, zretv, zseq, zst, zinc, zkl, zskip, zk, zi, za, zbin, zdiv, zrem, zgi, zgr, zld, zldr, zlen, zn, zc, zcall, zcallv, zrcv, zdo, zdov, zpf, zpfc, zas, zasc, zmin, zmax, zcmp, zcz, zand_e, zor_e, zite_e, zbite_e, zif_e, znot_e, z_add, z_sub, z_mul, z_and, z_or, z_xor, z_shl, z_shr, zcpy, -List.getElem?_cons_succ, zg_0, zg_1, zg_2, zg_3, zg_4, zg_5, zg_6, zg_7, zg_8, zg_9, zt_0, zt_12, zt_20, zt_26, zt_32, zf_0_0, zf_0_1, zf_0_2, zf_0_3, zf_0_4, zf_12_0, zf_12_1, zf_12_2, zf_12_4, zf_12_5, zf_20_1, zf_20_2, zf_20_3, zf_20_4, zf_20_6, zf_26_0, zf_26_1, zf_26_2, zf_26_3, zf_32_0, zf_32_1, zf_32_3, zf_32_4, zf_32_5, zf_32_6, qM_isTable, zb_ne, e, e2, e3, aPr, okPr, ct, cu, hb, hb2, qM_isFull h6 (hR t ht) h8, qM_isFull h6u (hR u hu) h8u]
          | true =>
            by_cases h4 : (T t).1 * (T u).1 ≤ 8
            · have hf := (tB_iff (hT t ht)).mp hb
              have hf2 := (tB_iff (hT u hu)).mp hb2
              have hok : okPr T (nI s) (nI t) (nI u) = true := by simp [okPr, ct, cu, e, e2, e3, hb, hb2, h4]
              have n4 : ¬ 8 < (T t).1 * (T u).1 := by omega
              have R := zwh_up (c := zc_M_product_1) (s := zs_M_product_1) (fun j => [some (Value.ref (32)), some (Value.int (nI s)), some (Value.int (nI t)), some (Value.int (nI u)), some (Value.int (nI (T u).1)), some (Value.int (nI ((T t).1 * (T u).1))), some (Value.int (nI j)), none]) (fun j => zft M 4 ((T t).1 * (T u).1) (tPr (T t).2 (T u).2 (T u).1) j 0) (n := (T t).1 * (T u).1) ((T t).1 * (T u).1) 0 (by omega) ?_ ?_ ?_
              · rw [zft_0] at R
                refine ⟨zcp (zup (zft M 4 ((T t).1 * (T u).1) (tPr (T t).2 (T u).2 (T u).1) ((T t).1 * (T u).1) 0) 33 4 (nI ((T t).1 * (T u).1))) s 4 64, ?_, ?_, ?_, ?_⟩
                · simp (disch := omega) [zf_M_product, zmeth, xm_en, zret, zretz, zretv, zseq, zst, zinc, zkl, zskip, zk, zi, za, zbin, zdiv, zrem, zgi, zgr, zld, zldr, zlen, zn, zc, zcall, zcallv, zrcv, zdo, zdov, zpf, zpfc, zas, zasc, zmin, zmax, zcmp, zcz, zand_e, zor_e, zite_e, zbite_e, zif_e, znot_e, z_add, z_sub, z_mul, z_and, z_or, z_xor, z_shl, z_shr, zcpy, -List.getElem?_cons_succ, zg_0, zg_1, zg_2, zg_3, zg_4, zg_5, zg_6, zg_7, zg_8, zg_9, zt_0, zt_12, zt_20, zt_26, zt_32, zf_0_0, zf_0_1, zf_0_2, zf_0_3, zf_0_4, zf_12_0, zf_12_1, zf_12_2, zf_12_4, zf_12_5, zf_20_1, zf_20_2, zf_20_3, zf_20_4, zf_20_6, zf_26_0, zf_26_1, zf_26_2, zf_26_3, zf_32_0, zf_32_1, zf_32_3, zf_32_4, zf_32_5, zf_32_6, zc_lt, zc_le, zc_gt, zc_ge, zc_eq, zc_ne, zc_lt0, zc_ge0, zc_gt0, zc_eq0, zc_ne0, zb_ne, zb_eq, zb_01, z_00, z_01, z_11, zb_f, zb_T, zb_F, zbm1, zbm2, zbm5, zbm6, zbm3, zbm4, nI_clamp, zmod_n, pk_div, nI_ne0, pk_mul, nI_add, nI_1, qM_isTable, e, e2, e3, aPr, hok, ct, cu, hb, hb2, qM_isFull h6 (hR t ht) h8, qM_isFull h6u (hR u hu) h8u, (hR t ht).1, (hR u hu).1, n4, R, zi_33, qM_copies]
                · simp only [sPr, hok, cond_true, ct, cs, cu]
                  exact RS_cp4 hT hs h4 hR zsr4 (rT4 h4)
                · simp only [sPr, hok, cond_true, ct, cs, cu]
                  exact TO_set hT (tO_pr (hT t ht) (hT u hu) hf hf2 h4)
                · exact zlo.trans (zsr4 (M := M)).lo zlo_cp
              · intro j g1 g2
                simp (disch := omega) [zc_M_product_1, zmeth, xm_en, zret, zretz, zretv, zseq, zst, zinc, zkl, zskip, zk, zi, za, zbin, zdiv, zrem, zgi, zgr, zld, zldr, zlen, zn, zc, zcall, zcallv, zrcv, zdo, zdov, zpf, zpfc, zas, zasc, zmin, zmax, zcmp, zcz, zand_e, zor_e, zite_e, zbite_e, zif_e, znot_e, z_add, z_sub, z_mul, z_and, z_or, z_xor, z_shl, z_shr, zcpy, -List.getElem?_cons_succ, zg_0, zg_1, zg_2, zg_3, zg_4, zg_5, zg_6, zg_7, zg_8, zg_9, zc_lt, zc_le, zc_gt, zc_ge, zc_eq, zc_ne, zc_lt0, zc_ge0, zc_gt0, zc_eq0, zc_ne0, zb_ne, zb_eq, zb_01, z_00, z_01, z_11, zb_f, zb_T, zb_F, zbm1, zbm2, zbm5, zbm6, zbm3, zbm4, nI_clamp, zmod_n, pk_div, nI_ne0, pk_mul, nI_add, nI_1, g2]
              · intro j g1 g2
                have R2 := qM_pr2 (s := s) ht hu (hR t ht) (hR u hu) (hT u hu).1.1 h4 h8 h8u hf hf2 g2
                simp (disch := omega) [zs_M_product_1, zmeth, xm_en, zret, zretz, zretv, zseq, zst, zinc, zkl, zskip, zk, zi, za, zbin, zdiv, zrem, zgi, zgr, zld, zldr, zlen, zn, zc, zcall, zcallv, zrcv, zdo, zdov, zpf, zpfc, zas, zasc, zmin, zmax, zcmp, zcz, zand_e, zor_e, zite_e, zbite_e, zif_e, znot_e, z_add, z_sub, z_mul, z_and, z_or, z_xor, z_shl, z_shr, zcpy, -List.getElem?_cons_succ, zg_0, zg_1, zg_2, zg_3, zg_4, zg_5, zg_6, zg_7, zg_8, zg_9, zc_lt, zc_le, zc_gt, zc_ge, zc_eq, zc_ne, zc_lt0, zc_ge0, zc_gt0, zc_eq0, zc_ne0, zb_ne, zb_eq, zb_01, z_00, z_01, z_11, zb_f, zb_T, zb_F, zbm1, zbm2, zbm5, zbm6, zbm3, zbm4, nI_clamp, zmod_n, pk_div, nI_ne0, pk_mul, nI_add, nI_1, R2]
              · simp (disch := omega) [zc_M_product_1, zmeth, xm_en, zret, zretz, zretv, zseq, zst, zinc, zkl, zskip, zk, zi, za, zbin, zdiv, zrem, zgi, zgr, zld, zldr, zlen, zn, zc, zcall, zcallv, zrcv, zdo, zdov, zpf, zpfc, zas, zasc, zmin, zmax, zcmp, zcz, zand_e, zor_e, zite_e, zbite_e, zif_e, znot_e, z_add, z_sub, z_mul, z_and, z_or, z_xor, z_shl, z_shr, zcpy, -List.getElem?_cons_succ, zg_0, zg_1, zg_2, zg_3, zg_4, zg_5, zg_6, zg_7, zg_8, zg_9, zc_lt, zc_le, zc_gt, zc_ge, zc_eq, zc_ne, zc_lt0, zc_ge0, zc_gt0, zc_eq0, zc_ne0, zb_ne, zb_eq, zb_01, z_00, z_01, z_11, zb_f, zb_T, zb_F, zbm1, zbm2, zbm5, zbm6, zbm3, zbm4, nI_clamp, zmod_n, pk_div, nI_ne0, pk_mul, nI_add, nI_1]
            · refine ⟨M, ?_, by simpa [sPr, okPr, ct, cu, hb, hb2, h4] using hR, by simpa [sPr, okPr, ct, cu, hb, hb2, h4] using hT, zlo.refl M⟩
              have n4 : 8 < (T t).1 * (T u).1 := by omega
              simp (disch := omega) [zf_M_product, zmeth, xm_en, zret, zretz, zretv, zseq, zst, zinc, zkl, zskip, zk, zi, za, zbin, zdiv, zrem, zgi, zgr, zld, zldr, zlen, zn, zc, zcall, zcallv, zrcv, zdo, zdov, zpf, zpfc, zas, zasc, zmin, zmax, zcmp, zcz, zand_e, zor_e, zite_e, zbite_e, zif_e, znot_e, z_add, z_sub, z_mul, z_and, z_or, z_xor, z_shl, z_shr, zcpy, -List.getElem?_cons_succ, zg_0, zg_1, zg_2, zg_3, zg_4, zg_5, zg_6, zg_7, zg_8, zg_9, zt_0, zt_12, zt_20, zt_26, zt_32, zf_0_0, zf_0_1, zf_0_2, zf_0_3, zf_0_4, zf_12_0, zf_12_1, zf_12_2, zf_12_4, zf_12_5, zf_20_1, zf_20_2, zf_20_3, zf_20_4, zf_20_6, zf_26_0, zf_26_1, zf_26_2, zf_26_3, zf_32_0, zf_32_1, zf_32_3, zf_32_4, zf_32_5, zf_32_6, zc_lt, zc_le, zc_gt, zc_ge, zc_eq, zc_ne, zc_lt0, zc_ge0, zc_gt0, zc_eq0, zc_ne0, zb_ne, zb_eq, zb_01, z_00, z_01, z_11, zb_f, zb_T, zb_F, zbm1, zbm2, zbm5, zbm6, zbm3, zbm4, nI_clamp, zmod_n, pk_div, nI_ne0, pk_mul, nI_add, nI_1, qM_isTable, e, e2, e3, aPr, okPr, ct, cu, hb, hb2, h4, zi_33, qM_isFull h6 (hR t ht) h8, qM_isFull h6u (hR u hu) h8u, (hR t ht).1, (hR u hu).1, n4]
