/-! the reference's renamings -/
def cf (tk v d : Nat) : Nat := zsum (fun k => if tk.testBit (v + k) = true then 0 else 1) d
theorem cf_s (tk v d : Nat) : cf tk v (d + 1) = (if tk.testBit v = true then 0 else 1) + cf tk (v + 1) d := by
  induction d with
  | zero => simp [cf, zsum]
  | succ d ih =>
    have a : cf tk v (d + 1 + 1) = cf tk v (d + 1) + (if tk.testBit (v + (d + 1)) = true then 0 else 1) := rfl
    have b : cf tk (v + 1) (d + 1) = cf tk (v + 1) d + (if tk.testBit (v + 1 + d) = true then 0 else 1) := rfl
    have e : v + (d + 1) = v + 1 + d := by omega
    rw [a, b, ih, e]
    omega
theorem qM_rn2 {M : zM} {n tk : Nat} (h8 : n ≤ 8) (ht : tk < 2 ^ 31) (a0 a1 a2 a3 a5 a6 a7 : Option Value) : ∀ (d v s : Nat), v + d = n → s < cf tk v d → s < 100 → ∃ w, v ≤ w ∧ w < n ∧ tk.testBit w = false ∧ cf tk v (w - v) = s ∧ zwh zc_M_renames_2 zs_M_renames_2 [a0, a1, a2, a3, some (Value.int (nI tk)), a5, a6, a7, some (Value.int (nI s)), some (Value.int (nI v))] M = some (none, [a0, a1, a2, a3, some (Value.int (nI tk)), a5, a6, a7, some (Value.int (nI 0)), some (Value.int (nI w))], M)
  | 0, v, s, h, hs, _ => absurd hs (Nat.not_lt_zero s)
  | d + 1, v, s, h, hs, hs2 => by
    have hh := qM_has (M := M) (s := tk) (a := v) ht (by omega)
    rw [cf_s] at hs
    cases hb : tk.testBit v with
    | true =>
      rw [hb] at hh hs
      obtain ⟨w, w1, w2, w3, w4, w5⟩ := qM_rn2 (M := M) h8 ht a0 a1 a2 a3 a5 a6 a7 d (v + 1) s (by omega) (by simpa using hs) hs2
      refine ⟨w, by omega, w2, w3, ?_, zwh_t (M1 := M) (M2 := M) (ls2 := [a0, a1, a2, a3, some (Value.int (nI tk)), a5, a6, a7, some (Value.int (nI s)), some (Value.int (nI (v + 1)))]) ?_ ?_ w5⟩
      · have : w - v = (w - (v + 1)) + 1 := by omega
        rw [this, cf_s, hb, w4]
        simp
      · simp (disch := omega) [zc_M_renames_2, zmeth, xm_en, zret, zretz, zretv, zseq, zst, zinc, zkl, zskip, zk, zi, za, zbin, zdiv, zrem, zgi, zgr, zld, zldr, zlen, zn, zc, zcall, zcallv, zrcv, zdo, zdov, zpf, zpfc, zas, zasc, zmin, zmax, zcmp, zcz, zand_e, zor_e, zite_e, zbite_e, zif_e, znot_e, z_add, z_sub, z_mul, z_and, z_or, z_xor, z_shl, z_shr, zcpy, -List.getElem?_cons_succ, zg_0, zg_1, zg_2, zg_3, zg_4, zg_5, zg_6, zg_7, zg_8, zg_9, zc_lt, zc_le, zc_gt, zc_ge, zc_eq, zc_ne, zc_lt0, zc_ge0, zc_gt0, zc_eq0, zc_ne0, zb_ne, zb_eq, zb_01, z_00, z_01, z_11, zb_f, zb_T, zb_F, zbm1, zbm2, zbm5, zbm6, zbm3, zbm4, nI_clamp, zmod_n, pk_div, nI_ne0, pk_mul, nI_add, nI_1, hh]
      · have z : nI s - nI 0 = nI s := pk_sub (Nat.zero_le s)
        simp (disch := omega) [zs_M_renames_2, zmeth, xm_en, zret, zretz, zretv, zseq, zst, zinc, zkl, zskip, zk, zi, za, zbin, zdiv, zrem, zgi, zgr, zld, zldr, zlen, zn, zc, zcall, zcallv, zrcv, zdo, zdov, zpf, zpfc, zas, zasc, zmin, zmax, zcmp, zcz, zand_e, zor_e, zite_e, zbite_e, zif_e, znot_e, z_add, z_sub, z_mul, z_and, z_or, z_xor, z_shl, z_shr, zcpy, -List.getElem?_cons_succ, zg_0, zg_1, zg_2, zg_3, zg_4, zg_5, zg_6, zg_7, zg_8, zg_9, zc_lt, zc_le, zc_gt, zc_ge, zc_eq, zc_ne, zc_lt0, zc_ge0, zc_gt0, zc_eq0, zc_ne0, zb_ne, zb_eq, zb_01, z_00, z_01, z_11, zb_f, zb_T, zb_F, zbm1, zbm2, zbm5, zbm6, zbm3, zbm4, nI_clamp, zmod_n, pk_div, nI_ne0, pk_mul, nI_add, nI_1, hh, z]
    | false =>
      rw [hb] at hh hs
      cases s with
      | zero =>
        refine ⟨v, Nat.le_refl v, by omega, hb, by rw [Nat.sub_self]; rfl, zwh_f ?_⟩
        simp (disch := omega) [zc_M_renames_2, zmeth, xm_en, zret, zretz, zretv, zseq, zst, zinc, zkl, zskip, zk, zi, za, zbin, zdiv, zrem, zgi, zgr, zld, zldr, zlen, zn, zc, zcall, zcallv, zrcv, zdo, zdov, zpf, zpfc, zas, zasc, zmin, zmax, zcmp, zcz, zand_e, zor_e, zite_e, zbite_e, zif_e, znot_e, z_add, z_sub, z_mul, z_and, z_or, z_xor, z_shl, z_shr, zcpy, -List.getElem?_cons_succ, zg_0, zg_1, zg_2, zg_3, zg_4, zg_5, zg_6, zg_7, zg_8, zg_9, zc_lt, zc_le, zc_gt, zc_ge, zc_eq, zc_ne, zc_lt0, zc_ge0, zc_gt0, zc_eq0, zc_ne0, zb_ne, zb_eq, zb_01, z_00, z_01, z_11, zb_f, zb_T, zb_F, zbm1, zbm2, zbm5, zbm6, zbm3, zbm4, nI_clamp, zmod_n, pk_div, nI_ne0, pk_mul, nI_add, nI_1, hh]
      | succ s =>
        obtain ⟨w, w1, w2, w3, w4, w5⟩ := qM_rn2 (M := M) h8 ht a0 a1 a2 a3 a5 a6 a7 d (v + 1) s (by omega) (by simp at hs; omega) (by omega)
        refine ⟨w, by omega, w2, w3, ?_, zwh_t (M1 := M) (M2 := M) (ls2 := [a0, a1, a2, a3, some (Value.int (nI tk)), a5, a6, a7, some (Value.int (nI s)), some (Value.int (nI (v + 1)))]) ?_ ?_ w5⟩
        · have : w - v = (w - (v + 1)) + 1 := by omega
          rw [this, cf_s, hb, w4]
          simp
          omega
        · simp (disch := omega) [zc_M_renames_2, zmeth, xm_en, zret, zretz, zretv, zseq, zst, zinc, zkl, zskip, zk, zi, za, zbin, zdiv, zrem, zgi, zgr, zld, zldr, zlen, zn, zc, zcall, zcallv, zrcv, zdo, zdov, zpf, zpfc, zas, zasc, zmin, zmax, zcmp, zcz, zand_e, zor_e, zite_e, zbite_e, zif_e, znot_e, z_add, z_sub, z_mul, z_and, z_or, z_xor, z_shl, z_shr, zcpy, -List.getElem?_cons_succ, zg_0, zg_1, zg_2, zg_3, zg_4, zg_5, zg_6, zg_7, zg_8, zg_9, zc_lt, zc_le, zc_gt, zc_ge, zc_eq, zc_ne, zc_lt0, zc_ge0, zc_gt0, zc_eq0, zc_ne0, zb_ne, zb_eq, zb_01, z_00, z_01, z_11, zb_f, zb_T, zb_F, zbm1, zbm2, zbm5, zbm6, zbm3, zbm4, nI_clamp, zmod_n, pk_div, nI_ne0, pk_mul, nI_add, nI_1, hh]
        · have z : nI (s + 1) - nI 1 = nI s := pk_sub (by omega)
          simp (disch := omega) [zs_M_renames_2, zmeth, xm_en, zret, zretz, zretv, zseq, zst, zinc, zkl, zskip, zk, zi, za, zbin, zdiv, zrem, zgi, zgr, zld, zldr, zlen, zn, zc, zcall, zcallv, zrcv, zdo, zdov, zpf, zpfc, zas, zasc, zmin, zmax, zcmp, zcz, zand_e, zor_e, zite_e, zbite_e, zif_e, znot_e, z_add, z_sub, z_mul, z_and, z_or, z_xor, z_shl, z_shr, zcpy, -List.getElem?_cons_succ, zg_0, zg_1, zg_2, zg_3, zg_4, zg_5, zg_6, zg_7, zg_8, zg_9, zc_lt, zc_le, zc_gt, zc_ge, zc_eq, zc_ne, zc_lt0, zc_ge0, zc_gt0, zc_eq0, zc_ne0, zb_ne, zb_eq, zb_01, z_00, z_01, z_11, zb_f, zb_T, zb_F, zbm1, zbm2, zbm5, zbm6, zbm3, zbm4, nI_clamp, zmod_n, pk_div, nI_ne0, pk_mul, nI_add, nI_1, hh, z]
