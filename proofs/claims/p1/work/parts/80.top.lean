/-! the law: its cases, its loop, its start: written by wip/tools/topgen.py -/
theorem top_0 {G : xm_G} {i : Nat} (h : i + 4 < G.2.2.2.2.1) (h2 : G.2.2.2.2.1 ≤ 2560) {M : zM} (hI : Inv M) : ∃ M', zg_law_0 G (lsT (nI i)) M = some (none, lsT (nI i), M') ∧ Inv M' := by
  have s1 := sx_at (i := i) (j := 1) (by omega) h2
  have s2 := sx_at (i := i) (j := 2) (by omega) h2
  obtain ⟨r, r', M1, M2, e1, e2, e3, e4⟩ := pr_table hI (G.2.2.2.2.2 (i + 1)) (G.2.2.2.2.2 (i + 2))
  exact ⟨M2, top_cmp (by simp [zc, zn, za_1, s1, s2]) (rc4 _) e1 (by simp [zc, zn, za_2, s1, s2]) (rc5 _) e2 e4, e3⟩
theorem top_1 {G : xm_G} {i : Nat} (h : i + 4 < G.2.2.2.2.1) (h2 : G.2.2.2.2.1 ≤ 2560) {M : zM} (hI : Inv M) (hM : M = xp_mm) : ∃ M', zg_law_1 G (lsT (nI i)) M = some (none, lsT (nI i), M') ∧ Inv M' := by
  have s1 := sx_at (i := i) (j := 1) (by omega) h2
  have s2 := sx_at (i := i) (j := 2) (by omega) h2
  have s3 := sx_at (i := i) (j := 3) (by omega) h2
  have s4 := sx_at (i := i) (j := 4) (by omega) h2
  subst hM
  obtain ⟨r, r', M1, M2, e1, e2, e3, e4⟩ := pr_set1 (G.2.2.2.2.2 (i + 1)) (G.2.2.2.2.2 (i + 2)) (G.2.2.2.2.2 (i + 3)) (G.2.2.2.2.2 (i + 4))
  exact ⟨M2, top_cmp (by simp [zc, zn, za_1, s1, s2, s3, s4]) (rc4 _) e1 (by simp [zc, zn, za_2, s1, s2, s3, s4]) (rc5 _) e2 e4, e3⟩
theorem top_2 {G : xm_G} {i : Nat} (h : i + 4 < G.2.2.2.2.1) (h2 : G.2.2.2.2.1 ≤ 2560) {M : zM} (hI : Inv M) : ∃ M', zg_law_2 G (lsT (nI i)) M = some (none, lsT (nI i), M') ∧ Inv M' := by
  have s1 := sx_at (i := i) (j := 1) (by omega) h2
  have s2 := sx_at (i := i) (j := 2) (by omega) h2
  have s3 := sx_at (i := i) (j := 3) (by omega) h2
  obtain ⟨r, r', M1, M2, e1, e2, e3, e4⟩ := pr_at hI (G.2.2.2.2.2 (i + 1)) (G.2.2.2.2.2 (i + 2)) (G.2.2.2.2.2 (i + 3))
  exact ⟨M2, top_cmp (by simp [zc, zn, za_1, s1, s2, s3]) (rc4 _) e1 (by simp [zc, zn, za_2, s1, s2, s3]) (rc5 _) e2 e4, e3⟩
theorem top_3 {G : xm_G} {i : Nat} (h : i + 4 < G.2.2.2.2.1) (h2 : G.2.2.2.2.1 ≤ 2560) {M : zM} (hI : Inv M) : ∃ M', zg_law_3 G (lsT (nI i)) M = some (none, lsT (nI i), M') ∧ Inv M' := by
  have s1 := sx_at (i := i) (j := 1) (by omega) h2
  obtain ⟨r, r', M1, M2, e1, e2, e3, e4⟩ := pr_empty hI (G.2.2.2.2.2 (i + 1))
  exact ⟨M2, top_cmp (by simp [zc, zn, za_1, s1]) (rc4 _) e1 (by simp [zc, zn, za_2, s1]) (rc5 _) e2 e4, e3⟩
theorem top_4 {G : xm_G} {i : Nat} (h : i + 4 < G.2.2.2.2.1) (h2 : G.2.2.2.2.1 ≤ 2560) {M : zM} (hI : Inv M) : ∃ M', zg_law_4 G (lsT (nI i)) M = some (none, lsT (nI i), M') ∧ Inv M' := by
  have s1 := sx_at (i := i) (j := 1) (by omega) h2
  have s2 := sx_at (i := i) (j := 2) (by omega) h2
  obtain ⟨r, r', M1, M2, e1, e2, e3, e4⟩ := pr_ways hI (G.2.2.2.2.2 (i + 1)) (G.2.2.2.2.2 (i + 2))
  exact ⟨M2, top_cmp (by simp [zc, zn, za_1, s1, s2]) (rc4 _) e1 (by simp [zc, zn, za_2, s1, s2]) (rc5 _) e2 e4, e3⟩
theorem top_5 {G : xm_G} {i : Nat} (h : i + 4 < G.2.2.2.2.1) (h2 : G.2.2.2.2.1 ≤ 2560) {M : zM} (hI : Inv M) : ∃ M', zg_law_5 G (lsT (nI i)) M = some (none, lsT (nI i), M') ∧ Inv M' := by
  have s1 := sx_at (i := i) (j := 1) (by omega) h2
  have s2 := sx_at (i := i) (j := 2) (by omega) h2
  obtain ⟨r, r', M1, M2, e1, e2, e3, e4⟩ := pr_end hI (G.2.2.2.2.2 (i + 1)) (G.2.2.2.2.2 (i + 2))
  exact ⟨M2, top_cmp (by simp [zc, zn, za_1, s1, s2]) (rc4 _) e1 (by simp [zc, zn, za_2, s1, s2]) (rc5 _) e2 e4, e3⟩
theorem top_6 {G : xm_G} {i : Nat} (h : i + 4 < G.2.2.2.2.1) (h2 : G.2.2.2.2.1 ≤ 2560) {M : zM} (hI : Inv M) : ∃ M', zg_law_6 G (lsT (nI i)) M = some (none, lsT (nI i), M') ∧ Inv M' := by
  have s1 := sx_at (i := i) (j := 1) (by omega) h2
  have s2 := sx_at (i := i) (j := 2) (by omega) h2
  have s3 := sx_at (i := i) (j := 3) (by omega) h2
  have s4 := sx_at (i := i) (j := 4) (by omega) h2
  obtain ⟨r, r', M1, M2, e1, e2, e3, e4⟩ := pr_divide hI (G.2.2.2.2.2 (i + 1)) (G.2.2.2.2.2 (i + 2)) (G.2.2.2.2.2 (i + 3)) (G.2.2.2.2.2 (i + 4))
  exact ⟨M2, top_cmp (by simp [zc, zn, za_1, s1, s2, s3, s4]) (rc4 _) e1 (by simp [zc, zn, za_2, s1, s2, s3, s4]) (rc5 _) e2 e4, e3⟩
theorem top_7 {G : xm_G} {i : Nat} (h : i + 4 < G.2.2.2.2.1) (h2 : G.2.2.2.2.1 ≤ 2560) {M : zM} (hI : Inv M) : ∃ M', zg_law_7 G (lsT (nI i)) M = some (none, lsT (nI i), M') ∧ Inv M' := by
  have s1 := sx_at (i := i) (j := 1) (by omega) h2
  have s2 := sx_at (i := i) (j := 2) (by omega) h2
  have s3 := sx_at (i := i) (j := 3) (by omega) h2
  obtain ⟨r, r', M1, M2, e1, e2, e3, e4⟩ := pr_law hI (G.2.2.2.2.2 (i + 1)) (G.2.2.2.2.2 (i + 2)) (G.2.2.2.2.2 (i + 3))
  exact ⟨M2, top_cmp (by simp [zc, zn, za_1, s1, s2, s3]) (rc4 _) e1 (by simp [zc, zn, za_2, s1, s2, s3]) (rc5 _) e2 e4, e3⟩
theorem top_8 {G : xm_G} {i : Nat} (h : i + 4 < G.2.2.2.2.1) (h2 : G.2.2.2.2.1 ≤ 2560) {M : zM} (hI : Inv M) : ∃ M', zg_law_8 G (lsT (nI i)) M = some (none, lsT (nI i), M') ∧ Inv M' := by
  have s1 := sx_at (i := i) (j := 1) (by omega) h2
  have s2 := sx_at (i := i) (j := 2) (by omega) h2
  obtain ⟨r, r', M1, M2, e1, e2, e3, e4⟩ := pr_joining hI (G.2.2.2.2.2 (i + 1)) (G.2.2.2.2.2 (i + 2))
  exact ⟨M2, top_cmp (by simp [zc, zn, za_1, s1, s2]) (rc4 _) e1 (by simp [zc, zn, za_2, s1, s2]) (rc5 _) e2 e4, e3⟩
theorem top_9 {G : xm_G} {i : Nat} (h : i + 4 < G.2.2.2.2.1) (h2 : G.2.2.2.2.1 ≤ 2560) {M : zM} (hI : Inv M) : ∃ M', zg_law_9 G (lsT (nI i)) M = some (none, lsT (nI i), M') ∧ Inv M' := by
  have s1 := sx_at (i := i) (j := 1) (by omega) h2
  have s2 := sx_at (i := i) (j := 2) (by omega) h2
  obtain ⟨r, r', M1, M2, e1, e2, e3, e4⟩ := pr_made hI (G.2.2.2.2.2 (i + 1)) (G.2.2.2.2.2 (i + 2))
  exact ⟨M2, top_cmp (by simp [zc, zn, za_1, s1, s2]) (rc4 _) e1 (by simp [zc, zn, za_2, s1, s2]) (rc5 _) e2 e4, e3⟩
theorem top_10 {G : xm_G} {i : Nat} (h : i + 4 < G.2.2.2.2.1) (h2 : G.2.2.2.2.1 ≤ 2560) {M : zM} (hI : Inv M) : ∃ M', zg_law_10 G (lsT (nI i)) M = some (none, lsT (nI i), M') ∧ Inv M' := by
  have s1 := sx_at (i := i) (j := 1) (by omega) h2
  have s2 := sx_at (i := i) (j := 2) (by omega) h2
  obtain ⟨r, r', M1, M2, e1, e2, e3, e4⟩ := pr_parts hI (G.2.2.2.2.2 (i + 1)) (G.2.2.2.2.2 (i + 2))
  exact ⟨M2, top_cmp (by simp [zc, zn, za_1, s1, s2]) (rc4 _) e1 (by simp [zc, zn, za_2, s1, s2]) (rc5 _) e2 e4, e3⟩
theorem top_11 {G : xm_G} {i : Nat} (h : i + 4 < G.2.2.2.2.1) (h2 : G.2.2.2.2.1 ≤ 2560) {M : zM} (hI : Inv M) : ∃ M', zg_law_11 G (lsT (nI i)) M = some (none, lsT (nI i), M') ∧ Inv M' := by
  have s1 := sx_at (i := i) (j := 1) (by omega) h2
  have s2 := sx_at (i := i) (j := 2) (by omega) h2
  obtain ⟨r, r', M1, M2, e1, e2, e3, e4⟩ := pr_normal hI (G.2.2.2.2.2 (i + 1)) (G.2.2.2.2.2 (i + 2))
  exact ⟨M2, top_cmp (by simp [zc, zn, za_1, s1, s2]) (rc4 _) e1 (by simp [zc, zn, za_2, s1, s2]) (rc5 _) e2 e4, e3⟩
theorem top_12 {G : xm_G} {i : Nat} (h : i + 4 < G.2.2.2.2.1) (h2 : G.2.2.2.2.1 ≤ 2560) {M : zM} (hI : Inv M) : ∃ M', zg_law_12 G (lsT (nI i)) M = some (none, lsT (nI i), M') ∧ Inv M' := by
  have s1 := sx_at (i := i) (j := 1) (by omega) h2
  have s2 := sx_at (i := i) (j := 2) (by omega) h2
  have s3 := sx_at (i := i) (j := 3) (by omega) h2
  obtain ⟨r, r', M1, M2, e1, e2, e3, e4⟩ := pr_left hI (G.2.2.2.2.2 (i + 1)) (G.2.2.2.2.2 (i + 2)) (G.2.2.2.2.2 (i + 3))
  exact ⟨M2, top_cmp (by simp [zc, zn, za_1, s1, s2, s3]) (rc4 _) e1 (by simp [zc, zn, za_2, s1, s2, s3]) (rc5 _) e2 e4, e3⟩
theorem top_13 {G : xm_G} {i : Nat} (h : i + 4 < G.2.2.2.2.1) (h2 : G.2.2.2.2.1 ≤ 2560) {M : zM} (hI : Inv M) : ∃ M', zg_law_13 G (lsT (nI i)) M = some (none, lsT (nI i), M') ∧ Inv M' := by
  have s1 := sx_at (i := i) (j := 1) (by omega) h2
  obtain ⟨r, r', M1, M2, e1, e2, e3, e4⟩ := pr_group hI (G.2.2.2.2.2 (i + 1))
  exact ⟨M2, top_cmp (by simp [zc, zn, za_1, s1]) (rc4 _) e1 (by simp [zc, zn, za_2, s1]) (rc5 _) e2 e4, e3⟩
theorem top_14 {G : xm_G} {i : Nat} (h : i + 4 < G.2.2.2.2.1) (h2 : G.2.2.2.2.1 ≤ 2560) {M : zM} (hI : Inv M) : ∃ M', zg_law_14 G (lsT (nI i)) M = some (none, lsT (nI i), M') ∧ Inv M' := by
  have s1 := sx_at (i := i) (j := 1) (by omega) h2
  have s2 := sx_at (i := i) (j := 2) (by omega) h2
  have s3 := sx_at (i := i) (j := 3) (by omega) h2
  cases hz : xe_cd .ne (G.2.2.2.2.2 (i + 3)) 0 with
  | false =>
    obtain ⟨r, r', M1, M2, e1, e2, e3, e4⟩ := pr_alike hI (G.2.2.2.2.2 (i + 1)) (G.2.2.2.2.2 (i + 2)) (nI 0)
    exact ⟨M2, top_cmp (by simp [zc, zn, za_1, s1, s2, s3, zite, zcz, zk, hz]) (rc4 _) e1 (by simp [zc, zn, za_2, s1, s2, s3, zite, zcz, zk, hz]) (rc5 _) e2 e4, e3⟩
  | true =>
    obtain ⟨r, r', M1, M2, e1, e2, e3, e4⟩ := pr_alike hI (G.2.2.2.2.2 (i + 1)) (G.2.2.2.2.2 (i + 2)) (nI 1)
    exact ⟨M2, top_cmp (by simp [zc, zn, za_1, s1, s2, s3, zite, zcz, zk, hz]) (rc4 _) e1 (by simp [zc, zn, za_2, s1, s2, s3, zite, zcz, zk, hz]) (rc5 _) e2 e4, e3⟩
theorem top_15 {G : xm_G} {i : Nat} (h : i + 4 < G.2.2.2.2.1) (h2 : G.2.2.2.2.1 ≤ 2560) {M : zM} (hI : Inv M) : ∃ M', zg_law_15 G (lsT (nI i)) M = some (none, lsT (nI i), M') ∧ Inv M' := by
  have s1 := sx_at (i := i) (j := 1) (by omega) h2
  have s2 := sx_at (i := i) (j := 2) (by omega) h2
  obtain ⟨r, r', M1, M2, e1, e2, e3, e4⟩ := pr_name hI (G.2.2.2.2.2 (i + 1)) (G.2.2.2.2.2 (i + 2))
  exact ⟨M2, top_cmp (by simp [zc, zn, za_1, s1, s2]) (rc4 _) e1 (by simp [zc, zn, za_2, s1, s2]) (rc5 _) e2 e4, e3⟩
theorem top_16 {G : xm_G} {i : Nat} (h : i + 4 < G.2.2.2.2.1) (h2 : G.2.2.2.2.1 ≤ 2560) {M : zM} (hI : Inv M) : ∃ M', zg_law_16 G (lsT (nI i)) M = some (none, lsT (nI i), M') ∧ Inv M' := by
  have s1 := sx_at (i := i) (j := 1) (by omega) h2
  have s2 := sx_at (i := i) (j := 2) (by omega) h2
  obtain ⟨r, r', M1, M2, e1, e2, e3, e4⟩ := pr_square hI (G.2.2.2.2.2 (i + 1)) (G.2.2.2.2.2 (i + 2))
  exact ⟨M2, top_cmp (by simp [zc, zn, za_1, s1, s2]) (rc4 _) e1 (by simp [zc, zn, za_2, s1, s2]) (rc5 _) e2 e4, e3⟩
theorem top_17 {G : xm_G} {i : Nat} (h : i + 4 < G.2.2.2.2.1) (h2 : G.2.2.2.2.1 ≤ 2560) {M : zM} (hI : Inv M) : ∃ M', zg_law_17 G (lsT (nI i)) M = some (none, lsT (nI i), M') ∧ Inv M' := by
  have s1 := sx_at (i := i) (j := 1) (by omega) h2
  have s2 := sx_at (i := i) (j := 2) (by omega) h2
  obtain ⟨r, r', M1, M2, e1, e2, e3, e4⟩ := pr_turn hI (G.2.2.2.2.2 (i + 1)) (G.2.2.2.2.2 (i + 2))
  exact ⟨M2, top_cmp (by simp [zc, zn, za_1, s1, s2]) (rc4 _) e1 (by simp [zc, zn, za_2, s1, s2]) (rc5 _) e2 e4, e3⟩
theorem top_18 {G : xm_G} {i : Nat} (h : i + 4 < G.2.2.2.2.1) (h2 : G.2.2.2.2.1 ≤ 2560) {M : zM} (hI : Inv M) : ∃ M', zg_law_18 G (lsT (nI i)) M = some (none, lsT (nI i), M') ∧ Inv M' := by
  have s1 := sx_at (i := i) (j := 1) (by omega) h2
  have s2 := sx_at (i := i) (j := 2) (by omega) h2
  have s3 := sx_at (i := i) (j := 3) (by omega) h2
  obtain ⟨r, r', M1, M2, e1, e2, e3, e4⟩ := pr_doubled hI (G.2.2.2.2.2 (i + 1)) (G.2.2.2.2.2 (i + 2)) (G.2.2.2.2.2 (i + 3))
  exact ⟨M2, top_cmp (by simp [zc, zn, za_1, s1, s2, s3]) (rc4 _) e1 (by simp [zc, zn, za_2, s1, s2, s3]) (rc5 _) e2 e4, e3⟩
theorem top_19 {G : xm_G} {i : Nat} (h : i + 4 < G.2.2.2.2.1) (h2 : G.2.2.2.2.1 ≤ 2560) {M : zM} (hI : Inv M) : ∃ M', zg_law_19 G (lsT (nI i)) M = some (none, lsT (nI i), M') ∧ Inv M' := by
  have s1 := sx_at (i := i) (j := 1) (by omega) h2
  have s2 := sx_at (i := i) (j := 2) (by omega) h2
  have s3 := sx_at (i := i) (j := 3) (by omega) h2
  obtain ⟨r, r', M1, M2, e1, e2, e3, e4⟩ := pr_product hI (G.2.2.2.2.2 (i + 1)) (G.2.2.2.2.2 (i + 2)) (G.2.2.2.2.2 (i + 3))
  exact ⟨M2, top_cmp (by simp [zc, zn, za_1, s1, s2, s3]) (rc4 _) e1 (by simp [zc, zn, za_2, s1, s2, s3]) (rc5 _) e2 e4, e3⟩
theorem top_20 {G : xm_G} {i : Nat} (h : i + 4 < G.2.2.2.2.1) (h2 : G.2.2.2.2.1 ≤ 2560) {M : zM} (hI : Inv M) : ∃ M', zg_law_20 G (lsT (nI i)) M = some (none, lsT (nI i), M') ∧ Inv M' := by
  have s1 := sx_at (i := i) (j := 1) (by omega) h2
  obtain ⟨r, r', M1, M2, e1, e2, e3, e4⟩ := pr_size hI (G.2.2.2.2.2 (i + 1))
  exact ⟨M2, top_cmp (by simp [zc, zn, za_1, s1]) (rc4 _) e1 (by simp [zc, zn, za_2, s1]) (rc5 _) e2 e4, e3⟩
theorem top_sw {G : xm_G} {i : Nat} (h : i + 4 < G.2.2.2.2.1) (h2 : G.2.2.2.2.1 ≤ 2560) {M : zM} (hI : Inv M) (hM : M = xp_mm) : ∃ M', zs_law G (lsT (nI i)) M = some (none, lsT (nI (i + 5)), M') ∧ Inv M' := by
  have s0 := sx_0 (i := i) (by omega) h2 M
  obtain ⟨j, hj, hk⟩ := pk_andE (G.2.2.2.2.2 i) (m := nI 31) 5 (by decide)
  have inc : ∀ M' : zM, zinc 3 5 (lsT (nI i)) M' = some (none, lsT (nI (i + 5)), M') := fun M' => by
    have e : nI i + 5 = nI (i + 5) := nI_add i 5
    simp [zinc, lsT, e]
  have ev : zbin z_and (zsx G (zi 3)) (zk (nI 31)) (lsT (nI i)) M = some (.int (nI j), M) := by simp [zbin, zk, s0, z_and, hk]
  have go : ∀ (g : zS) (M' : zM), g (lsT (nI i)) M = some (none, lsT (nI i), M') → Inv M' → (∀ (L : List (Nat × zS)), zsw (zbin z_and (zsx G (zi 3)) (zk (nI 31))) 0 L zskip (lsT (nI i)) M = zpick 0 L zskip (nI j) (lsT (nI i)) M) ∧ True := fun g M' _ _ => ⟨fun L => by simp [zsw, ev], trivial⟩
  have sw : ∀ (L : List (Nat × zS)), zsw (zbin z_and (zsx G (zi 3)) (zk (nI 31))) 0 L zskip (lsT (nI i)) M = zpick 0 L zskip (nI j) (lsT (nI i)) M := fun L => by simp [zsw, ev]
  have fin : ∀ (g : zS) (M' : zM) (L : List (Nat × zS)), zpick 0 L zskip (nI j) = g → g (lsT (nI i)) M = some (none, lsT (nI i), M') → zseq (zsw (zbin z_and (zsx G (zi 3)) (zk (nI 31))) 0 L zskip) (zinc 3 5) (lsT (nI i)) M = some (none, lsT (nI (i + 5)), M') := fun g M' L e1 e2 => by
    unfold zseq
    rw [sw, e1, e2]
    exact inc M'
  clear go
  match j, hj with
  | 0, _ => exact (top_0 h h2 hI).elim (fun M' q => ⟨M', fin (zg_law_0 G) M' _ rfl q.1, q.2⟩)
  | 1, _ => exact (top_1 h h2 hI hM).elim (fun M' q => ⟨M', fin (zg_law_1 G) M' _ rfl q.1, q.2⟩)
  | 2, _ => exact (top_2 h h2 hI).elim (fun M' q => ⟨M', fin (zg_law_2 G) M' _ rfl q.1, q.2⟩)
  | 3, _ => exact (top_3 h h2 hI).elim (fun M' q => ⟨M', fin (zg_law_3 G) M' _ rfl q.1, q.2⟩)
  | 4, _ => exact (top_4 h h2 hI).elim (fun M' q => ⟨M', fin (zg_law_4 G) M' _ rfl q.1, q.2⟩)
  | 5, _ => exact (top_5 h h2 hI).elim (fun M' q => ⟨M', fin (zg_law_5 G) M' _ rfl q.1, q.2⟩)
  | 6, _ => exact (top_6 h h2 hI).elim (fun M' q => ⟨M', fin (zg_law_6 G) M' _ rfl q.1, q.2⟩)
  | 7, _ => exact (top_7 h h2 hI).elim (fun M' q => ⟨M', fin (zg_law_7 G) M' _ rfl q.1, q.2⟩)
  | 8, _ => exact (top_8 h h2 hI).elim (fun M' q => ⟨M', fin (zg_law_8 G) M' _ rfl q.1, q.2⟩)
  | 9, _ => exact (top_9 h h2 hI).elim (fun M' q => ⟨M', fin (zg_law_9 G) M' _ rfl q.1, q.2⟩)
  | 10, _ => exact (top_10 h h2 hI).elim (fun M' q => ⟨M', fin (zg_law_10 G) M' _ rfl q.1, q.2⟩)
  | 11, _ => exact (top_11 h h2 hI).elim (fun M' q => ⟨M', fin (zg_law_11 G) M' _ rfl q.1, q.2⟩)
  | 12, _ => exact (top_12 h h2 hI).elim (fun M' q => ⟨M', fin (zg_law_12 G) M' _ rfl q.1, q.2⟩)
  | 13, _ => exact (top_13 h h2 hI).elim (fun M' q => ⟨M', fin (zg_law_13 G) M' _ rfl q.1, q.2⟩)
  | 14, _ => exact (top_14 h h2 hI).elim (fun M' q => ⟨M', fin (zg_law_14 G) M' _ rfl q.1, q.2⟩)
  | 15, _ => exact (top_15 h h2 hI).elim (fun M' q => ⟨M', fin (zg_law_15 G) M' _ rfl q.1, q.2⟩)
  | 16, _ => exact (top_16 h h2 hI).elim (fun M' q => ⟨M', fin (zg_law_16 G) M' _ rfl q.1, q.2⟩)
  | 17, _ => exact (top_17 h h2 hI).elim (fun M' q => ⟨M', fin (zg_law_17 G) M' _ rfl q.1, q.2⟩)
  | 18, _ => exact (top_18 h h2 hI).elim (fun M' q => ⟨M', fin (zg_law_18 G) M' _ rfl q.1, q.2⟩)
  | 19, _ => exact (top_19 h h2 hI).elim (fun M' q => ⟨M', fin (zg_law_19 G) M' _ rfl q.1, q.2⟩)
  | 20, _ => exact (top_20 h h2 hI).elim (fun M' q => ⟨M', fin (zg_law_20 G) M' _ rfl q.1, q.2⟩)
  | 21, _ => exact ⟨M, fin zskip M _ rfl rfl, hI⟩
  | 22, _ => exact ⟨M, fin zskip M _ rfl rfl, hI⟩
  | 23, _ => exact ⟨M, fin zskip M _ rfl rfl, hI⟩
  | 24, _ => exact ⟨M, fin zskip M _ rfl rfl, hI⟩
  | 25, _ => exact ⟨M, fin zskip M _ rfl rfl, hI⟩
  | 26, _ => exact ⟨M, fin zskip M _ rfl rfl, hI⟩
  | 27, _ => exact ⟨M, fin zskip M _ rfl rfl, hI⟩
  | 28, _ => exact ⟨M, fin zskip M _ rfl rfl, hI⟩
  | 29, _ => exact ⟨M, fin zskip M _ rfl rfl, hI⟩
  | 30, _ => exact ⟨M, fin zskip M _ rfl rfl, hI⟩
  | 31, _ => exact ⟨M, fin zskip M _ rfl rfl, hI⟩
  | j + 32, h => exact absurd h (by omega)
theorem top_loop {G : xm_G} (h2 : G.2.2.2.2.1 ≤ 2560) (h3 : G.2.2.2.2.1 ≤ 5) {M : zM} (hI : Inv M) (hM : M = xp_mm) : ∃ x M', zwh (zc_law G) (zs_law G) (lsT (nI 0)) M = some (none, lsT x, M') := by
  have sl : ∀ (x : Int32) (M : zM), zc_law G (lsT x) M = some (xe_cd .le x (nI G.2.2.2.2.1 - nI 5), M) := fun x M => by simp [zc_law, zcmp, zi, lsT, zbin, zsl, zk, z_sub]; rfl
  have ct : ∀ i, i + 4 < G.2.2.2.2.1 → xe_cd .le (nI i) (nI G.2.2.2.2.1 - nI 5) = true := fun i hi => by
    rw [pk_sub (by omega), zc_le (by omega) (by omega)]
    exact decide_eq_true (by omega)
  have cf : ∀ i, ¬ i + 4 < G.2.2.2.2.1 → i ≤ 2560 → xe_cd .le (nI i) (nI G.2.2.2.2.1 - nI 5) = false := fun i hi hb => by
    by_cases h5 : 5 ≤ G.2.2.2.2.1
    · rw [pk_sub h5, zc_le (by omega) (by omega)]
      exact decide_eq_false (by omega)
    · have neg : nI G.2.2.2.2.1 - nI 5 < 0 := by
        match G.2.2.2.2.1, h5 with
        | 0, _ => decide
        | 1, _ => decide
        | 2, _ => decide
        | 3, _ => decide
        | 4, _ => decide
        | n + 5, h => exact absurd (by omega) h
      have ps : ¬ nI i < 0 := nI_pos (by omega)
      simp only [xe_cd, decide_eq_false_iff_not, Int32.le_iff_toInt_le, Int32.lt_iff_toInt_lt] at neg ps ⊢
      omega
  obtain ⟨r, ls, M', w1, rfl, x, rfl⟩ := zwh_inv (c := zc_law G) (s := zs_law G) (fun j ls M' => ls = lsT (nI (5 * j)) ∧ Inv M' ∧ (j = 0 → M' = xp_mm)) (Q := fun r ls M' => r = none ∧ ∃ x, ls = lsT x) (n := G.2.2.2.2.1 / 5) (fun ls M' q => by
    obtain ⟨rfl, q⟩ := q
    exact ⟨by rw [sl, cf _ (by omega) (by omega)], rfl, _, rfl⟩) (G.2.2.2.2.1 / 5) 0 (by omega) (fun j ls M' _ hj q => by
    obtain ⟨rfl, q⟩ := q
    refine ⟨by rw [sl, ct _ (by omega)], ?_⟩
    obtain ⟨M2, e, q2⟩ := top_sw (i := 5 * j) (by omega) h2 q.1 (q.2 (by omega))
    exact ⟨none, _, M2, e, by rw [Nat.mul_succ], q2, fun z => absurd z (by omega)⟩) (lsT (nI 0)) M ⟨rfl, hI, fun _ => hM⟩
  exact ⟨x, M', w1⟩
set_option maxRecDepth 100000 in
set_option maxHeartbeats 4000000 in
theorem whole_start {p : Program} {e : Env} {s : State} {m : MethodId} {below : List Frame} {meth : Method} {c : Code} (l : Launch) {b L : Nat} {xs : Nat → Int32} (hL : L ≤ 5) (C0 : lw_At p s m meth c b L xs) : W p l e room_1 s m #[Value.ref b] below meth c s.heap [] 0 0 (lw_Z below #[Value.ref b] s) (entryFrame m ([Value.ref b] : List Value).toArray 4) := by
  refine xm_lawstart l C0 (fun G hG => ?_)
  have g1 : G.2.2.2.2.1 = L := by rw [hG]
  obtain ⟨x, M', w⟩ := top_loop (G := G) (by rw [g1]; exact Nat.le_trans hL (by decide)) (by rw [g1]; exact hL) Inv_0 rfl
  refine xm_new (q := ("LatinLaws", xm_T4, 5)) rfl rfl (by decide) (by decide) ?_
  refine xm_step rfl rfl ?_
  refine xm_callI (As := []) (k := 0) (rest := [.ref 0]) (d' := 900) (mc' := 31) (ms' := 1366) rfl (c_Latin (d := 896)) rfl (by decide) (by decide) (by decide) (Nat.le_of_ble_eq_true rfl) (fun r h' hp => ?_)
  obtain ⟨rfl, rfl⟩ := hp
  refine xm_step rfl rfl ?_
  refine xm_new (q := ("LatinLawsModel", xm_T5, 7)) rfl rfl (by decide) (by decide) ?_
  refine xm_step rfl rfl ?_
  refine xm_callI (As := []) (k := 32) (rest := [.ref 32]) (d' := 900) (mc' := 6) (ms' := 40782) rfl (c_Model (d := 899)) rfl (by decide) (by decide) (by decide) (Nat.le_of_ble_eq_true rfl) (fun r h' hp => ?_)
  obtain ⟨rfl, rfl⟩ := hp
  refine xm_step rfl rfl ?_
  have run : zseq (zst 3 (zk (nI 0))) (zwh (zc_law G) (zs_law G)) [some (.float 0), some (.ref 0), some (.ref 32), none] xp_mm = some (none, lsT x, M') := by
    unfold zseq zst zk
    exact w
  refine zr_law (G := G) (l := l) _ xp_mm none (lsT x) M' run _ _ _ _ _ (by decide) (by decide) (fun _ => ?_) (fun v h => by cases h)
  refine xm_step rfl rfl ?_
  exact xm_retI rfl rfl rfl (by decide) (by decide) rfl
