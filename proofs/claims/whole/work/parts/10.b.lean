/-! METHODS THAT ONLY LOOK -/
theorem in_t {j h : Nat} {s : mS} (hj : j ≤ h) (hh : h < 2147483648) : q189 (nI j) (nI 0) (nI h) s = rv (nI 1) s := by
  unfold q189; simp (disch := omega) only [nI_lit, nI_add, pk_mul, nI_clp, nI_eqv, nI_lev, nI_ltv, nI_neg, nI_neg', nI_subv, Nat.add_zero, Nat.zero_add, Nat.mul_zero, Nat.reduceAdd, bN_rv, bM_ru, bV_rv, bV_rx, bU_ru, bU_rx, bN_ite, bM_ite, bV_ite, bU_ite, ↓bx_e, ↓sp_e, gA_ok, gZ_n, gB_0, gB_1, gB_i, and_true, and_false, true_and, false_and, decide_true, decide_false, ↓reduceIte, not_true_eq_false, not_false_eq_true, Bool.false_eq_true, Bool.true_eq_false, Bool.and_true, Bool.and_false, Bool.true_and, Bool.false_and, Bool.or_true, Bool.or_false, Bool.true_or, Bool.false_or, Bool.not_true, Bool.not_false, le_f, le_t, lt_f, lt_t, eq_f, ↓reduceIte, not_true_eq_false, not_false_eq_true, ite_10, bt_0, bt_1]
theorem in_f {v : Int32} {h : Nat} {s : mS} (hh : h + 1 < 2147483648) (hv : v < nI 0 ∨ nI (h + 1) ≤ v) : q189 v (nI 0) (nI h) s = rv (nI 0) s := by
  unfold q189
  rw [nI_lit, nI_lit]
  by_cases h0 : v < nI 0
  · simp only [h0, ↓reduceIte]
  · have h1 : nI h < v := by
      rcases hv with q | q
      · exact absurd q h0
      · exact Int32.lt_of_lt_of_le ((nI_ltI (by omega) (by omega)).mpr (by omega)) q
    simp only [h0, h1, ↓reduceIte]
theorem m188_1 {c : Int32} {s : mS} : q188 (nI 1) c s = rv (nI 1) (sI s 512 0 c) := by
  unfold q188; simp (disch := omega) only [nI_lit, nI_add, pk_mul, nI_clp, nI_eqv, nI_lev, nI_ltv, nI_neg, nI_neg', nI_subv, Nat.add_zero, Nat.zero_add, Nat.mul_zero, Nat.reduceAdd, bN_rv, bM_ru, bV_rv, bV_rx, bU_ru, bU_rx, bN_ite, bM_ite, bV_ite, bU_ite, ↓bx_e, ↓sp_e, gA_ok, gZ_n, gB_0, gB_1, gB_i, and_true, and_false, true_and, false_and, decide_true, decide_false, ↓reduceIte, not_true_eq_false, not_false_eq_true, Bool.false_eq_true, Bool.true_eq_false, Bool.and_true, Bool.and_false, Bool.true_and, Bool.false_and, Bool.or_true, Bool.or_false, Bool.true_or, Bool.false_or, Bool.not_true, Bool.not_false, le_f, le_t, lt_f, lt_t, eq_f, ↓reduceIte, not_true_eq_false, not_false_eq_true, ite_10, bt_0, bt_1]
theorem m188_0 {c : Int32} {s : mS} : q188 (nI 0) c s = rv (nI 0) s := by
  unfold q188; simp (disch := omega) only [nI_lit, nI_add, pk_mul, nI_clp, nI_eqv, nI_lev, nI_ltv, nI_neg, nI_neg', nI_subv, Nat.add_zero, Nat.zero_add, Nat.mul_zero, Nat.reduceAdd, bN_rv, bM_ru, bV_rv, bV_rx, bU_ru, bU_rx, bN_ite, bM_ite, bV_ite, bU_ite, ↓bx_e, ↓sp_e, gA_ok, gZ_n, gB_0, gB_1, gB_i, and_true, and_false, true_and, false_and, decide_true, decide_false, ↓reduceIte, not_true_eq_false, not_false_eq_true, Bool.false_eq_true, Bool.true_eq_false, Bool.and_true, Bool.and_false, Bool.true_and, Bool.false_and, Bool.or_true, Bool.or_false, Bool.true_or, Bool.false_or, Bool.not_true, Bool.not_false, le_f, le_t, lt_f, lt_t, eq_f, ↓reduceIte, not_true_eq_false, not_false_eq_true, ite_10, bt_0, bt_1]
theorem m273_t {j : Nat} {s : mS} (h : j < 8) : q273 (nI j) s = rv (nI 0) s := by
  unfold q273; rw [nI_lit, nI_lit, in_t (by omega) (by omega)]; simp (disch := omega) only [nI_lit, nI_add, pk_mul, nI_clp, nI_eqv, nI_lev, nI_ltv, nI_neg, nI_neg', nI_subv, Nat.add_zero, Nat.zero_add, Nat.mul_zero, Nat.reduceAdd, bN_rv, bM_ru, bV_rv, bV_rx, bU_ru, bU_rx, bN_ite, bM_ite, bV_ite, bU_ite, ↓bx_e, ↓sp_e, gA_ok, gZ_n, gB_0, gB_1, gB_i, and_true, and_false, true_and, false_and, decide_true, decide_false, ↓reduceIte, not_true_eq_false, not_false_eq_true, Bool.false_eq_true, Bool.true_eq_false, Bool.and_true, Bool.and_false, Bool.true_and, Bool.false_and, Bool.or_true, Bool.or_false, Bool.true_or, Bool.false_or, Bool.not_true, Bool.not_false, le_f, le_t, lt_f, lt_t, eq_f, ↓reduceIte, not_true_eq_false, not_false_eq_true, ite_10, bt_0, bt_1]
theorem m273_f {v : Int32} {s : mS} (h : v < nI 0 ∨ nI 8 ≤ v) : q273 v s = rv (nI 1) s := by
  unfold q273; rw [nI_lit, nI_lit, in_f (by omega) h]; simp (disch := omega) only [nI_lit, nI_add, pk_mul, nI_clp, nI_eqv, nI_lev, nI_ltv, nI_neg, nI_neg', nI_subv, Nat.add_zero, Nat.zero_add, Nat.mul_zero, Nat.reduceAdd, bN_rv, bM_ru, bV_rv, bV_rx, bU_ru, bU_rx, bN_ite, bM_ite, bV_ite, bU_ite, ↓bx_e, ↓sp_e, gA_ok, gZ_n, gB_0, gB_1, gB_i, and_true, and_false, true_and, false_and, decide_true, decide_false, ↓reduceIte, not_true_eq_false, not_false_eq_true, Bool.false_eq_true, Bool.true_eq_false, Bool.and_true, Bool.and_false, Bool.true_and, Bool.false_and, Bool.or_true, Bool.or_false, Bool.true_or, Bool.false_or, Bool.not_true, Bool.not_false, le_f, le_t, lt_f, lt_t, eq_f, ↓reduceIte, not_true_eq_false, not_false_eq_true, ite_10, bt_0, bt_1]
theorem m274_t {j : Nat} {s : mS} (h : j < 10) : q274 (nI j) s = rv (nI 0) s := by
  unfold q274; rw [nI_lit, nI_lit, in_t (by omega) (by omega)]; simp (disch := omega) only [nI_lit, nI_add, pk_mul, nI_clp, nI_eqv, nI_lev, nI_ltv, nI_neg, nI_neg', nI_subv, Nat.add_zero, Nat.zero_add, Nat.mul_zero, Nat.reduceAdd, bN_rv, bM_ru, bV_rv, bV_rx, bU_ru, bU_rx, bN_ite, bM_ite, bV_ite, bU_ite, ↓bx_e, ↓sp_e, gA_ok, gZ_n, gB_0, gB_1, gB_i, and_true, and_false, true_and, false_and, decide_true, decide_false, ↓reduceIte, not_true_eq_false, not_false_eq_true, Bool.false_eq_true, Bool.true_eq_false, Bool.and_true, Bool.and_false, Bool.true_and, Bool.false_and, Bool.or_true, Bool.or_false, Bool.true_or, Bool.false_or, Bool.not_true, Bool.not_false, le_f, le_t, lt_f, lt_t, eq_f, ↓reduceIte, not_true_eq_false, not_false_eq_true, ite_10, bt_0, bt_1]
theorem m274_f {v : Int32} {s : mS} (h : v < nI 0 ∨ nI 10 ≤ v) : q274 v s = rv (nI 1) s := by
  unfold q274; rw [nI_lit, nI_lit, in_f (by omega) h]; simp (disch := omega) only [nI_lit, nI_add, pk_mul, nI_clp, nI_eqv, nI_lev, nI_ltv, nI_neg, nI_neg', nI_subv, Nat.add_zero, Nat.zero_add, Nat.mul_zero, Nat.reduceAdd, bN_rv, bM_ru, bV_rv, bV_rx, bU_ru, bU_rx, bN_ite, bM_ite, bV_ite, bU_ite, ↓bx_e, ↓sp_e, gA_ok, gZ_n, gB_0, gB_1, gB_i, and_true, and_false, true_and, false_and, decide_true, decide_false, ↓reduceIte, not_true_eq_false, not_false_eq_true, Bool.false_eq_true, Bool.true_eq_false, Bool.and_true, Bool.and_false, Bool.true_and, Bool.false_and, Bool.or_true, Bool.or_false, Bool.true_or, Bool.false_or, Bool.not_true, Bool.not_false, le_f, le_t, lt_f, lt_t, eq_f, ↓reduceIte, not_true_eq_false, not_false_eq_true, ite_10, bt_0, bt_1]
theorem p179_t {j : Nat} {s : mS} (h : j < 8) : q179 (nI j) s = ru s := by
  unfold q179; simp (disch := omega) only [nI_lit, nI_add, pk_mul, nI_clp, nI_eqv, nI_lev, nI_ltv, nI_neg, nI_neg', nI_subv, Nat.add_zero, Nat.zero_add, Nat.mul_zero, Nat.reduceAdd, bN_rv, bM_ru, bV_rv, bV_rx, bU_ru, bU_rx, bN_ite, bM_ite, bV_ite, bU_ite, ↓bx_e, ↓sp_e, gA_ok, gZ_n, gB_0, gB_1, gB_i, and_true, and_false, true_and, false_and, decide_true, decide_false, ↓reduceIte, not_true_eq_false, not_false_eq_true, Bool.false_eq_true, Bool.true_eq_false, Bool.and_true, Bool.and_false, Bool.true_and, Bool.false_and, Bool.or_true, Bool.or_false, Bool.true_or, Bool.false_or, Bool.not_true, Bool.not_false, le_f, le_t, lt_f, lt_t, eq_f, ↓reduceIte, not_true_eq_false, not_false_eq_true, ite_10, bt_0, bt_1]
theorem p179_f {v : Int32} {s : mS} (h : v < nI 0 ∨ nI 8 ≤ v) : q179 v s = rx 2 s := by
  unfold q179 q179_10
  rw [nI_lit, nI_lit]
  by_cases h0 : v < nI 0
  · simp only [h0, ↓reduceIte]
  · have h1 : ¬ v < nI 8 := Int32.not_lt.mpr (h.resolve_left h0)
    simp only [h0, h1, ↓reduceIte]
theorem p180_t {j : Nat} {s : mS} (h : j < 10) : q180 (nI j) s = ru s := by
  unfold q180; simp (disch := omega) only [nI_lit, nI_add, pk_mul, nI_clp, nI_eqv, nI_lev, nI_ltv, nI_neg, nI_neg', nI_subv, Nat.add_zero, Nat.zero_add, Nat.mul_zero, Nat.reduceAdd, bN_rv, bM_ru, bV_rv, bV_rx, bU_ru, bU_rx, bN_ite, bM_ite, bV_ite, bU_ite, ↓bx_e, ↓sp_e, gA_ok, gZ_n, gB_0, gB_1, gB_i, and_true, and_false, true_and, false_and, decide_true, decide_false, ↓reduceIte, not_true_eq_false, not_false_eq_true, Bool.false_eq_true, Bool.true_eq_false, Bool.and_true, Bool.and_false, Bool.true_and, Bool.false_and, Bool.or_true, Bool.or_false, Bool.true_or, Bool.false_or, Bool.not_true, Bool.not_false, le_f, le_t, lt_f, lt_t, eq_f, ↓reduceIte, not_true_eq_false, not_false_eq_true, ite_10, bt_0, bt_1]
theorem p180_f {v : Int32} {s : mS} (h : v < nI 0 ∨ nI 10 ≤ v) : q180 v s = rx 2 s := by
  unfold q180 q180_10
  rw [nI_lit, nI_lit]
  by_cases h0 : v < nI 0
  · simp only [h0, ↓reduceIte]
  · have h1 : ¬ v < nI 10 := Int32.not_lt.mpr (h.resolve_left h0)
    simp only [h0, h1, ↓reduceIte]
theorem p184_t {j h : Nat} {s : mS} (hj : j ≤ h) (hh : h < 2147483648) : q184 (nI j) (nI h) s = ru s := by
  unfold q184; simp (disch := omega) only [nI_lit, nI_add, pk_mul, nI_clp, nI_eqv, nI_lev, nI_ltv, nI_neg, nI_neg', nI_subv, Nat.add_zero, Nat.zero_add, Nat.mul_zero, Nat.reduceAdd, bN_rv, bM_ru, bV_rv, bV_rx, bU_ru, bU_rx, bN_ite, bM_ite, bV_ite, bU_ite, ↓bx_e, ↓sp_e, gA_ok, gZ_n, gB_0, gB_1, gB_i, and_true, and_false, true_and, false_and, decide_true, decide_false, ↓reduceIte, not_true_eq_false, not_false_eq_true, Bool.false_eq_true, Bool.true_eq_false, Bool.and_true, Bool.and_false, Bool.true_and, Bool.false_and, Bool.or_true, Bool.or_false, Bool.true_or, Bool.false_or, Bool.not_true, Bool.not_false, le_f, le_t, lt_f, lt_t, eq_f, ↓reduceIte, not_true_eq_false, not_false_eq_true, ite_10, bt_0, bt_1]
theorem p184_f {v : Int32} {h : Nat} {s : mS} (hh : h + 1 < 2147483648) (hv : v < nI 0 ∨ nI (h + 1) ≤ v) : q184 v (nI h) s = rx 3 s := by
  unfold q184 q184_9
  rw [nI_lit]
  by_cases h0 : v < nI 0
  · simp only [h0, ↓reduceIte]
  · have h1 : ¬ v ≤ nI h := by
      rcases hv with q | q
      · exact absurd q h0
      · exact Int32.not_le.mpr (Int32.lt_of_lt_of_le ((nI_ltI (by omega) (by omega)).mpr (by omega)) q)
    simp only [h0, h1, ↓reduceIte]
/-- 'thrown' is set to 0, then to c -/
theorem t0_513 {t : mS} {x : Int32} : (sI t 512 0 x).1 513 = t.1 513 := sI_fn (by omega)
theorem t0_0 {t : mS} {x : Int32} : (sI t 512 0 x).1 512 0 = x := by rw [sI_sm, ud_e rfl]
theorem Gq_0 {t : mS} {x : Int32} : Gq t (sI t 512 0 x) := Gq_512 (by omega)
section LOOK
variable {B : Nat} {s : mS}
theorem z_fault (hG : G B s) : ZN B q132 q223 s := by
  refine ZN_look hG (v := s.1 0 13) (s1 := s) rfl rfl Gq_r (fun t ht => ⟨sI t 512 0 (nI 0), ?_, Eq.trans rfl rfl, Gq_0⟩)
  unfold q223
  simp (disch := omega) only [sI_at, eq_f, ht, nI_lit, nI_add, pk_mul, nI_clp, nI_eqv, nI_lev, nI_ltv, nI_neg, nI_neg', nI_subv, Nat.add_zero, Nat.zero_add, Nat.mul_zero, Nat.reduceAdd, bN_rv, bM_ru, bV_rv, bV_rx, bU_ru, bU_rx, bN_ite, bM_ite, bV_ite, bU_ite, ↓bx_e, ↓sp_e, gA_ok, gZ_n, gB_0, gB_1, gB_i, and_true, and_false, true_and, false_and, decide_true, decide_false, ↓reduceIte, not_true_eq_false, not_false_eq_true, Bool.false_eq_true, Bool.true_eq_false, Bool.and_true, Bool.and_false, Bool.true_and, Bool.false_and, Bool.or_true, Bool.or_false, Bool.true_or, Bool.false_or, Bool.not_true, Bool.not_false, le_f, le_t, lt_f, lt_t, eq_f, ↓reduceIte, not_true_eq_false, not_false_eq_true, ite_10, bt_0, bt_1]
  rw [hG.2.2.2.2.1]
theorem w_run (hG : G B s) : s.1 (26 + 6) 0 = sAll (s.1 513) (nI 1) := by
  apply b_ext; intro j _; rw [hG.1.1.1.1 j, bt_sAll]; rfl
theorem w_fin (hG : G B s) : s.1 (26 + 6) 1 = sAll (s.1 513) (nI 2) := by
  apply b_ext; intro j _; rw [hG.1.1.1.2.1 j, bt_sAll]; rfl
theorem z_running (hG : G B s) : ZN B q169 q327 s := by
  refine ZN_look hG (v := sAll (s.1 513) (nI 1)) (s1 := s) (by unfold q169; rw [w_run hG]) rfl Gq_r (fun t ht => ⟨sI t 512 0 (nI 0), ?_, Eq.trans rfl rfl, Gq_0⟩)
  unfold q327
  simp (disch := omega) only [m208, t0_513, ht, nI_lit, nI_add, pk_mul, nI_clp, nI_eqv, nI_lev, nI_ltv, nI_neg, nI_neg', nI_subv, Nat.add_zero, Nat.zero_add, Nat.mul_zero, Nat.reduceAdd, bN_rv, bM_ru, bV_rv, bV_rx, bU_ru, bU_rx, bN_ite, bM_ite, bV_ite, bU_ite, ↓bx_e, ↓sp_e, gA_ok, gZ_n, gB_0, gB_1, gB_i, and_true, and_false, true_and, false_and, decide_true, decide_false, ↓reduceIte, not_true_eq_false, not_false_eq_true, Bool.false_eq_true, Bool.true_eq_false, Bool.and_true, Bool.and_false, Bool.true_and, Bool.false_and, Bool.or_true, Bool.or_false, Bool.true_or, Bool.false_or, Bool.not_true, Bool.not_false, le_f, le_t, lt_f, lt_t, eq_f, ↓reduceIte, not_true_eq_false, not_false_eq_true, ite_10, bt_0, bt_1]
theorem z_finished (hG : G B s) : ZN B q170 q328 s := by
  refine ZN_look hG (v := sAll (s.1 513) (nI 2)) (s1 := s) (by unfold q170; rw [w_fin hG]) rfl Gq_r (fun t ht => ⟨sI t 512 0 (nI 0), ?_, Eq.trans rfl rfl, Gq_0⟩)
  unfold q328
  simp (disch := omega) only [m208, t0_513, ht, nI_lit, nI_add, pk_mul, nI_clp, nI_eqv, nI_lev, nI_ltv, nI_neg, nI_neg', nI_subv, Nat.add_zero, Nat.zero_add, Nat.mul_zero, Nat.reduceAdd, bN_rv, bM_ru, bV_rv, bV_rx, bU_ru, bU_rx, bN_ite, bM_ite, bV_ite, bU_ite, ↓bx_e, ↓sp_e, gA_ok, gZ_n, gB_0, gB_1, gB_i, and_true, and_false, true_and, false_and, decide_true, decide_false, ↓reduceIte, not_true_eq_false, not_false_eq_true, Bool.false_eq_true, Bool.true_eq_false, Bool.and_true, Bool.and_false, Bool.true_and, Bool.false_and, Bool.or_true, Bool.or_false, Bool.true_or, Bool.false_or, Bool.not_true, Bool.not_false, le_f, le_t, lt_f, lt_t, eq_f, ↓reduceIte, not_true_eq_false, not_false_eq_true, ite_10, bt_0, bt_1]
theorem z_seen (hG : G B s) (v1 v2 : Int32) : ZT B [(2, 13, 1)] (q135 v1 v2) (q277 v1 v2) s := by
  have hG0 := hG
  obtain ⟨⟨hR, hL, T, hT, hA⟩, -⟩ := hG0
  have bad : (v1 < nI 0 ∨ nI 8 ≤ v1) ∨ ((∃ i, i < 8 ∧ v1 = nI i) ∧ (v2 < nI 0 ∨ nI 10 ≤ v2)) → ZT B [(2, 13, 1)] (q135 v1 v2) (q277 v1 v2) s := by
    intro hb
    refine ZX_look (x := 2) (u := 2) (w := 13) (c := 1) hG ?_ rfl (by omega) (by omega) (fun t ht => ⟨nI 0, sI (sI t 512 0 (nI 0)) 512 0 (nI 1), ?_, Eq.trans rfl rfl, t0_0, Gq_t Gq_0 Gq_0⟩)
    · unfold q135
      rcases hb with h | ⟨⟨i, hi, e⟩, h⟩
      · rw [p179_f h]; rfl
      · subst e
        rw [p179_t hi]; simp only [bU_ru]
        rw [p180_f h]; rfl
    · unfold q277 q277_20 q277_25
      rcases hb with h | ⟨⟨i, hi, e⟩, h⟩
      · simp (disch := omega) only [m273_f h, m188_1, nI_lit, nI_add, pk_mul, nI_clp, nI_eqv, nI_lev, nI_ltv, nI_neg, nI_neg', nI_subv, Nat.add_zero, Nat.zero_add, Nat.mul_zero, Nat.reduceAdd, bN_rv, bM_ru, bV_rv, bV_rx, bU_ru, bU_rx, bN_ite, bM_ite, bV_ite, bU_ite, ↓bx_e, ↓sp_e, gA_ok, gZ_n, gB_0, gB_1, gB_i, and_true, and_false, true_and, false_and, decide_true, decide_false, ↓reduceIte, not_true_eq_false, not_false_eq_true, Bool.false_eq_true, Bool.true_eq_false, Bool.and_true, Bool.and_false, Bool.true_and, Bool.false_and, Bool.or_true, Bool.or_false, Bool.true_or, Bool.false_or, Bool.not_true, Bool.not_false, le_f, le_t, lt_f, lt_t, eq_f, ↓reduceIte, not_true_eq_false, not_false_eq_true, ite_10, bt_0, bt_1]
      · subst e
        simp (disch := omega) only [m273_t, m274_f h, m188_1, nI_lit, nI_add, pk_mul, nI_clp, nI_eqv, nI_lev, nI_ltv, nI_neg, nI_neg', nI_subv, Nat.add_zero, Nat.zero_add, Nat.mul_zero, Nat.reduceAdd, bN_rv, bM_ru, bV_rv, bV_rx, bU_ru, bU_rx, bN_ite, bM_ite, bV_ite, bU_ite, ↓bx_e, ↓sp_e, gA_ok, gZ_n, gB_0, gB_1, gB_i, and_true, and_false, true_and, false_and, decide_true, decide_false, ↓reduceIte, not_true_eq_false, not_false_eq_true, Bool.false_eq_true, Bool.true_eq_false, Bool.and_true, Bool.and_false, Bool.true_and, Bool.false_and, Bool.or_true, Bool.or_false, Bool.true_or, Bool.false_or, Bool.not_true, Bool.not_false, le_f, le_t, lt_f, lt_t, eq_f, ↓reduceIte, not_true_eq_false, not_false_eq_true, ite_10, bt_0, bt_1]
  rcases ix_of v1 8 (by omega) with h | h | ⟨i, hi, e⟩
  · exact bad (Or.inl (Or.inl h))
  · exact bad (Or.inl (Or.inr h))
  · rcases ix_of v2 10 (by omega) with h | h | ⟨k, hk, e2⟩
    · exact bad (Or.inr ⟨⟨i, hi, e⟩, Or.inl h⟩)
    · exact bad (Or.inr ⟨⟨i, hi, e⟩, Or.inr h⟩)
    · subst e; subst e2
      have e14 : sU (s.1 513) i = true → s.1 (26 + 6 + 11) (i * 10 + k) = s.1 513 (74 + 21 * i + 11 + k) := fun hu => by
        have := hR.1.2.2.2.2.2.2.2.2.2.2.2.2.2.2 i hi hu k hk
        rw [show i * 10 + k = 10 * i + k by omega]; exact this
      refine ZV_look (v := if sU (s.1 513) i = false then -nI 1 else s.1 513 (74 + 21 * i + 11 + k)) (s1 := s) hG ?_ rfl Gq_r (fun t ht => ⟨sI t 512 0 (nI 0), ?_, Eq.trans rfl rfl, t0_0, Gq_0⟩)
      · unfold q135
        rw [p179_t hi]; simp only [bU_ru]
        rw [p180_t hk]; simp only [bU_ru]
        simp (disch := omega) only [p65 hR.1 hA.1.1, b2_0, nI_lit, nI_add, pk_mul, nI_clp, nI_eqv, nI_lev, nI_ltv, nI_neg, nI_neg', nI_subv, Nat.add_zero, Nat.zero_add, Nat.mul_zero, Nat.reduceAdd, bN_rv, bM_ru, bV_rv, bV_rx, bU_ru, bU_rx, bN_ite, bM_ite, bV_ite, bU_ite, ↓bx_e, ↓sp_e, gA_ok, gZ_n, gB_0, gB_1, gB_i, and_true, and_false, true_and, false_and, decide_true, decide_false, ↓reduceIte, not_true_eq_false, not_false_eq_true, Bool.false_eq_true, Bool.true_eq_false, Bool.and_true, Bool.and_false, Bool.true_and, Bool.false_and, Bool.or_true, Bool.or_false, Bool.true_or, Bool.false_or, Bool.not_true, Bool.not_false, le_f, le_t, lt_f, lt_t, eq_f, ↓reduceIte, not_true_eq_false, not_false_eq_true, ite_10, bt_0, bt_1]
        cases e : sU (s.1 513) i
        · simp only [and_true, and_false, true_and, false_and, decide_true, decide_false, ↓reduceIte, not_true_eq_false, not_false_eq_true, Bool.false_eq_true, Bool.true_eq_false, Bool.and_true, Bool.and_false, Bool.true_and, Bool.false_and, Bool.or_true, Bool.or_false, Bool.true_or, Bool.false_or, Bool.not_true, Bool.not_false]
        · have := e14 e
          simp only [Nat.reduceAdd] at this
          simp only [this, and_true, and_false, true_and, false_and, decide_true, decide_false, ↓reduceIte, not_true_eq_false, not_false_eq_true, Bool.false_eq_true, Bool.true_eq_false, Bool.and_true, Bool.and_false, Bool.true_and, Bool.false_and, Bool.or_true, Bool.or_false, Bool.true_or, Bool.false_or, Bool.not_true, Bool.not_false]
      · unfold q277 q277_20 q277_25
        have ee : (t.1 513) (74 + 21 * i + (11 + k)) = s.1 513 (74 + 21 * i + 11 + k) := by rw [ht, show 74 + 21 * i + (11 + k) = 74 + 21 * i + 11 + k by omega]
        simp (disch := omega) only [m273_t, m274_t, m188_0, t0_513, ee, nI_lit, nI_add, pk_mul, nI_clp, nI_eqv, nI_lev, nI_ltv, nI_neg, nI_neg', nI_subv, Nat.add_zero, Nat.zero_add, Nat.mul_zero, Nat.reduceAdd, bN_rv, bM_ru, bV_rv, bV_rx, bU_ru, bU_rx, bN_ite, bM_ite, bV_ite, bU_ite, ↓bx_e, ↓sp_e, gA_ok, gZ_n, gB_0, gB_1, gB_i, and_true, and_false, true_and, false_and, decide_true, decide_false, ↓reduceIte, not_true_eq_false, not_false_eq_true, Bool.false_eq_true, Bool.true_eq_false, Bool.and_true, Bool.and_false, Bool.true_and, Bool.false_and, Bool.or_true, Bool.or_false, Bool.true_or, Bool.false_or, Bool.not_true, Bool.not_false, le_f, le_t, lt_f, lt_t, eq_f, ↓reduceIte, not_true_eq_false, not_false_eq_true, ite_10, bt_0, bt_1, q198, q199, q200, q201, q202, q203, q204, m190, m205, m206, b2_0, q189, q187]
        have hz : (t.1 513 (74 + 21 * i) = nI 0) = (sU (s.1 513) i = false) := by
          rw [ht]; unfold sU
          by_cases q : s.1 513 (74 + 21 * i) = nI 0 <;> simp only [q, and_true, and_false, true_and, false_and, decide_true, decide_false, ↓reduceIte, not_true_eq_false, not_false_eq_true, Bool.false_eq_true, Bool.true_eq_false, Bool.and_true, Bool.and_false, Bool.true_and, Bool.false_and, Bool.or_true, Bool.or_false, Bool.true_or, Bool.false_or, Bool.not_true, Bool.not_false]
        simp only [hz]
        cases sU (s.1 513) i <;> simp only [and_true, and_false, true_and, false_and, decide_true, decide_false, ↓reduceIte, not_true_eq_false, not_false_eq_true, Bool.false_eq_true, Bool.true_eq_false, Bool.and_true, Bool.and_false, Bool.true_and, Bool.false_and, Bool.or_true, Bool.or_false, Bool.true_or, Bool.false_or, Bool.not_true, Bool.not_false]
end LOOK
