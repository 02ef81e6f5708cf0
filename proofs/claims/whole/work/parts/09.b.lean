/-! READ IN THE REFERENCE; WRITE -/
theorem MA_u {t : mS} {k : Nat} {x : Int32} (h : ∀ j, j < 8 → 74 + 21 * j ≠ k) : MA t (wr t (upd (t.1 513) k x)) (t.1 513) (upd (t.1 513) k x) := MA_wr (fun j hj => sR_u (h j hj))
theorem m178 {t : mS} {T : Nat} (hm : IM T (t.1 513)) : ∃ t', q263_178 t = ru t' ∧ MA t t' (t.1 513) (mSt (t.1 513)) := by
  obtain ⟨t1, t2, h1, h2, h3⟩ := mSet hm
  refine ⟨t2, ?_, h3⟩
  unfold q263_178
  rw [h1]; simp only [bM_ru]; rw [h2]; simp only [bM_ru]
theorem m263E {t : mS} {T : Nat} {f : Nat → Int32} (hf : t.1 513 = f) (hm : IM T f) {i k : Nat} (hi : i < 8) (hk : k < 10) (hr : sR f i = true) : ∃ t', q263_109 (nI i) (nI k) t = ru t' ∧ MA t t' f (mRdE f i k) := by
  have hu := sR_U hr
  unfold mRdE
  by_cases hq : f (9 + 4 * k + 2) ≤ f (74 + 21 * i + 2)
  · obtain ⟨t1, j1, j2⟩ := m178 (t := t) (T := T) (by rw [hf]; exact hm)
    rw [hf] at j2
    refine ⟨t1, ?_, by simp only [hq, ↓reduceIte]; exact j2⟩
    unfold q263_109
    simp (disch := omega) only [hf, hq, j1, nI_lit, nI_add, pk_mul, nI_clp, nI_eqv, nI_lev, nI_ltv, nI_neg, nI_neg', nI_subv, Nat.add_zero, Nat.zero_add, Nat.mul_zero, Nat.reduceAdd, bN_rv, bM_ru, bV_rv, bV_rx, bU_ru, bU_rx, bN_ite, bM_ite, bV_ite, bU_ite, ↓bx_e, ↓sp_e, gA_ok, gZ_n, gB_0, gB_1, gB_i, and_true, and_false, true_and, false_and, decide_true, decide_false, ↓reduceIte, not_true_eq_false, not_false_eq_true, Bool.false_eq_true, Bool.true_eq_false, Bool.and_true, Bool.and_false, Bool.true_and, Bool.false_and, Bool.or_true, Bool.or_false, Bool.true_or, Bool.false_or, Bool.not_true, Bool.not_false, le_f, le_t, lt_f, lt_t, eq_f, ↓reduceIte, not_true_eq_false, not_false_eq_true, ite_10, bt_0, bt_1, q198, q199, q200, q201, q202, q203, q204, m190, m205, m206, b2_0, q189, q187]
  · have M1 := IM_8 hm hi hu
    generalize hg : upd f (74 + 21 * i + 8) (f (74 + 21 * i + 2) + nI 1) = g at *
    have e1 : (wr t g).1 513 = g := wr_1
    have A1 : MA t (wr t g) f g := by
      have := MA_u (t := t) (k := 74 + 21 * i + 8) (x := f (74 + 21 * i + 2) + nI 1) (fun j hj => by omega)
      rw [hf, hg] at this; exact this
    have hw1 : IW ((wr t g).1 513) := by rw [e1]; exact M1.1.1
    have hr1 : sR g i = true := by rw [← hg, sR_u (by omega)]; exact hr
    have ho1 : sOn g i = sOn f i := by
      have := (hm.1.1 i hi).2
      rw [← hg]; exact sOn_u (by omega) (by omega)
    have e3 : g (9 + 4 * k + 3) = f (9 + 4 * k + 3) := by rw [← hg]; exact ud_n (by omega)
    have e2 : g (74 + 21 * i + 2) = f (74 + 21 * i + 2) := by rw [← hg]; exact ud_n (by omega)
    obtain ⟨t2, l1, l2⟩ := m178 (t := wr t g) (T := T) (by rw [e1]; exact M1)
    rw [e1] at l2
    have ab := MA_ab (t := wr t g) hw1 hi (by rw [e1]; exact hr1) (w := nI 1)
    rw [e1] at ab
    have abq := m254 (t := wr t g) hw1 hi (w := nI 1)
    rw [e1] at abq
    generalize ht3 : wr (sI (wr t g) 512 18 ((wr t g).1 512 18 ||| shlI (nI 1) (nI i))) (mAbort g i (nI 1)) = t3 at *
    obtain ⟨t4, o1, o2⟩ := m178 (t := t3) (T := T) (by rw [ab.1]; exact IM_ab M1 hi (sR_U hr1))
    rw [ab.1] at o2
    have e8 : sI t 513 (74 + 21 * i + 8) (f (74 + 21 * i + 2) + nI 1) = wr t g := by rw [sI_w0, hf, hg]
    by_cases q3 : f (9 + 4 * k + 3) ≤ nI 0
    · refine ⟨t2, ?_, ?_⟩
      · unfold q263_109
        simp (disch := omega) only [hf, hq, e8, e1, e3, q3, l1, nI_lit, nI_add, pk_mul, nI_clp, nI_eqv, nI_lev, nI_ltv, nI_neg, nI_neg', nI_subv, Nat.add_zero, Nat.zero_add, Nat.mul_zero, Nat.reduceAdd, bN_rv, bM_ru, bV_rv, bV_rx, bU_ru, bU_rx, bN_ite, bM_ite, bV_ite, bU_ite, ↓bx_e, ↓sp_e, gA_ok, gZ_n, gB_0, gB_1, gB_i, and_true, and_false, true_and, false_and, decide_true, decide_false, ↓reduceIte, not_true_eq_false, not_false_eq_true, Bool.false_eq_true, Bool.true_eq_false, Bool.and_true, Bool.and_false, Bool.true_and, Bool.false_and, Bool.or_true, Bool.or_false, Bool.true_or, Bool.false_or, Bool.not_true, Bool.not_false, le_f, le_t, lt_f, lt_t, eq_f, ↓reduceIte, not_true_eq_false, not_false_eq_true, ite_10, bt_0, bt_1, q198, q199, q200, q201, q202, q203, q204, m190, m205, m206, b2_0, q189, q187]
      · simp only [hq, q3, and_true, and_false, true_and, false_and, decide_true, decide_false, ↓reduceIte, not_true_eq_false, not_false_eq_true, Bool.false_eq_true, Bool.true_eq_false, Bool.and_true, Bool.and_false, Bool.true_and, Bool.false_and, Bool.or_true, Bool.or_false, Bool.true_or, Bool.false_or, Bool.not_true, Bool.not_false]; exact MA_t A1 l2
    · cases eo : sOn f i
      · refine ⟨t4, ?_, ?_⟩
        · unfold q263_109
          simp (disch := omega) only [hf, hq, e8, e1, e3, q3, m207 hw1, ho1, eo, q263_172, abq, o1, nI_lit, nI_add, pk_mul, nI_clp, nI_eqv, nI_lev, nI_ltv, nI_neg, nI_neg', nI_subv, Nat.add_zero, Nat.zero_add, Nat.mul_zero, Nat.reduceAdd, bN_rv, bM_ru, bV_rv, bV_rx, bU_ru, bU_rx, bN_ite, bM_ite, bV_ite, bU_ite, ↓bx_e, ↓sp_e, gA_ok, gZ_n, gB_0, gB_1, gB_i, and_true, and_false, true_and, false_and, decide_true, decide_false, ↓reduceIte, not_true_eq_false, not_false_eq_true, Bool.false_eq_true, Bool.true_eq_false, Bool.and_true, Bool.and_false, Bool.true_and, Bool.false_and, Bool.or_true, Bool.or_false, Bool.true_or, Bool.false_or, Bool.not_true, Bool.not_false, le_f, le_t, lt_f, lt_t, eq_f, ↓reduceIte, not_true_eq_false, not_false_eq_true, ite_10, bt_0, bt_1, q198, q199, q200, q201, q202, q203, q204, m190, m205, m206, b2_0, q189, q187]
        · simp only [hq, q3, and_true, and_false, true_and, false_and, decide_true, decide_false, ↓reduceIte, not_true_eq_false, not_false_eq_true, Bool.false_eq_true, Bool.true_eq_false, Bool.and_true, Bool.and_false, Bool.true_and, Bool.false_and, Bool.or_true, Bool.or_false, Bool.true_or, Bool.false_or, Bool.not_true, Bool.not_false]; exact MA_t A1 (MA_t ab o2)
      · by_cases q4 : f (74 + 21 * i + 2) ≤ f (9 + 4 * k + 3)
        · refine ⟨t2, ?_, ?_⟩
          · unfold q263_109
            simp (disch := omega) only [hf, hq, e8, e1, e3, e2, q3, q4, m207 hw1, ho1, eo, l1, nI_lit, nI_add, pk_mul, nI_clp, nI_eqv, nI_lev, nI_ltv, nI_neg, nI_neg', nI_subv, Nat.add_zero, Nat.zero_add, Nat.mul_zero, Nat.reduceAdd, bN_rv, bM_ru, bV_rv, bV_rx, bU_ru, bU_rx, bN_ite, bM_ite, bV_ite, bU_ite, ↓bx_e, ↓sp_e, gA_ok, gZ_n, gB_0, gB_1, gB_i, and_true, and_false, true_and, false_and, decide_true, decide_false, ↓reduceIte, not_true_eq_false, not_false_eq_true, Bool.false_eq_true, Bool.true_eq_false, Bool.and_true, Bool.and_false, Bool.true_and, Bool.false_and, Bool.or_true, Bool.or_false, Bool.true_or, Bool.false_or, Bool.not_true, Bool.not_false, le_f, le_t, lt_f, lt_t, eq_f, ↓reduceIte, not_true_eq_false, not_false_eq_true, ite_10, bt_0, bt_1, q198, q199, q200, q201, q202, q203, q204, m190, m205, m206, b2_0, q189, q187]
          · simp only [hq, q3, q4, and_true, and_false, true_and, false_and, decide_true, decide_false, ↓reduceIte, not_true_eq_false, not_false_eq_true, Bool.false_eq_true, Bool.true_eq_false, Bool.and_true, Bool.and_false, Bool.true_and, Bool.false_and, Bool.or_true, Bool.or_false, Bool.true_or, Bool.false_or, Bool.not_true, Bool.not_false]; exact MA_t A1 l2
        · refine ⟨t4, ?_, ?_⟩
          · unfold q263_109
            simp (disch := omega) only [hf, hq, e8, e1, e3, e2, q3, q4, m207 hw1, ho1, eo, q263_172, abq, o1, nI_lit, nI_add, pk_mul, nI_clp, nI_eqv, nI_lev, nI_ltv, nI_neg, nI_neg', nI_subv, Nat.add_zero, Nat.zero_add, Nat.mul_zero, Nat.reduceAdd, bN_rv, bM_ru, bV_rv, bV_rx, bU_ru, bU_rx, bN_ite, bM_ite, bV_ite, bU_ite, ↓bx_e, ↓sp_e, gA_ok, gZ_n, gB_0, gB_1, gB_i, and_true, and_false, true_and, false_and, decide_true, decide_false, ↓reduceIte, not_true_eq_false, not_false_eq_true, Bool.false_eq_true, Bool.true_eq_false, Bool.and_true, Bool.and_false, Bool.true_and, Bool.false_and, Bool.or_true, Bool.or_false, Bool.true_or, Bool.false_or, Bool.not_true, Bool.not_false, le_f, le_t, lt_f, lt_t, eq_f, ↓reduceIte, not_true_eq_false, not_false_eq_true, ite_10, bt_0, bt_1, q198, q199, q200, q201, q202, q203, q204, m190, m205, m206, b2_0, q189, q187]
          · simp only [hq, q3, q4, and_true, and_false, true_and, false_and, decide_true, decide_false, ↓reduceIte, not_true_eq_false, not_false_eq_true, Bool.false_eq_true, Bool.true_eq_false, Bool.and_true, Bool.and_false, Bool.true_and, Bool.false_and, Bool.or_true, Bool.or_false, Bool.true_or, Bool.false_or, Bool.not_true, Bool.not_false]; exact MA_t A1 (MA_t ab o2)
theorem m263 {t : mS} {T : Nat} {f : Nat → Int32} (hf : t.1 513 = f) (hm : IM T f) {i k : Nat} (hi : i < 8) (hk : k < 10) (hr : sR f i = true) : ∃ t', q263 (nI i) (nI k) t = ru t' ∧ MA t t' f (mRead f i k) := by
  have hu := sR_U hr
  have M1 : IM T (mRd1 f i k) := IM_u hm hi hu (by omega) _
  have A1 : MA t (wr t (mRd1 f i k)) f (mRd1 f i k) := by
    have := MA_u (t := t) (k := 74 + 21 * i + 4) (x := f (74 + 21 * i + 4) ||| shlI (nI 1) (nI k)) (fun j hj => by omega)
    rw [hf] at this; exact this
  have hr1 : sR (mRd1 f i k) i = true := by unfold mRd1; rw [sR_u (by omega)]; exact hr
  have e6 : mRd1 f i k (74 + 21 * i + 6) = f (74 + 21 * i + 6) := ud_n (by omega)
  have e4 : sI t 513 (74 + 21 * i + 4) (f (74 + 21 * i + 4) ||| shlI (nI 1) (nI k)) = wr t (mRd1 f i k) := by rw [sI_w0, hf]; rfl
  unfold q263 mRead
  simp (disch := omega) only [hf, e4, nI_lit, nI_add, pk_mul, nI_clp, nI_eqv, nI_lev, nI_ltv, nI_neg, nI_neg', nI_subv, Nat.add_zero, Nat.zero_add, Nat.mul_zero, Nat.reduceAdd, bN_rv, bM_ru, bV_rv, bV_rx, bU_ru, bU_rx, bN_ite, bM_ite, bV_ite, bU_ite, ↓bx_e, ↓sp_e, gA_ok, gZ_n, gB_0, gB_1, gB_i, and_true, and_false, true_and, false_and, decide_true, decide_false, ↓reduceIte, not_true_eq_false, not_false_eq_true, Bool.false_eq_true, Bool.true_eq_false, Bool.and_true, Bool.and_false, Bool.true_and, Bool.false_and, Bool.or_true, Bool.or_false, Bool.true_or, Bool.false_or, Bool.not_true, Bool.not_false, le_f, le_t, lt_f, lt_t, eq_f, ↓reduceIte, not_true_eq_false, not_false_eq_true, ite_10, bt_0, bt_1, q198, q199, q200, q201, q202, q203, q204, m190, m205, m206, b2_0, q189, q187]
  have e1 : (wr t (mRd1 f i k)).1 513 = mRd1 f i k := wr_1
  generalize ht1 : wr t (mRd1 f i k) = t1 at *
  have hw1 : IW (t1.1 513) := by rw [e1]; exact M1.1.1
  simp (disch := omega) only [e1, e6, m252 hw1, nI_lit, nI_add, pk_mul, nI_clp, nI_eqv, nI_lev, nI_ltv, nI_neg, nI_neg', nI_subv, Nat.add_zero, Nat.zero_add, Nat.mul_zero, Nat.reduceAdd, bN_rv, bM_ru, bV_rv, bV_rx, bU_ru, bU_rx, bN_ite, bM_ite, bV_ite, bU_ite, ↓bx_e, ↓sp_e, gA_ok, gZ_n, gB_0, gB_1, gB_i, and_true, and_false, true_and, false_and, decide_true, decide_false, ↓reduceIte, not_true_eq_false, not_false_eq_true, Bool.false_eq_true, Bool.true_eq_false, Bool.and_true, Bool.and_false, Bool.true_and, Bool.false_and, Bool.or_true, Bool.or_false, Bool.true_or, Bool.false_or, Bool.not_true, Bool.not_false, le_f, le_t, lt_f, lt_t, eq_f, ↓reduceIte, not_true_eq_false, not_false_eq_true, ite_10, bt_0, bt_1, q198, q199, q200, q201, q202, q203, q204, m190, m205, m206, b2_0, q189, q187]
  cases eb : bt (f (74 + 21 * i + 6)) k
  · cases es : sSafe (mRd1 f i k) i
    · simp (disch := omega) only [nI_lit, nI_add, pk_mul, nI_clp, nI_eqv, nI_lev, nI_ltv, nI_neg, nI_neg', nI_subv, Nat.add_zero, Nat.zero_add, Nat.mul_zero, Nat.reduceAdd, bN_rv, bM_ru, bV_rv, bV_rx, bU_ru, bU_rx, bN_ite, bM_ite, bV_ite, bU_ite, ↓bx_e, ↓sp_e, gA_ok, gZ_n, gB_0, gB_1, gB_i, and_true, and_false, true_and, false_and, decide_true, decide_false, ↓reduceIte, not_true_eq_false, not_false_eq_true, Bool.false_eq_true, Bool.true_eq_false, Bool.and_true, Bool.and_false, Bool.true_and, Bool.false_and, Bool.or_true, Bool.or_false, Bool.true_or, Bool.false_or, Bool.not_true, Bool.not_false, le_f, le_t, lt_f, lt_t, eq_f, ↓reduceIte, not_true_eq_false, not_false_eq_true, ite_10, bt_0, bt_1, q198, q199, q200, q201, q202, q203, q204, m190, m205, m206, b2_0, q189, q187]
      have hr2 : sR (upd (mRd1 f i k) (74 + 21 * i + 5) (mRd1 f i k (74 + 21 * i + 5) ||| shlI (nI 1) (nI k))) i = true := by rw [sR_u (by omega)]; exact hr1
      have M2 : IM T (upd (mRd1 f i k) (74 + 21 * i + 5) (mRd1 f i k (74 + 21 * i + 5) ||| shlI (nI 1) (nI k))) := IM_u M1 hi (sR_U hr1) (by omega) _
      have S3 : IS (mRd2 (mRd1 f i k) i k) := by
        unfold mRd2 mLw
        refine (fo_pres (P := fun (g : Nat → Int32) => IS g ∧ sU g i = true) (fun o b _ ho hb => ?_) ⟨M2.1, sR_U hr2⟩).1
        split
        · rename_i hq
          rw [Bool.and_eq_true] at hq
          exact ⟨IS_edge hb.1 hi (by omega) hb.2 (sCo_U hq.1), by rw [sU_u (by omega)]; exact hb.2⟩
        · exact hb
      have M3 := IM_lw M2 hi S3
      have hr3 : sR (mRd2 (mRd1 f i k) i k) i = true := by unfold mRd2; rw [sR_c (mLw_n (by omega))]; exact hr2
      have A3 : MA t1 (wr t1 (mRd2 (mRd1 f i k) i k)) (mRd1 f i k) (mRd2 (mRd1 f i k) i k) := by
        have := MA_wr (t := t1) (f' := mRd2 (mRd1 f i k) i k) (fun j hj => by rw [e1]; unfold mRd2; rw [sR_c (mLw_n (by omega)), sR_u (by omega)])
        rw [e1] at this; exact this
      obtain ⟨t4, k1, k2⟩ := m263E (t := wr t1 (mRd2 (mRd1 f i k) i k)) wr_1 M3 hi hk hr3
      refine ⟨t4, ?_, MA_t A1 (MA_t A3 k2)⟩
      rw [← k1, sI_w0, e1, m263_57 hi hk]
      rfl
    · refine ⟨t1, ?_, ?_⟩
      · simp (disch := omega) only [nI_lit, nI_add, pk_mul, nI_clp, nI_eqv, nI_lev, nI_ltv, nI_neg, nI_neg', nI_subv, Nat.add_zero, Nat.zero_add, Nat.mul_zero, Nat.reduceAdd, bN_rv, bM_ru, bV_rv, bV_rx, bU_ru, bU_rx, bN_ite, bM_ite, bV_ite, bU_ite, ↓bx_e, ↓sp_e, gA_ok, gZ_n, gB_0, gB_1, gB_i, and_true, and_false, true_and, false_and, decide_true, decide_false, ↓reduceIte, not_true_eq_false, not_false_eq_true, Bool.false_eq_true, Bool.true_eq_false, Bool.and_true, Bool.and_false, Bool.true_and, Bool.false_and, Bool.or_true, Bool.or_false, Bool.true_or, Bool.false_or, Bool.not_true, Bool.not_false, le_f, le_t, lt_f, lt_t, eq_f, ↓reduceIte, not_true_eq_false, not_false_eq_true, ite_10, bt_0, bt_1, q198, q199, q200, q201, q202, q203, q204, m190, m205, m206, b2_0, q189, q187]
      · simp only [and_true, and_false, true_and, false_and, decide_true, decide_false, ↓reduceIte, not_true_eq_false, not_false_eq_true, Bool.false_eq_true, Bool.true_eq_false, Bool.and_true, Bool.and_false, Bool.true_and, Bool.false_and, Bool.or_true, Bool.or_false, Bool.true_or, Bool.false_or, Bool.not_true, Bool.not_false]; exact A1
  · refine ⟨t1, ?_, ?_⟩
    · simp (disch := omega) only [nI_lit, nI_add, pk_mul, nI_clp, nI_eqv, nI_lev, nI_ltv, nI_neg, nI_neg', nI_subv, Nat.add_zero, Nat.zero_add, Nat.mul_zero, Nat.reduceAdd, bN_rv, bM_ru, bV_rv, bV_rx, bU_ru, bU_rx, bN_ite, bM_ite, bV_ite, bU_ite, ↓bx_e, ↓sp_e, gA_ok, gZ_n, gB_0, gB_1, gB_i, and_true, and_false, true_and, false_and, decide_true, decide_false, ↓reduceIte, not_true_eq_false, not_false_eq_true, Bool.false_eq_true, Bool.true_eq_false, Bool.and_true, Bool.and_false, Bool.true_and, Bool.false_and, Bool.or_true, Bool.or_false, Bool.true_or, Bool.false_or, Bool.not_true, Bool.not_false, le_f, le_t, lt_f, lt_t, eq_f, ↓reduceIte, not_true_eq_false, not_false_eq_true, ite_10, bt_0, bt_1, q198, q199, q200, q201, q202, q203, q204, m190, m205, m206, b2_0, q189, q187]
    · simp only [and_true, and_false, true_and, false_and, decide_true, decide_false, ↓reduceIte, not_true_eq_false, not_false_eq_true, Bool.false_eq_true, Bool.true_eq_false, Bool.and_true, Bool.and_false, Bool.true_and, Bool.false_and, Bool.or_true, Bool.or_false, Bool.true_or, Bool.false_or, Bool.not_true, Bool.not_false]; exact A1
/-- a write -/
def mWr1 (f : Nat → Int32) (i k : Nat) : Nat → Int32 := upd f (74 + 21 * i + 6) (f (74 + 21 * i + 6) ||| shlI (nI 1) (nI k))
def mWrE (f : Nat → Int32) (i k : Nat) : Nat → Int32 := if f (9 + 4 * k + 1) ≤ f (74 + 21 * i + 2) then mSt f else mSt (upd f (74 + 21 * i + 9) (mxI (f (74 + 21 * i + 9)) (f (9 + 4 * k + 1))))
def mWrite (f : Nat → Int32) (i k : Nat) : Nat → Int32 := if f (9 + 4 * k) = f (74 + 21 * i + 11 + k) then mWrE (mLr (mWr1 f i k) i k) i k else mSt (mAbort f i (nI 2))
theorem IS_lr {f : Nat → Int32} (h : IS f) {i k : Nat} (hi : i < 8) (hu : sU f i = true) : IS (mLr f i k) := by
  unfold mLr
  refine (fo_pres (P := fun (g : Nat → Int32) => IS g ∧ sU g i = true) (fun o b _ ho hb => ?_) ⟨h, hu⟩).1
  split
  · rename_i hq
    rw [Bool.and_eq_true] at hq
    exact ⟨IS_edge hb.1 (by omega) hi (sCo_U hq.1) hb.2, by rw [sU_u (by omega)]; exact hb.2⟩
  · exact hb
theorem IM_lr {T : Nat} {f : Nat → Int32} (h : IM T f) {i k : Nat} (hs : IS (mLr f i k)) : IM T (mLr f i k) := by
  refine IM_rs h hs ?_ (fun j hj => mLr_n (fun o ho => by omega)) (fun j hj => sU_c (mLr_n (fun o ho => by omega))) (fun j hj => wh_c (mLr_n (fun o ho => by omega)))
  obtain ⟨t0, t3, t⟩ := h.2.2.2.1
  refine ⟨t0, by rw [mLr_n (fun o ho => by omega)]; exact t3, fun l hl => ?_⟩
  rw [mLr_n (fun o ho => by omega), mLr_n (fun o ho => by omega), mLr_n (fun o ho => by omega)]; exact t l hl
/-- none else writes this key -/
def nWt (f : Nat → Int32) (i k : Nat) : Prop := ∀ j, j < 8 → j ≠ i → sR f j = true → bt (f (74 + 21 * j + 6)) k = false
theorem IM_w6 {T : Nat} {f : Nat → Int32} (h : IM T f) {i k : Nat} (hi : i < 8) (hk : k < 10) (hr : sR f i = true) (hn : nWt f i k) : IM T (mWr1 f i k) := by
  have hu := sR_U hr
  refine IM_rs h (IS_6 h.1 hi hu _ (fun l j hl hj hne hrj hb => ?_)) ?_ (fun j hj => ud_n (by omega)) (fun j hj => sU_u (by omega)) (fun j hj => wh_u (by omega))
  · rw [bt_or1 (by omega), Bool.or_eq_true] at hb
    rcases hb with hb | hb
    · cases q : bt (f (74 + 21 * j + 6)) l with
      | false => rfl
      | true => exact absurd (h.1.2.2.2.2.2.2 j i l hj hi hl hrj hr q hb) hne
    · rw [of_decide_eq_true hb]; exact hn j hj hne hrj
  · obtain ⟨t0, t3, t⟩ := h.2.2.2.1
    refine ⟨t0, by unfold mWr1; rw [ud_n (by omega)]; exact t3, fun l hl => ?_⟩
    unfold mWr1
    rw [ud_n (by omega), ud_n (by omega), ud_n (by omega)]; exact t l hl
theorem nWt_i {f : Nat → Int32} (hs : IS f) {i k : Nat} (hk : k < 10) (h : sWri f k = none ∨ sWri f k = some i) : nWt f i k := by
  intro j hj hne hr
  cases e : bt (f (74 + 21 * j + 6)) k with
  | false => rfl
  | true =>
    rcases h with h | h
    · have := fs_none h j (by omega) (by omega)
      rw [hr, e] at this; cases this
    · obtain ⟨-, h2, h3, -⟩ := fs_some h
      rw [Bool.and_eq_true] at h3
      exact absurd (hs.2.2.2.2.2.2 j i k hj (by omega) hk hr h3.1 e h3.2) hne
theorem p73 {s : mS} {z : Nat} {f : Nat → Int32} (h : RS s z f) {i k : Nat} (hi : i < 8) (hk : k < 10) : q73 z (nI i) (nI k) s = rv (b2 (!(decide (sWri f k = none)) && !(decide (sWri f k = some i)))) s := by
  unfold q73
  simp (disch := omega) only [p72 h hk, nI_lit, nI_add, pk_mul, nI_clp, nI_eqv, nI_lev, nI_ltv, nI_neg, nI_neg', nI_subv, Nat.add_zero, Nat.zero_add, Nat.mul_zero, Nat.reduceAdd, bN_rv, bM_ru, bV_rv, bV_rx, bU_ru, bU_rx, bN_ite, bM_ite, bV_ite, bU_ite, ↓bx_e, ↓sp_e, gA_ok, gZ_n, gB_0, gB_1, gB_i, and_true, and_false, true_and, false_and, decide_true, decide_false, ↓reduceIte, not_true_eq_false, not_false_eq_true, Bool.false_eq_true, Bool.true_eq_false, Bool.and_true, Bool.and_false, Bool.true_and, Bool.false_and, Bool.or_true, Bool.or_false, Bool.true_or, Bool.false_or, Bool.not_true, Bool.not_false, le_f, le_t, lt_f, lt_t, eq_f, ↓reduceIte, not_true_eq_false, not_false_eq_true, ite_10, bt_0, bt_1]
  unfold sWri
  cases e : fs (fun i => sR f i && bt (f (74 + 21 * i + 6)) k) 8 0 with
  | none => simp only [oI_n, b2_f, and_true, and_false, true_and, false_and, decide_true, decide_false, ↓reduceIte, not_true_eq_false, not_false_eq_true, Bool.false_eq_true, Bool.true_eq_false, Bool.and_true, Bool.and_false, Bool.true_and, Bool.false_and, Bool.or_true, Bool.or_false, Bool.true_or, Bool.false_or, Bool.not_true, Bool.not_false]
  | some j =>
    obtain ⟨-, h2, -, -⟩ := fs_some e
    simp (disch := omega) only [oI_s, nI_lit, nI_add, pk_mul, nI_clp, nI_eqv, nI_lev, nI_ltv, nI_neg, nI_neg', nI_subv, Nat.add_zero, Nat.zero_add, Nat.mul_zero, Nat.reduceAdd, bN_rv, bM_ru, bV_rv, bV_rx, bU_ru, bU_rx, bN_ite, bM_ite, bV_ite, bU_ite, ↓bx_e, ↓sp_e, gA_ok, gZ_n, gB_0, gB_1, gB_i, and_true, and_false, true_and, false_and, decide_true, decide_false, ↓reduceIte, not_true_eq_false, not_false_eq_true, Bool.false_eq_true, Bool.true_eq_false, Bool.and_true, Bool.and_false, Bool.true_and, Bool.false_and, Bool.or_true, Bool.or_false, Bool.true_or, Bool.false_or, Bool.not_true, Bool.not_false, le_f, le_t, lt_f, lt_t, eq_f, ↓reduceIte, not_true_eq_false, not_false_eq_true, ite_10, bt_0, bt_1]
    by_cases q : j = i
    · subst q; simp only [b2_f, and_true, and_false, true_and, false_and, decide_true, decide_false, ↓reduceIte, not_true_eq_false, not_false_eq_true, Bool.false_eq_true, Bool.true_eq_false, Bool.and_true, Bool.and_false, Bool.true_and, Bool.false_and, Bool.or_true, Bool.or_false, Bool.true_or, Bool.false_or, Bool.not_true, Bool.not_false]
    · have : ¬ (some j = some i) := fun z => q (Option.some.inj z)
      simp only [q, this, b2_t, reduceCtorEq, and_true, and_false, true_and, false_and, decide_true, decide_false, ↓reduceIte, not_true_eq_false, not_false_eq_true, Bool.false_eq_true, Bool.true_eq_false, Bool.and_true, Bool.and_false, Bool.true_and, Bool.false_and, Bool.or_true, Bool.or_false, Bool.true_or, Bool.false_or, Bool.not_true, Bool.not_false]
theorem m264 {t : mS} (hs : IS (t.1 513)) {i k : Nat} (hi : i < 8) (hk : k < 10) : q264 (nI i) (nI k) t = rv (b2 (!(decide (sWri (t.1 513) k = none)) && !(decide (sWri (t.1 513) k = some i)))) t := by
  unfold q264
  simp (disch := omega) only [m210, sWr_eq hs, nI_lit, nI_add, pk_mul, nI_clp, nI_eqv, nI_lev, nI_ltv, nI_neg, nI_neg', nI_subv, Nat.add_zero, Nat.zero_add, Nat.mul_zero, Nat.reduceAdd, bN_rv, bM_ru, bV_rv, bV_rx, bU_ru, bU_rx, bN_ite, bM_ite, bV_ite, bU_ite, ↓bx_e, ↓sp_e, gA_ok, gZ_n, gB_0, gB_1, gB_i, and_true, and_false, true_and, false_and, decide_true, decide_false, ↓reduceIte, not_true_eq_false, not_false_eq_true, Bool.false_eq_true, Bool.true_eq_false, Bool.and_true, Bool.and_false, Bool.true_and, Bool.false_and, Bool.or_true, Bool.or_false, Bool.true_or, Bool.false_or, Bool.not_true, Bool.not_false, le_f, le_t, lt_f, lt_t, eq_f, ↓reduceIte, not_true_eq_false, not_false_eq_true, ite_10, bt_0, bt_1]
  cases e : sWri (t.1 513) k with
  | none => simp only [oI_n, b2_f, and_true, and_false, true_and, false_and, decide_true, decide_false, ↓reduceIte, not_true_eq_false, not_false_eq_true, Bool.false_eq_true, Bool.true_eq_false, Bool.and_true, Bool.and_false, Bool.true_and, Bool.false_and, Bool.or_true, Bool.or_false, Bool.true_or, Bool.false_or, Bool.not_true, Bool.not_false]
  | some j =>
    have h2 : j < 8 := by have := fs_some e; omega
    simp (disch := omega) only [oI_s, nI_lit, nI_add, pk_mul, nI_clp, nI_eqv, nI_lev, nI_ltv, nI_neg, nI_neg', nI_subv, Nat.add_zero, Nat.zero_add, Nat.mul_zero, Nat.reduceAdd, bN_rv, bM_ru, bV_rv, bV_rx, bU_ru, bU_rx, bN_ite, bM_ite, bV_ite, bU_ite, ↓bx_e, ↓sp_e, gA_ok, gZ_n, gB_0, gB_1, gB_i, and_true, and_false, true_and, false_and, decide_true, decide_false, ↓reduceIte, not_true_eq_false, not_false_eq_true, Bool.false_eq_true, Bool.true_eq_false, Bool.and_true, Bool.and_false, Bool.true_and, Bool.false_and, Bool.or_true, Bool.or_false, Bool.true_or, Bool.false_or, Bool.not_true, Bool.not_false, le_f, le_t, lt_f, lt_t, eq_f, ↓reduceIte, not_true_eq_false, not_false_eq_true, ite_10, bt_0, bt_1]
    by_cases q : j = i
    · subst q; simp only [b2_f, and_true, and_false, true_and, false_and, decide_true, decide_false, ↓reduceIte, not_true_eq_false, not_false_eq_true, Bool.false_eq_true, Bool.true_eq_false, Bool.and_true, Bool.and_false, Bool.true_and, Bool.false_and, Bool.or_true, Bool.or_false, Bool.true_or, Bool.false_or, Bool.not_true, Bool.not_false]
    · have : ¬ (some j = some i) := fun z => q (Option.some.inj z)
      simp only [q, this, b2_t, reduceCtorEq, and_true, and_false, true_and, false_and, decide_true, decide_false, ↓reduceIte, not_true_eq_false, not_false_eq_true, Bool.false_eq_true, Bool.true_eq_false, Bool.and_true, Bool.and_false, Bool.true_and, Bool.false_and, Bool.or_true, Bool.or_false, Bool.true_or, Bool.false_or, Bool.not_true, Bool.not_false]
