/-! THE REFERENCE KEEPS ALL OF A WORLD -/
theorem m196 {t : mS} : ∃ t', q196 t = ru t' ∧ F1 516 t t' ∧ ∀ j, j < 770 → t'.1 516 j = t.1 513 j := by
  have : ∀ m i k t', F1 516 t t' → i + m = 770 → m < k → (∀ j, j < i → t'.1 516 j = t.1 513 j) → ∃ t'', q196_2 k (nI i) t' = ru t'' ∧ F1 516 t t'' ∧ ∀ j, j < 770 → t''.1 516 j = t.1 513 j := by
    intro m
    induction m with
    | zero =>
      intro i k t' hF hi hk hj
      cases k with
      | zero => omega
      | succ k =>
        have : i = 770 := by omega
        subst this
        exact ⟨t', by simp (disch := omega) only [q196_2, nI_lit, nI_add, pk_mul, nI_clp, nI_eqv, nI_lev, nI_ltv, nI_neg, nI_neg', nI_subv, Nat.add_zero, Nat.zero_add, Nat.mul_zero, Nat.reduceAdd, bN_rv, bM_ru, bV_rv, bV_rx, bU_ru, bU_rx, bN_ite, bM_ite, bV_ite, bU_ite, ↓bx_e, ↓sp_e, gA_ok, gZ_n, gB_0, gB_1, gB_i, and_true, and_false, true_and, false_and, decide_true, decide_false, ↓reduceIte, not_true_eq_false, not_false_eq_true, Bool.false_eq_true, Bool.true_eq_false, Bool.and_true, Bool.and_false, Bool.true_and, Bool.false_and, Bool.or_true, Bool.or_false, Bool.true_or, Bool.false_or, Bool.not_true, Bool.not_false, le_f, le_t, lt_f, lt_t, eq_f, ↓reduceIte, not_true_eq_false, not_false_eq_true, ite_10, bt_0, bt_1], hF, hj⟩
    | succ m ih =>
      intro i k t' hF hi hk hj
      cases k with
      | zero => omega
      | succ k =>
        have h5 : t'.1 513 = t.1 513 := hF.1 513 (by omega)
        obtain ⟨t'', j1, j2, j3⟩ := ih (i + 1) k (sI t' 516 i (t.1 513 i)) (F1_J hF _ _) (by omega) (by omega) (fun j h => by
          rw [sI_sm]
          by_cases e : j = i
          · subst e; rw [ud_e rfl]
          · rw [ud_n e]; exact hj j (by omega))
        refine ⟨t'', ?_, j2, j3⟩
        rw [← j1]
        simp (disch := omega) only [q196_2, h5, nI_lit, nI_add, pk_mul, nI_clp, nI_eqv, nI_lev, nI_ltv, nI_neg, nI_neg', nI_subv, Nat.add_zero, Nat.zero_add, Nat.mul_zero, Nat.reduceAdd, bN_rv, bM_ru, bV_rv, bV_rx, bU_ru, bU_rx, bN_ite, bM_ite, bV_ite, bU_ite, ↓bx_e, ↓sp_e, gA_ok, gZ_n, gB_0, gB_1, gB_i, and_true, and_false, true_and, false_and, decide_true, decide_false, ↓reduceIte, not_true_eq_false, not_false_eq_true, Bool.false_eq_true, Bool.true_eq_false, Bool.and_true, Bool.and_false, Bool.true_and, Bool.false_and, Bool.or_true, Bool.or_false, Bool.true_or, Bool.false_or, Bool.not_true, Bool.not_false, le_f, le_t, lt_f, lt_t, eq_f, ↓reduceIte, not_true_eq_false, not_false_eq_true, ite_10, bt_0, bt_1]
  unfold q196
  rw [nI_lit]
  exact this 770 0 10000 t F1_r (by omega) (by omega) (fun j h => by omega)
