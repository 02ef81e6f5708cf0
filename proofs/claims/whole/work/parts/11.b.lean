/-! REMEMBER, IN THE REFERENCE -/
theorem F1_J {c : Nat} {t t' : mS} (h : F1 c t t') (k : Nat) (x : Int32) : F1 c t (sI t' c k x) := ⟨fun b hb => by rw [sI_fn hb]; exact h.1 b hb, (Eq.trans rfl rfl : _ = t'.2).trans h.2⟩
theorem F1_r {c : Nat} {t : mS} : F1 c t t := ⟨fun _ _ => rfl, rfl⟩
theorem m194_55 {t : mS} {p : Nat} (hp : p < 12) (h7 : t.1 512 7 = nI (p + 1)) : ∀ m i k t', F1 517 t t' → i + m = 770 → m < k → ∃ t'', q194_55 k (nI i) t' = ru t'' ∧ F1 517 t t'' ∧ ∀ j, t''.1 517 j = if 770 * p + i ≤ j ∧ j < 770 * p + 770 then t.1 513 (j - 770 * p) else t'.1 517 j := by
  intro m
  induction m with
  | zero =>
    intro i k t' hF hi hk
    cases k with
    | zero => omega
    | succ k =>
      have : i = 770 := by omega
      subst this
      refine ⟨t', by simp (disch := omega) only [q194_55, nI_lit, nI_add, pk_mul, nI_clp, nI_eqv, nI_lev, nI_ltv, nI_neg, nI_neg', nI_subv, Nat.add_zero, Nat.zero_add, Nat.mul_zero, Nat.reduceAdd, bN_rv, bM_ru, bV_rv, bV_rx, bU_ru, bU_rx, bN_ite, bM_ite, bV_ite, bU_ite, ↓bx_e, ↓sp_e, gA_ok, gZ_n, gB_0, gB_1, gB_i, and_true, and_false, true_and, false_and, decide_true, decide_false, ↓reduceIte, not_true_eq_false, not_false_eq_true, Bool.false_eq_true, Bool.true_eq_false, Bool.and_true, Bool.and_false, Bool.true_and, Bool.false_and, Bool.or_true, Bool.or_false, Bool.true_or, Bool.false_or, Bool.not_true, Bool.not_false, le_f, le_t, lt_f, lt_t, eq_f, ↓reduceIte, not_true_eq_false, not_false_eq_true, ite_10, bt_0, bt_1], hF, fun j => ?_⟩
      rw [if_neg (by omega)]
  | succ m ih =>
    intro i k t' hF hi hk
    cases k with
    | zero => omega
    | succ k =>
      have h7' : t'.1 512 7 = nI (p + 1) := by rw [hF.1 512 (by omega)]; exact h7
      have h5 : t'.1 513 = t.1 513 := hF.1 513 (by omega)
      obtain ⟨t'', j1, j2, j3⟩ := ih (i + 1) k (sI t' 517 (770 * p + i) (t.1 513 i)) (F1_J hF _ _) (by omega) (by omega)
      refine ⟨t'', ?_, j2, fun j => ?_⟩
      · rw [← j1]
        have hs : nI (p + 1) - nI 1 = nI p := by rw [nI_subv (by omega)]; rfl
        simp (disch := omega) only [q194_55, h7', hs, h5, nI_lit, nI_add, pk_mul, nI_clp, nI_eqv, nI_lev, nI_ltv, nI_neg, nI_neg', nI_subv, Nat.add_zero, Nat.zero_add, Nat.mul_zero, Nat.reduceAdd, bN_rv, bM_ru, bV_rv, bV_rx, bU_ru, bU_rx, bN_ite, bM_ite, bV_ite, bU_ite, ↓bx_e, ↓sp_e, gA_ok, gZ_n, gB_0, gB_1, gB_i, and_true, and_false, true_and, false_and, decide_true, decide_false, ↓reduceIte, not_true_eq_false, not_false_eq_true, Bool.false_eq_true, Bool.true_eq_false, Bool.and_true, Bool.and_false, Bool.true_and, Bool.false_and, Bool.or_true, Bool.or_false, Bool.true_or, Bool.false_or, Bool.not_true, Bool.not_false, le_f, le_t, lt_f, lt_t, eq_f, ↓reduceIte, not_true_eq_false, not_false_eq_true, ite_10, bt_0, bt_1]
      · rw [j3 j]
        by_cases h : 770 * p + (i + 1) ≤ j ∧ j < 770 * p + 770
        · rw [if_pos h, if_pos (by omega)]
        · rw [if_neg h, sI_sm]
          by_cases e : j = 770 * p + i
          · rw [if_pos (by omega), e, ud_e rfl, show 770 * p + i - 770 * p = i by omega]
          · rw [if_neg (by omega), ud_n e]
theorem m194_11 {t : mS} {K : mS → Option mQ} : ∀ m i k t', F1 517 t t' → i + m = 8470 → m < k → (∀ j, i ≤ j → t'.1 517 j = t.1 517 j) → ∃ t'', q194_11 K k (nI i) t' = K t'' ∧ F1 517 t t'' ∧ ∀ j, t''.1 517 j = if i ≤ j ∧ j < 8470 then t.1 517 (j + 770) else t'.1 517 j := by
  intro m
  induction m with
  | zero =>
    intro i k t' hF hi hk hj
    cases k with
    | zero => omega
    | succ k =>
      have : i = 8470 := by omega
      subst this
      refine ⟨t', by simp (disch := omega) only [q194_11, nI_lit, nI_add, pk_mul, nI_clp, nI_eqv, nI_lev, nI_ltv, nI_neg, nI_neg', nI_subv, Nat.add_zero, Nat.zero_add, Nat.mul_zero, Nat.reduceAdd, bN_rv, bM_ru, bV_rv, bV_rx, bU_ru, bU_rx, bN_ite, bM_ite, bV_ite, bU_ite, ↓bx_e, ↓sp_e, gA_ok, gZ_n, gB_0, gB_1, gB_i, and_true, and_false, true_and, false_and, decide_true, decide_false, ↓reduceIte, not_true_eq_false, not_false_eq_true, Bool.false_eq_true, Bool.true_eq_false, Bool.and_true, Bool.and_false, Bool.true_and, Bool.false_and, Bool.or_true, Bool.or_false, Bool.true_or, Bool.false_or, Bool.not_true, Bool.not_false, le_f, le_t, lt_f, lt_t, eq_f, ↓reduceIte, not_true_eq_false, not_false_eq_true, ite_10, bt_0, bt_1], hF, fun j => ?_⟩
      rw [if_neg (by omega)]
  | succ m ih =>
    intro i k t' hF hi hk hj
    cases k with
    | zero => omega
    | succ k =>
      have e7 := hj (i + 770) (by omega)
      obtain ⟨t'', j1, j2, j3⟩ := ih (i + 1) k (sI t' 517 i (t.1 517 (i + 770))) (F1_J hF _ _) (by omega) (by omega) (fun j h => by rw [sI_sm, ud_n (by omega)]; exact hj j (by omega))
      refine ⟨t'', ?_, j2, fun j => ?_⟩
      · rw [← j1]
        simp (disch := omega) only [q194_11, e7, nI_lit, nI_add, pk_mul, nI_clp, nI_eqv, nI_lev, nI_ltv, nI_neg, nI_neg', nI_subv, Nat.add_zero, Nat.zero_add, Nat.mul_zero, Nat.reduceAdd, bN_rv, bM_ru, bV_rv, bV_rx, bU_ru, bU_rx, bN_ite, bM_ite, bV_ite, bU_ite, ↓bx_e, ↓sp_e, gA_ok, gZ_n, gB_0, gB_1, gB_i, and_true, and_false, true_and, false_and, decide_true, decide_false, ↓reduceIte, not_true_eq_false, not_false_eq_true, Bool.false_eq_true, Bool.true_eq_false, Bool.and_true, Bool.and_false, Bool.true_and, Bool.false_and, Bool.or_true, Bool.or_false, Bool.true_or, Bool.false_or, Bool.not_true, Bool.not_false, le_f, le_t, lt_f, lt_t, eq_f, ↓reduceIte, not_true_eq_false, not_false_eq_true, ite_10, bt_0, bt_1]
      · rw [j3 j]
        by_cases h : i + 1 ≤ j ∧ j < 8470
        · rw [if_pos h, if_pos (by omega)]
        · rw [if_neg h, sI_sm]
          by_cases e : j = i
          · rw [if_pos (by omega), e, ud_e rfl]
          · rw [if_neg (by omega), ud_n e]
theorem m194 {t : mS} {r : Nat} (hr : r ≤ 12) (h7 : t.1 512 7 = nI r) : ∃ t' g, q194 t = ru t' ∧ t'.2 = t.2 ∧ (∀ b, b ≠ 512 → b ≠ 517 → t'.1 b = t.1 b) ∧ (∀ j, j ≠ 7 → t'.1 512 j = t.1 512 j) ∧ g < 12 ∧ t'.1 512 7 = nI (g + 1) ∧ (r < 12 → g = r) ∧ (r = 12 → g = 11) ∧ (∀ j, j < 770 → t'.1 517 (770 * g + j) = t.1 513 j) ∧ ∀ p j, p < g → j < 770 → t'.1 517 (770 * p + j) = t.1 517 (770 * (p + (r - g)) + j) := by
  by_cases h : r = 12
  · subst h
    obtain ⟨t1, j1, j2, j3⟩ := m194_11 (t := t) (K := q194_40) 8470 0 10000 t F1_r (by omega) (by omega) (fun _ _ => rfl)
    have h71 : t1.1 512 7 = nI (11 + 1) := by rw [j2.1 512 (by omega)]; exact h7
    obtain ⟨t2, l1, l2, l3⟩ := m194_55 (t := t1) (p := 11) (by omega) h71 770 0 10000 t1 F1_r (by omega) (by omega)
    refine ⟨t2, 11, ?_, l2.2.trans j2.2, fun b _ hb => (l2.1 b hb).trans (j2.1 b hb), fun j _ => by rw [l2.1 512 (by omega), j2.1 512 (by omega)], by omega, by rw [l2.1 512 (by omega)]; exact h71, fun q => by omega, fun _ => rfl, fun j hj => ?_, fun p j hp hj => ?_⟩
    · unfold q194
      rw [nI_lit, if_neg (by rw [h7]; exact not_not_intro rfl), nI_lit, j1]
      unfold q194_40 q194_53
      rw [nI_lit]; exact l1
    · rw [l3, if_pos (by omega), j2.1 513 (by omega), show 770 * 11 + j - 770 * 11 = j by omega]
    · rw [l3, if_neg (by omega), j3, if_pos (by omega)]
      rw [show 770 * p + j + 770 = 770 * (p + (12 - 11)) + j by omega]
  · have h71 : (sI t 512 7 (nI (r + 1))).1 512 7 = nI (r + 1) := by rw [sI_sm, ud_e rfl]
    obtain ⟨t2, l1, l2, l3⟩ := m194_55 (t := sI t 512 7 (nI (r + 1))) (p := r) (by omega) h71 770 0 10000 _ F1_r (by omega) (by omega)
    refine ⟨t2, r, ?_, l2.2.trans (Eq.trans rfl rfl), fun b h1 hb => (l2.1 b hb).trans (sI_fn h1), fun j hj => by rw [l2.1 512 (by omega), sI_sm, ud_n hj], by omega, by rw [l2.1 512 (by omega)]; exact h71, fun _ => rfl, fun q => by omega, fun j hj => ?_, fun p j hp hj => ?_⟩
    · have hne : ¬ nI r = nI 12 := by rw [nI_eqv (by omega) (by omega)]; exact h
      unfold q194
      simp only [nI_lit, h7, hne, not_false_eq_true, ↓reduceIte, sp_e, nI_add]
      unfold q194_53
      rw [nI_lit]; exact l1
    · rw [l3, if_pos (by omega), sI_fn (by omega), show 770 * r + j - 770 * r = j by omega]
    · rw [l3, if_neg (by omega), sI_fn (by omega), Nat.sub_self, Nat.add_zero]
