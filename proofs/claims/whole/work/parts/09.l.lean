/-! COPIES OF A WORLD -/
theorem sC_fn {s : mS} {a0 a1 p q n b : Nat} (h : b ≠ a1) : (sC s a0 a1 p q n).1 b = s.1 b := if_neg h
theorem cp1 {s : mS} {y x : Nat} (hd : y + 5 ≤ x ∨ x + 5 ≤ y) : ∃ s', q1 y x s = ru s' ∧ (∀ j, j < 2 → s'.1 y j = s.1 x j) ∧ (∀ j, j < 5 → s'.1 (y + 1) j = s.1 (x + 1) j) ∧ (∀ j, j < 5 → s'.1 (y + 2) j = s.1 (x + 2) j) ∧ (∀ j, j < 5 → s'.1 (y + 3) j = s.1 (x + 3) j) ∧ (∀ j, j < 5 → s'.1 (y + 4) j = s.1 (x + 4) j) ∧ Fr y 5 s s' := by
  refine ⟨?w, ?x, ?y⟩
  case x =>
    unfold q1
    simp (disch := omega) only [gC_ok, nI_lit, nI_add, pk_mul, nI_clp, nI_eqv, nI_lev, nI_ltv, nI_neg, nI_neg', nI_subv, Nat.add_zero, Nat.zero_add, Nat.mul_zero, Nat.reduceAdd, bN_rv, bM_ru, bV_rv, bV_rx, bU_ru, bU_rx, bN_ite, bM_ite, bV_ite, bU_ite, ↓bx_e, ↓sp_e, gA_ok, gZ_n, gB_0, gB_1, gB_i, and_true, and_false, true_and, false_and, decide_true, decide_false, ↓reduceIte, not_true_eq_false, not_false_eq_true, Bool.false_eq_true, Bool.true_eq_false, Bool.and_true, Bool.and_false, Bool.true_and, Bool.false_and, Bool.or_true, Bool.or_false, Bool.true_or, Bool.false_or, Bool.not_true, Bool.not_false, le_f, le_t, lt_f, lt_t, eq_f, ↓reduceIte, not_true_eq_false, not_false_eq_true, ite_10, bt_0, bt_1]
    rfl
  case y =>
    refine ⟨fun j hj => ?_, fun j hj => ?_, fun j hj => ?_, fun j hj => ?_, fun j hj => ?_, fun b hb => ?_, Eq.trans rfl rfl⟩
    · have hjj : j = 0 ∨ j = 1 := by omega
      rcases hjj with e | e <;> subst e <;> simp (disch := omega) only [sC_at, sI_at, eq_f, ↓reduceIte]
    · simp (disch := omega) only [sC_at, sI_at, eq_f, ↓reduceIte]
      rw [if_pos (by omega), show 0 + (j - 0) = j by omega]
    · simp (disch := omega) only [sC_at, sI_at, eq_f, ↓reduceIte]
      rw [if_pos (by omega), show 0 + (j - 0) = j by omega]
    · simp (disch := omega) only [sC_at, sI_at, eq_f, ↓reduceIte]
      rw [if_pos (by omega), show 0 + (j - 0) = j by omega]
    · simp (disch := omega) only [sC_at, sI_at, eq_f, ↓reduceIte]
      rw [if_pos (by omega), show 0 + (j - 0) = j by omega]
    · repeat rw [sC_fn (by omega)]
      repeat rw [sI_fn (by omega)]
theorem cp42 {s : mS} {y x : Nat} (hd : y + 2 ≤ x ∨ x + 2 ≤ y) : ∃ s', q42 y x s = ru s' ∧ (∀ j, j < 2 → s'.1 y j = s.1 x j) ∧ (∀ j, j < 240 → s'.1 (y + 1) j = s.1 (x + 1) j) ∧ Fr y 2 s s' := by
  refine ⟨?w, ?x, ?y⟩
  case x =>
    unfold q42
    simp (disch := omega) only [gC_ok, nI_lit, nI_add, pk_mul, nI_clp, nI_eqv, nI_lev, nI_ltv, nI_neg, nI_neg', nI_subv, Nat.add_zero, Nat.zero_add, Nat.mul_zero, Nat.reduceAdd, bN_rv, bM_ru, bV_rv, bV_rx, bU_ru, bU_rx, bN_ite, bM_ite, bV_ite, bU_ite, ↓bx_e, ↓sp_e, gA_ok, gZ_n, gB_0, gB_1, gB_i, and_true, and_false, true_and, false_and, decide_true, decide_false, ↓reduceIte, not_true_eq_false, not_false_eq_true, Bool.false_eq_true, Bool.true_eq_false, Bool.and_true, Bool.and_false, Bool.true_and, Bool.false_and, Bool.or_true, Bool.or_false, Bool.true_or, Bool.false_or, Bool.not_true, Bool.not_false, le_f, le_t, lt_f, lt_t, eq_f, ↓reduceIte, not_true_eq_false, not_false_eq_true, ite_10, bt_0, bt_1]
    rfl
  case y =>
    refine ⟨fun j hj => ?_, fun j hj => ?_, fun b hb => ?_, Eq.trans rfl rfl⟩
    · have hjj : j = 0 ∨ j = 1 := by omega
      rcases hjj with e | e <;> subst e <;> simp (disch := omega) only [sC_at, sI_at, eq_f, ↓reduceIte]
    · simp (disch := omega) only [sC_at, sI_at, eq_f, ↓reduceIte]
      rw [if_pos (by omega), show 0 + (j - 0) = j by omega]
    · repeat rw [sC_fn (by omega)]
      repeat rw [sI_fn (by omega)]
theorem cp13 {s : mS} {y x : Nat} (hd : y + 7 ≤ x ∨ x + 7 ≤ y) : ∃ s', q13 y x s = ru s' ∧ (∀ j, j < 2 → s'.1 y j = s.1 x j) ∧ (∀ j, j < 12 → s'.1 (y + 1) j = s.1 (x + 1) j) ∧ (∀ j, j < 12 → s'.1 (y + 2) j = s.1 (x + 2) j) ∧ (∀ j, j < 12 → s'.1 (y + 3) j = s.1 (x + 3) j) ∧ (∀ j, j < 12 → s'.1 (y + 4) j = s.1 (x + 4) j) ∧ (∀ j, j < 120 → s'.1 (y + 5) j = s.1 (x + 5) j) ∧ (∀ j, j < 120 → s'.1 (y + 6) j = s.1 (x + 6) j) ∧ Fr y 7 s s' := by
  refine ⟨?w, ?x, ?y⟩
  case x =>
    unfold q13
    simp (disch := omega) only [gC_ok, nI_lit, nI_add, pk_mul, nI_clp, nI_eqv, nI_lev, nI_ltv, nI_neg, nI_neg', nI_subv, Nat.add_zero, Nat.zero_add, Nat.mul_zero, Nat.reduceAdd, bN_rv, bM_ru, bV_rv, bV_rx, bU_ru, bU_rx, bN_ite, bM_ite, bV_ite, bU_ite, ↓bx_e, ↓sp_e, gA_ok, gZ_n, gB_0, gB_1, gB_i, and_true, and_false, true_and, false_and, decide_true, decide_false, ↓reduceIte, not_true_eq_false, not_false_eq_true, Bool.false_eq_true, Bool.true_eq_false, Bool.and_true, Bool.and_false, Bool.true_and, Bool.false_and, Bool.or_true, Bool.or_false, Bool.true_or, Bool.false_or, Bool.not_true, Bool.not_false, le_f, le_t, lt_f, lt_t, eq_f, ↓reduceIte, not_true_eq_false, not_false_eq_true, ite_10, bt_0, bt_1]
    rfl
  case y =>
    refine ⟨fun j hj => ?_, fun j hj => ?_, fun j hj => ?_, fun j hj => ?_, fun j hj => ?_, fun j hj => ?_, fun j hj => ?_, fun b hb => ?_, Eq.trans rfl rfl⟩
    · have hjj : j = 0 ∨ j = 1 := by omega
      rcases hjj with e | e <;> subst e <;> simp (disch := omega) only [sC_at, sI_at, eq_f, ↓reduceIte]
    · simp (disch := omega) only [sC_at, sI_at, eq_f, ↓reduceIte]
      rw [if_pos (by omega), show 0 + (j - 0) = j by omega]
    · simp (disch := omega) only [sC_at, sI_at, eq_f, ↓reduceIte]
      rw [if_pos (by omega), show 0 + (j - 0) = j by omega]
    · simp (disch := omega) only [sC_at, sI_at, eq_f, ↓reduceIte]
      rw [if_pos (by omega), show 0 + (j - 0) = j by omega]
    · simp (disch := omega) only [sC_at, sI_at, eq_f, ↓reduceIte]
      rw [if_pos (by omega), show 0 + (j - 0) = j by omega]
    · simp (disch := omega) only [sC_at, sI_at, eq_f, ↓reduceIte]
      rw [if_pos (by omega), show 0 + (j - 0) = j by omega]
    · simp (disch := omega) only [sC_at, sI_at, eq_f, ↓reduceIte]
      rw [if_pos (by omega), show 0 + (j - 0) = j by omega]
    · repeat rw [sC_fn (by omega)]
      repeat rw [sI_fn (by omega)]
theorem cp63 {s : mS} {y x : Nat} (hd : y + 12 ≤ x ∨ x + 12 ≤ y) : ∃ s', q63 y x s = ru s' ∧ (∀ j, j < 4 → s'.1 y j = s.1 x j) ∧ (∀ j, j < 8 → s'.1 (y + 1) j = s.1 (x + 1) j) ∧ (∀ j, j < 8 → s'.1 (y + 2) j = s.1 (x + 2) j) ∧ (∀ j, j < 8 → s'.1 (y + 3) j = s.1 (x + 3) j) ∧ (∀ j, j < 8 → s'.1 (y + 4) j = s.1 (x + 4) j) ∧ (∀ j, j < 8 → s'.1 (y + 5) j = s.1 (x + 5) j) ∧ (∀ j, j < 8 → s'.1 (y + 6) j = s.1 (x + 6) j) ∧ (∀ j, j < 8 → s'.1 (y + 7) j = s.1 (x + 7) j) ∧ (∀ j, j < 8 → s'.1 (y + 8) j = s.1 (x + 8) j) ∧ (∀ j, j < 8 → s'.1 (y + 9) j = s.1 (x + 9) j) ∧ (∀ j, j < 8 → s'.1 (y + 10) j = s.1 (x + 10) j) ∧ (∀ j, j < 80 → s'.1 (y + 11) j = s.1 (x + 11) j) ∧ Fr y 12 s s' := by
  refine ⟨?w, ?x, ?y⟩
  case x =>
    unfold q63
    simp (disch := omega) only [gC_ok, nI_lit, nI_add, pk_mul, nI_clp, nI_eqv, nI_lev, nI_ltv, nI_neg, nI_neg', nI_subv, Nat.add_zero, Nat.zero_add, Nat.mul_zero, Nat.reduceAdd, bN_rv, bM_ru, bV_rv, bV_rx, bU_ru, bU_rx, bN_ite, bM_ite, bV_ite, bU_ite, ↓bx_e, ↓sp_e, gA_ok, gZ_n, gB_0, gB_1, gB_i, and_true, and_false, true_and, false_and, decide_true, decide_false, ↓reduceIte, not_true_eq_false, not_false_eq_true, Bool.false_eq_true, Bool.true_eq_false, Bool.and_true, Bool.and_false, Bool.true_and, Bool.false_and, Bool.or_true, Bool.or_false, Bool.true_or, Bool.false_or, Bool.not_true, Bool.not_false, le_f, le_t, lt_f, lt_t, eq_f, ↓reduceIte, not_true_eq_false, not_false_eq_true, ite_10, bt_0, bt_1]
    rfl
  case y =>
    refine ⟨fun j hj => ?_, fun j hj => ?_, fun j hj => ?_, fun j hj => ?_, fun j hj => ?_, fun j hj => ?_, fun j hj => ?_, fun j hj => ?_, fun j hj => ?_, fun j hj => ?_, fun j hj => ?_, fun j hj => ?_, fun b hb => ?_, Eq.trans rfl rfl⟩
    · have hjj : j = 0 ∨ j = 1 ∨ j = 2 ∨ j = 3 := by omega
      rcases hjj with e | e | e | e <;> subst e <;> simp (disch := omega) only [sC_at, sI_at, eq_f, ↓reduceIte]
    · simp (disch := omega) only [sC_at, sI_at, eq_f, ↓reduceIte]
      rw [if_pos (by omega), show 0 + (j - 0) = j by omega]
    · simp (disch := omega) only [sC_at, sI_at, eq_f, ↓reduceIte]
      rw [if_pos (by omega), show 0 + (j - 0) = j by omega]
    · simp (disch := omega) only [sC_at, sI_at, eq_f, ↓reduceIte]
      rw [if_pos (by omega), show 0 + (j - 0) = j by omega]
    · simp (disch := omega) only [sC_at, sI_at, eq_f, ↓reduceIte]
      rw [if_pos (by omega), show 0 + (j - 0) = j by omega]
    · simp (disch := omega) only [sC_at, sI_at, eq_f, ↓reduceIte]
      rw [if_pos (by omega), show 0 + (j - 0) = j by omega]
    · simp (disch := omega) only [sC_at, sI_at, eq_f, ↓reduceIte]
      rw [if_pos (by omega), show 0 + (j - 0) = j by omega]
    · simp (disch := omega) only [sC_at, sI_at, eq_f, ↓reduceIte]
      rw [if_pos (by omega), show 0 + (j - 0) = j by omega]
    · simp (disch := omega) only [sC_at, sI_at, eq_f, ↓reduceIte]
      rw [if_pos (by omega), show 0 + (j - 0) = j by omega]
    · simp (disch := omega) only [sC_at, sI_at, eq_f, ↓reduceIte]
      rw [if_pos (by omega), show 0 + (j - 0) = j by omega]
    · simp (disch := omega) only [sC_at, sI_at, eq_f, ↓reduceIte]
      rw [if_pos (by omega), show 0 + (j - 0) = j by omega]
    · simp (disch := omega) only [sC_at, sI_at, eq_f, ↓reduceIte]
      rw [if_pos (by omega), show 0 + (j - 0) = j by omega]
    · repeat rw [sC_fn (by omega)]
      repeat rw [sI_fn (by omega)]
/-- a world is copied -/
theorem RS_cp {s s' : mS} {z x : Nat} {f : Nat → Int32} (h : RS s x f) (h0 : ∀ j, j < 4 → s'.1 z j = s.1 x j) (h1 : ∀ o j, 1 ≤ o → o ≤ 10 → j < 8 → s'.1 (z + o) j = s.1 (x + o) j) (h2 : ∀ j, j < 80 → s'.1 (z + 11) j = s.1 (x + 11) j) : RS s' z f := by
  obtain ⟨a0, a1, a2, a3, a4, a5, a6, a7, a8, a9, a10, a11, a12, a13, a14⟩ := h
  refine ⟨fun j => ?_, fun j => ?_, fun j => ?_, fun j => ?_, fun i hi hu => ?_, fun i hi hu => ?_, fun i hi hu => ?_, fun i hi hu => ?_, fun i hi hu => ?_, fun i hi hu => ?_, fun i hi hu => ?_, fun i hi hu => ?_, fun i hi => ?_, fun i hi => ?_, fun i hi hu k hk => ?_⟩
  · rw [h0 0 (by omega)]; exact a0 j
  · rw [h0 1 (by omega)]; exact a1 j
  · rw [h0 2 (by omega)]; exact a2 j
  · rw [h0 3 (by omega)]; exact a3 j
  · rw [h1 1 i (by omega) (by omega) hi]; exact a4 i hi hu
  · rw [h1 2 i (by omega) (by omega) hi]; exact a5 i hi hu
  · rw [h1 3 i (by omega) (by omega) hi]; exact a6 i hi hu
  · rw [h1 4 i (by omega) (by omega) hi]; exact a7 i hi hu
  · rw [h1 5 i (by omega) (by omega) hi]; exact a8 i hi hu
  · rw [h1 6 i (by omega) (by omega) hi]; exact a9 i hi hu
  · rw [h1 7 i (by omega) (by omega) hi]; exact a10 i hi hu
  · rw [h1 8 i (by omega) (by omega) hi]; exact a11 i hi hu
  · rw [h1 9 i (by omega) (by omega) hi]; exact a12 i hi
  · rw [h1 10 i (by omega) (by omega) hi]; exact a13 i hi
  · rw [h2 _ (by omega)]; exact a14 i hi hu k hk
theorem p111 {s : mS} {a b : Nat} (hd : a + 32 ≤ b ∨ b + 32 ≤ a) : ∃ s', q111 a b s = ru s' ∧ (∀ f, RW s b f → RW s' a f) ∧ Fr a 32 s s' := by
  obtain ⟨s1, j0, j1, j2, j3, j4, j5, j6⟩ := cp1 (s := s) (y := a + 1) (x := b + 1) (by omega)
  obtain ⟨s2, k0, k1, k2, k3, k4, k5, k6, k7, k8, k9, k10, k11, k12, k13⟩ := cp63 (s := s1) (y := a + 6) (x := b + 6) (by omega)
  obtain ⟨s3, l0, l1, l2, l3, l4, l5, l6, l7, l8⟩ := cp13 (s := s2) (y := a + 18) (x := b + 18) (by omega)
  obtain ⟨s4, m0, m1, m2, m3⟩ := cp42 (s := s3) (y := a + 26) (x := b + 26) (by omega)
  have d1 : ∀ c, c < a + 1 ∨ a + 6 ≤ c → s1.1 c = s.1 c := fun c hc => j6.1 c (by omega)
  have d2 : ∀ c, c < a + 6 ∨ a + 18 ≤ c → s2.1 c = s1.1 c := fun c hc => k13.1 c (by omega)
  have d3 : ∀ c, c < a + 18 ∨ a + 25 ≤ c → s3.1 c = s2.1 c := fun c hc => l8.1 c (by omega)
  have d4 : ∀ c, c < a + 26 ∨ a + 28 ≤ c → s4.1 c = s3.1 c := fun c hc => m3.1 c (by omega)
  have b4 : ∀ c, b ≤ c → c < b + 32 → s4.1 c = s.1 c := fun c x y => by rw [d4 c (by omega), d3 c (by omega), d2 c (by omega), d1 c (by omega)]
  have a4' : ∀ c, c = a ∨ (a + 28 ≤ c ∧ c < a + 32) → s4.1 c = s.1 c := fun c x => by rw [d4 c (by omega), d3 c (by omega), d2 c (by omega), d1 c (by omega)]
  generalize hs9 : sI (sI (sI (sI (sI (sC (sC (sC (sC s4 (b + 28) (a + 28) 0 0 10) (b + 29) (a + 29) 0 0 10) (b + 30) (a + 30) 0 0 10) (b + 31) (a + 31) 0 0 10) a 9 (s.1 b 9)) a 10 (s.1 b 10)) a 11 (s.1 b 11)) a 12 (s.1 b 12)) a 13 (s.1 b 13) = s9
  have e9 : ∀ c, c ≠ a → c < a + 28 ∨ a + 32 ≤ c → s9.1 c = s4.1 c := fun c x y => by
    rw [← hs9, sI_fn x, sI_fn x, sI_fn x, sI_fn x, sI_fn x, sC_fn (by omega), sC_fn (by omega), sC_fn (by omega), sC_fn (by omega)]
  refine ⟨s9, ?_, fun f h => ?_, fun c hc => ?_, ?_⟩
  · unfold q111
    rw [j0]; simp only [bM_ru]
    rw [k0]; simp only [bM_ru]
    rw [l0]; simp only [bM_ru]
    rw [m0]; simp only [bM_ru]
    have r : ∀ k, s4.1 b k = s.1 b k := fun k => by rw [b4 b (by omega) (by omega)]
    simp (disch := omega) only [gC_ok, sC_at, sI_at, eq_f, ↓reduceIte, r, nI_lit, nI_add, pk_mul, nI_clp, nI_eqv, nI_lev, nI_ltv, nI_neg, nI_neg', nI_subv, Nat.add_zero, Nat.zero_add, Nat.mul_zero, Nat.reduceAdd, bN_rv, bM_ru, bV_rv, bV_rx, bU_ru, bU_rx, bN_ite, bM_ite, bV_ite, bU_ite, ↓bx_e, ↓sp_e, gA_ok, gZ_n, gB_0, gB_1, gB_i, and_true, and_false, true_and, false_and, decide_true, decide_false, ↓reduceIte, not_true_eq_false, not_false_eq_true, Bool.false_eq_true, Bool.true_eq_false, Bool.and_true, Bool.and_false, Bool.true_and, Bool.false_and, Bool.or_true, Bool.or_false, Bool.true_or, Bool.false_or, Bool.not_true, Bool.not_false, le_f, le_t, lt_f, lt_t, eq_f, ↓reduceIte, not_true_eq_false, not_false_eq_true, ite_10, bt_0, bt_1]
    rw [hs9]
  · obtain ⟨hR, ⟨n, n1, n2, n3, n4, n5, n6, n7, n8⟩, hK, ⟨gn, gx, g1, g2, g3, g4, g5, g6⟩, ⟨hn, ho, h1, h2, h3, h4, h5, h6⟩, q9, q10, q11, q12, q13⟩ := h
    have sl : ∀ c, a + 6 ≤ c → c < a + 18 → s9.1 c = s2.1 c := fun c x y => by rw [e9 c (by omega) (by omega), d4 c (by omega), d3 c (by omega)]
    have sb : ∀ c, b + 6 ≤ c → c < b + 18 → s1.1 c = s.1 c := fun c x y => d1 c (by omega)
    have cl : ∀ c, a + 1 ≤ c → c < a + 6 → s9.1 c = s1.1 c := fun c x y => by rw [e9 c (by omega) (by omega), d4 c (by omega), d3 c (by omega), d2 c (by omega)]
    have hi' : ∀ c, a + 18 ≤ c → c < a + 25 → s9.1 c = s3.1 c := fun c x y => by rw [e9 c (by omega) (by omega), d4 c (by omega)]
    have hb' : ∀ c, b + 18 ≤ c → c < b + 25 → s2.1 c = s.1 c := fun c x y => by rw [d2 c (by omega), d1 c (by omega)]
    have lb' : ∀ c, b + 26 ≤ c → c < b + 28 → s3.1 c = s.1 c := fun c x y => by rw [d3 c (by omega), d2 c (by omega), d1 c (by omega)]
    have la : ∀ c, a + 26 ≤ c → c < a + 28 → s9.1 c = s4.1 c := fun c x y => e9 c (by omega) (by omega)
    refine ⟨RS_cp hR (fun j hj => ?_) (fun o j o1 o2 hj => ?_) (fun j hj => ?_), ⟨n, n1, n2, ?_, fun j => ?_, fun c hc => ?_, fun c hc => ?_, fun c hc => ?_, fun c hc => ?_⟩, fun k hk => ?_, ⟨gn, gx, g1, g2, g3, ?_, ?_, fun g w hg hw => ?_⟩, ⟨hn, ho, h1, h2, h3, ?_, ?_, fun r hr => ?_⟩, ?_, ?_, ?_, ?_, ?_⟩
    · rw [sl _ (by omega) (by omega), k1 j hj, sb _ (by omega) (by omega)]
    · have oo : o = 1 ∨ o = 2 ∨ o = 3 ∨ o = 4 ∨ o = 5 ∨ o = 6 ∨ o = 7 ∨ o = 8 ∨ o = 9 ∨ o = 10 := by omega
      rcases oo with e | e | e | e | e | e | e | e | e | e <;> subst e <;> rw [sl _ (by omega) (by omega)]
      · rw [k2 j hj, sb _ (by omega) (by omega)]
      · rw [k3 j hj, sb _ (by omega) (by omega)]
      · rw [k4 j hj, sb _ (by omega) (by omega)]
      · rw [k5 j hj, sb _ (by omega) (by omega)]
      · rw [k6 j hj, sb _ (by omega) (by omega)]
      · rw [k7 j hj, sb _ (by omega) (by omega)]
      · rw [k8 j hj, sb _ (by omega) (by omega)]
      · rw [k9 j hj, sb _ (by omega) (by omega)]
      · rw [k10 j hj, sb _ (by omega) (by omega)]
      · rw [k11 j hj, sb _ (by omega) (by omega)]
    · rw [sl _ (by omega) (by omega), k12 j hj, sb _ (by omega) (by omega)]
    · rw [cl _ (by omega) (by omega), j1 0 (by omega)]; exact n3
    · rw [cl _ (by omega) (by omega), j1 1 (by omega)]; exact n4 j
    · rw [cl _ (by omega) (by omega), j2 c hc]; exact n5 c hc
    · rw [cl _ (by omega) (by omega), j3 c hc]; exact n6 c hc
    · rw [cl _ (by omega) (by omega), j4 c hc]; exact n7 c hc
    · rw [cl _ (by omega) (by omega), j5 c hc]; exact n8 c hc
    · obtain ⟨z0, z1, z2, z3⟩ := hK k hk
      rw [← hs9]
      refine ⟨?_, ?_, ?_, ?_⟩
      · simp (disch := omega) only [sC_at, sI_at, eq_f, ↓reduceIte]
        rw [if_pos (by omega), show 0 + (k - 0) = k by omega, b4 _ (by omega) (by omega)]; exact z0
      · simp (disch := omega) only [sC_at, sI_at, eq_f, ↓reduceIte]
        rw [if_pos (by omega), show 0 + (k - 0) = k by omega, b4 _ (by omega) (by omega)]; exact z1
      · simp (disch := omega) only [sC_at, sI_at, eq_f, ↓reduceIte]
        rw [if_pos (by omega), show 0 + (k - 0) = k by omega, b4 _ (by omega) (by omega)]; exact z2
      · simp (disch := omega) only [sC_at, sI_at, eq_f, ↓reduceIte]
        rw [if_pos (by omega), show 0 + (k - 0) = k by omega, b4 _ (by omega) (by omega)]; exact z3
    · rw [la _ (by omega) (by omega), m1 0 (by omega), lb' _ (by omega) (by omega)]; exact g4
    · rw [la _ (by omega) (by omega), m1 1 (by omega), lb' _ (by omega) (by omega)]; exact g5
    · rw [la _ (by omega) (by omega), m2 _ (by omega), lb' _ (by omega) (by omega)]; exact g6 g w hg hw
    · rw [hi' _ (by omega) (by omega), l1 0 (by omega), hb' _ (by omega) (by omega)]; exact h4
    · rw [hi' _ (by omega) (by omega), l1 1 (by omega), hb' _ (by omega) (by omega)]; exact h5
    · obtain ⟨y1, y2, y3, y4, y5⟩ := h6 r hr
      refine ⟨?_, ?_, ?_, ?_, fun k hk => ⟨?_, ?_⟩⟩
      · rw [hi' _ (by omega) (by omega), l2 _ (by omega), hb' _ (by omega) (by omega)]; exact y1
      · rw [hi' _ (by omega) (by omega), l3 _ (by omega), hb' _ (by omega) (by omega)]; exact y2
      · rw [hi' _ (by omega) (by omega), l4 _ (by omega), hb' _ (by omega) (by omega)]; exact y3
      · rw [hi' _ (by omega) (by omega), l5 _ (by omega), hb' _ (by omega) (by omega)]; exact y4
      · rw [hi' _ (by omega) (by omega), l6 _ (by omega), hb' _ (by omega) (by omega)]; exact (y5 k hk).1
      · rw [hi' _ (by omega) (by omega), l7 _ (by omega), hb' _ (by omega) (by omega)]; exact (y5 k hk).2
    · rw [← hs9]; simp (disch := omega) only [sI_at, eq_f, ↓reduceIte]; exact q9
    · rw [← hs9]; simp (disch := omega) only [sI_at, eq_f, ↓reduceIte]; exact q10
    · rw [← hs9]; simp (disch := omega) only [sI_at, eq_f, ↓reduceIte]; exact q11
    · rw [← hs9]; simp (disch := omega) only [sI_at, eq_f, ↓reduceIte]; exact q12
    · rw [← hs9]; simp (disch := omega) only [sI_at, eq_f, ↓reduceIte]; exact q13
  · rw [e9 c (by omega) (by omega), d4 c (by omega), d3 c (by omega), d2 c (by omega), d1 c (by omega)]
  · rw [← hs9]
    show s4.2 = s.2
    rw [m3.2, l8.2, k13.2, j6.2]
