/-! SLOT, THE REFERENCE AND BOTH -/
theorem m276 {t : mS} {T : Nat} (hA : IM T (t.1 513)) {i w : Nat} (hi : i < 8) (hw : w < 16) : ∃ t', q276 (nI i) (nI w) t = rv (slA (t.1 513) i w) t' ∧ t'.2 = t.2 ∧ t'.1 512 0 = nI 0 ∧ Gq t t' := by
  obtain ⟨hs, hc, hW, hT, -⟩ := hA
  have hx : q276 (nI i) (nI w) t = q276_33 (nI i) (nI w) (nI 0) (sI t 512 0 (nI 0)) := by
    unfold q276
    rw [nI_lit, nI_lit, nI_lit]
    simp only [sp_e]
    rw [m273_t hi, bN_rv, m188_0, bN_rv, if_neg (not_not_intro rfl), in_t (by omega) (by omega), bN_rv, if_pos (by decide)]
  rw [hx]
  have e5 : (sI t 512 0 (nI 0)).1 513 = t.1 513 := t0_513
  have g0 : Gq t (sI t 512 0 (nI 0)) := Gq_0
  have z0 : (sI t 512 0 (nI 0)).1 512 0 = nI 0 := t0_0
  have n0 : (sI t 512 0 (nI 0)).2 = t.2 := Eq.trans rfl rfl
  generalize sI t 512 0 (nI 0) = u at *
  rw [← e5] at hs hc hW hT
  rw [← e5]
  unfold q276_33
  rw [nI_lit, nI_lit, m188_0, bN_rv, if_pos rfl]
  have hz : (u.1 513 (74 + 21 * i) = nI 0) = (sU (u.1 513) i = false) := by
    unfold sU
    by_cases q : u.1 513 (74 + 21 * i) = nI 0 <;> simp only [q, and_true, and_false, true_and, false_and, decide_true, decide_false, ↓reduceIte, not_true_eq_false, not_false_eq_true, Bool.false_eq_true, Bool.true_eq_false, Bool.and_true, Bool.and_false, Bool.true_and, Bool.false_and, Bool.or_true, Bool.or_false, Bool.true_or, Bool.false_or, Bool.not_true, Bool.not_false]
  have e0 : q204 (nI i) (nI 0) u = rv (u.1 513 (74 + 21 * i)) u := by simp (disch := omega) only [nI_lit, nI_add, pk_mul, nI_clp, nI_eqv, nI_lev, nI_ltv, nI_neg, nI_neg', nI_subv, Nat.add_zero, Nat.zero_add, Nat.mul_zero, Nat.reduceAdd, bN_rv, bM_ru, bV_rv, bV_rx, bU_ru, bU_rx, bN_ite, bM_ite, bV_ite, bU_ite, ↓bx_e, ↓sp_e, gA_ok, gZ_n, gB_0, gB_1, gB_i, and_true, and_false, true_and, false_and, decide_true, decide_false, ↓reduceIte, not_true_eq_false, not_false_eq_true, Bool.false_eq_true, Bool.true_eq_false, Bool.and_true, Bool.and_false, Bool.true_and, Bool.false_and, Bool.or_true, Bool.or_false, Bool.true_or, Bool.false_or, Bool.not_true, Bool.not_false, le_f, le_t, lt_f, lt_t, eq_f, ↓reduceIte, not_true_eq_false, not_false_eq_true, ite_10, bt_0, bt_1, q198, q199, q200, q201, q202, q203, q204, m190, m205, m206, b2_0, q189, q187]
  rw [e0, bN_rv]
  cases hu : sU (u.1 513) i
  · rw [hu] at hz
    have ez : u.1 513 (74 + 21 * i) = nI 0 := hz.mpr rfl
    rw [if_neg (not_not_intro ez)]
    refine ⟨u, ?_, n0, z0, g0⟩
    rcases Nat.eq_zero_or_pos w with e | hp
    · subst e
      simp only [slA, ez, and_true, and_false, true_and, false_and, decide_true, decide_false, ↓reduceIte, not_true_eq_false, not_false_eq_true, Bool.false_eq_true, Bool.true_eq_false, Bool.and_true, Bool.and_false, Bool.true_and, Bool.false_and, Bool.or_true, Bool.or_false, Bool.true_or, Bool.false_or, Bool.not_true, Bool.not_false]
    · have hn : ¬ nI w = nI 0 := fun q => by have := (nI_eqv (by omega) (by omega)).mp q; omega
      have eA : slA (u.1 513) i w = if sU (u.1 513) i = true then slV (u.1 513) i w else -nI 1 := if_neg (by omega)
      rw [if_pos hn, eA, hu]
      rfl
  · rw [hu] at hz
    have ez : ¬ u.1 513 (74 + 21 * i) = nI 0 := fun q => by have := hz.mp q; cases this
    rw [if_pos ez]
    have eA : slA (u.1 513) i w = slV (u.1 513) i w := by
      unfold slA
      by_cases e : w = 0
      · subst e; rw [if_pos rfl]; rfl
      · rw [if_neg e, if_pos hu]
    rw [eA]
    rcases (by omega : w = 10 ∨ w = 11 ∨ (w ≠ 10 ∧ w ≠ 11)) with e | e | ⟨n1, n2⟩
    · subst e
      obtain ⟨t', h1, h2⟩ := m247 hs hc hW hi
      refine ⟨t', ?_, h2.2.trans n0, ?_, Gq_t g0 (Gq_520 h2)⟩
      · simp (disch := omega) only [h1, nI_lit, nI_add, pk_mul, nI_clp, nI_eqv, nI_lev, nI_ltv, nI_neg, nI_neg', nI_subv, Nat.add_zero, Nat.zero_add, Nat.mul_zero, Nat.reduceAdd, bN_rv, bM_ru, bV_rv, bV_rx, bU_ru, bU_rx, bN_ite, bM_ite, bV_ite, bU_ite, ↓bx_e, ↓sp_e, gA_ok, gZ_n, gB_0, gB_1, gB_i, and_true, and_false, true_and, false_and, decide_true, decide_false, ↓reduceIte, not_true_eq_false, not_false_eq_true, Bool.false_eq_true, Bool.true_eq_false, Bool.and_true, Bool.and_false, Bool.true_and, Bool.false_and, Bool.or_true, Bool.or_false, Bool.true_or, Bool.false_or, Bool.not_true, Bool.not_false, le_f, le_t, lt_f, lt_t, eq_f, ↓reduceIte, not_true_eq_false, not_false_eq_true, ite_10, bt_0, bt_1]; rfl
      · rw [h2.1 512 (by omega)]; exact z0
    · subst e
      obtain ⟨t', h1, h2⟩ := m248 hs hc hW hi
      refine ⟨t', ?_, h2.2.trans n0, ?_, Gq_t g0 (Gq_520 h2)⟩
      · simp (disch := omega) only [h1, nI_lit, nI_add, pk_mul, nI_clp, nI_eqv, nI_lev, nI_ltv, nI_neg, nI_neg', nI_subv, Nat.add_zero, Nat.zero_add, Nat.mul_zero, Nat.reduceAdd, bN_rv, bM_ru, bV_rv, bV_rx, bU_ru, bU_rx, bN_ite, bM_ite, bV_ite, bU_ite, ↓bx_e, ↓sp_e, gA_ok, gZ_n, gB_0, gB_1, gB_i, and_true, and_false, true_and, false_and, decide_true, decide_false, ↓reduceIte, not_true_eq_false, not_false_eq_true, Bool.false_eq_true, Bool.true_eq_false, Bool.and_true, Bool.and_false, Bool.true_and, Bool.false_and, Bool.or_true, Bool.or_false, Bool.true_or, Bool.false_or, Bool.not_true, Bool.not_false, le_f, le_t, lt_f, lt_t, eq_f, ↓reduceIte, not_true_eq_false, not_false_eq_true, ite_10, bt_0, bt_1]; rfl
      · rw [h2.1 512 (by omega)]; exact z0
    · refine ⟨u, ?_, n0, z0, g0⟩
      rcases (by omega : w = 7 ∨ w = 8 ∨ w = 9 ∨ w = 12 ∨ w = 13 ∨ w = 14 ∨ w = 15 ∨ w < 7) with e | e | e | e | e | e | e | hl
      · subst e; simp (disch := omega) only [nI_lit, nI_add, pk_mul, nI_clp, nI_eqv, nI_lev, nI_ltv, nI_neg, nI_neg', nI_subv, Nat.add_zero, Nat.zero_add, Nat.mul_zero, Nat.reduceAdd, bN_rv, bM_ru, bV_rv, bV_rx, bU_ru, bU_rx, bN_ite, bM_ite, bV_ite, bU_ite, ↓bx_e, ↓sp_e, gA_ok, gZ_n, gB_0, gB_1, gB_i, and_true, and_false, true_and, false_and, decide_true, decide_false, ↓reduceIte, not_true_eq_false, not_false_eq_true, Bool.false_eq_true, Bool.true_eq_false, Bool.and_true, Bool.and_false, Bool.true_and, Bool.false_and, Bool.or_true, Bool.or_false, Bool.true_or, Bool.false_or, Bool.not_true, Bool.not_false, le_f, le_t, lt_f, lt_t, eq_f, ↓reduceIte, not_true_eq_false, not_false_eq_true, ite_10, bt_0, bt_1, q198, q199, q200, q201, q202, q203, q204, m190, m205, m206, b2_0, q189, q187]; rfl
      · subst e; simp (disch := omega) only [m211 hi, nI_lit, nI_add, pk_mul, nI_clp, nI_eqv, nI_lev, nI_ltv, nI_neg, nI_neg', nI_subv, Nat.add_zero, Nat.zero_add, Nat.mul_zero, Nat.reduceAdd, bN_rv, bM_ru, bV_rv, bV_rx, bU_ru, bU_rx, bN_ite, bM_ite, bV_ite, bU_ite, ↓bx_e, ↓sp_e, gA_ok, gZ_n, gB_0, gB_1, gB_i, and_true, and_false, true_and, false_and, decide_true, decide_false, ↓reduceIte, not_true_eq_false, not_false_eq_true, Bool.false_eq_true, Bool.true_eq_false, Bool.and_true, Bool.and_false, Bool.true_and, Bool.false_and, Bool.or_true, Bool.or_false, Bool.true_or, Bool.false_or, Bool.not_true, Bool.not_false, le_f, le_t, lt_f, lt_t, eq_f, ↓reduceIte, not_true_eq_false, not_false_eq_true, ite_10, bt_0, bt_1]; rfl
      · subst e; simp (disch := omega) only [m251 hi, nI_lit, nI_add, pk_mul, nI_clp, nI_eqv, nI_lev, nI_ltv, nI_neg, nI_neg', nI_subv, Nat.add_zero, Nat.zero_add, Nat.mul_zero, Nat.reduceAdd, bN_rv, bM_ru, bV_rv, bV_rx, bU_ru, bU_rx, bN_ite, bM_ite, bV_ite, bU_ite, ↓bx_e, ↓sp_e, gA_ok, gZ_n, gB_0, gB_1, gB_i, and_true, and_false, true_and, false_and, decide_true, decide_false, ↓reduceIte, not_true_eq_false, not_false_eq_true, Bool.false_eq_true, Bool.true_eq_false, Bool.and_true, Bool.and_false, Bool.true_and, Bool.false_and, Bool.or_true, Bool.or_false, Bool.true_or, Bool.false_or, Bool.not_true, Bool.not_false, le_f, le_t, lt_f, lt_t, eq_f, ↓reduceIte, not_true_eq_false, not_false_eq_true, ite_10, bt_0, bt_1]; rfl
      · subst e; simp (disch := omega) only [nI_lit, nI_add, pk_mul, nI_clp, nI_eqv, nI_lev, nI_ltv, nI_neg, nI_neg', nI_subv, Nat.add_zero, Nat.zero_add, Nat.mul_zero, Nat.reduceAdd, bN_rv, bM_ru, bV_rv, bV_rx, bU_ru, bU_rx, bN_ite, bM_ite, bV_ite, bU_ite, ↓bx_e, ↓sp_e, gA_ok, gZ_n, gB_0, gB_1, gB_i, and_true, and_false, true_and, false_and, decide_true, decide_false, ↓reduceIte, not_true_eq_false, not_false_eq_true, Bool.false_eq_true, Bool.true_eq_false, Bool.and_true, Bool.and_false, Bool.true_and, Bool.false_and, Bool.or_true, Bool.or_false, Bool.true_or, Bool.false_or, Bool.not_true, Bool.not_false, le_f, le_t, lt_f, lt_t, eq_f, ↓reduceIte, not_true_eq_false, not_false_eq_true, ite_10, bt_0, bt_1, q198, q199, q200, q201, q202, q203, q204, m190, m205, m206, b2_0, q189, q187]; rfl
      · subst e; simp (disch := omega) only [nI_lit, nI_add, pk_mul, nI_clp, nI_eqv, nI_lev, nI_ltv, nI_neg, nI_neg', nI_subv, Nat.add_zero, Nat.zero_add, Nat.mul_zero, Nat.reduceAdd, bN_rv, bM_ru, bV_rv, bV_rx, bU_ru, bU_rx, bN_ite, bM_ite, bV_ite, bU_ite, ↓bx_e, ↓sp_e, gA_ok, gZ_n, gB_0, gB_1, gB_i, and_true, and_false, true_and, false_and, decide_true, decide_false, ↓reduceIte, not_true_eq_false, not_false_eq_true, Bool.false_eq_true, Bool.true_eq_false, Bool.and_true, Bool.and_false, Bool.true_and, Bool.false_and, Bool.or_true, Bool.or_false, Bool.true_or, Bool.false_or, Bool.not_true, Bool.not_false, le_f, le_t, lt_f, lt_t, eq_f, ↓reduceIte, not_true_eq_false, not_false_eq_true, ite_10, bt_0, bt_1, q198, q199, q200, q201, q202, q203, q204, m190, m205, m206, b2_0, q189, q187]; rfl
      · subst e; simp (disch := omega) only [m252 hs.1 hi, nI_lit, nI_add, pk_mul, nI_clp, nI_eqv, nI_lev, nI_ltv, nI_neg, nI_neg', nI_subv, Nat.add_zero, Nat.zero_add, Nat.mul_zero, Nat.reduceAdd, bN_rv, bM_ru, bV_rv, bV_rx, bU_ru, bU_rx, bN_ite, bM_ite, bV_ite, bU_ite, ↓bx_e, ↓sp_e, gA_ok, gZ_n, gB_0, gB_1, gB_i, and_true, and_false, true_and, false_and, decide_true, decide_false, ↓reduceIte, not_true_eq_false, not_false_eq_true, Bool.false_eq_true, Bool.true_eq_false, Bool.and_true, Bool.and_false, Bool.true_and, Bool.false_and, Bool.or_true, Bool.or_false, Bool.true_or, Bool.false_or, Bool.not_true, Bool.not_false, le_f, le_t, lt_f, lt_t, eq_f, ↓reduceIte, not_true_eq_false, not_false_eq_true, ite_10, bt_0, bt_1]; exact b2_ite
      · subst e; simp (disch := omega) only [nI_lit, nI_add, pk_mul, nI_clp, nI_eqv, nI_lev, nI_ltv, nI_neg, nI_neg', nI_subv, Nat.add_zero, Nat.zero_add, Nat.mul_zero, Nat.reduceAdd, bN_rv, bM_ru, bV_rv, bV_rx, bU_ru, bU_rx, bN_ite, bM_ite, bV_ite, bU_ite, ↓bx_e, ↓sp_e, gA_ok, gZ_n, gB_0, gB_1, gB_i, and_true, and_false, true_and, false_and, decide_true, decide_false, ↓reduceIte, not_true_eq_false, not_false_eq_true, Bool.false_eq_true, Bool.true_eq_false, Bool.and_true, Bool.and_false, Bool.true_and, Bool.false_and, Bool.or_true, Bool.or_false, Bool.true_or, Bool.false_or, Bool.not_true, Bool.not_false, le_f, le_t, lt_f, lt_t, eq_f, ↓reduceIte, not_true_eq_false, not_false_eq_true, ite_10, bt_0, bt_1, q198, q199, q200, q201, q202, q203, q204, m190, m205, m206, b2_0, q189, q187]; rfl
      · have ev : slV (u.1 513) i w = u.1 513 (74 + 21 * i + w) := by
          unfold slV
          rw [if_neg (by omega), if_neg (by omega), if_neg (by omega), if_neg (by omega), if_neg (by omega), if_neg (by omega), if_neg (by omega), if_neg (by omega)]
        rw [ev]
        simp (disch := omega) only [nI_lit, nI_add, pk_mul, nI_clp, nI_eqv, nI_lev, nI_ltv, nI_neg, nI_neg', nI_subv, Nat.add_zero, Nat.zero_add, Nat.mul_zero, Nat.reduceAdd, bN_rv, bM_ru, bV_rv, bV_rx, bU_ru, bU_rx, bN_ite, bM_ite, bV_ite, bU_ite, ↓bx_e, ↓sp_e, gA_ok, gZ_n, gB_0, gB_1, gB_i, and_true, and_false, true_and, false_and, decide_true, decide_false, ↓reduceIte, not_true_eq_false, not_false_eq_true, Bool.false_eq_true, Bool.true_eq_false, Bool.and_true, Bool.and_false, Bool.true_and, Bool.false_and, Bool.or_true, Bool.or_false, Bool.true_or, Bool.false_or, Bool.not_true, Bool.not_false, le_f, le_t, lt_f, lt_t, eq_f, ↓reduceIte, not_true_eq_false, not_false_eq_true, ite_10, bt_0, bt_1, q198, q199, q200, q201, q202, q203, q204, m190, m205, m206, b2_0, q189, q187]
section LOOK
variable {B : Nat} {s : mS}
theorem m276_a {t : mS} {v1 v2 : Int32} (h : v1 < nI 0 ∨ nI 8 ≤ v1) : q276 v1 v2 t = rv (nI 0) (sI (sI t 512 0 (nI 0)) 512 0 (nI 1)) := by
  unfold q276
  rw [nI_lit, nI_lit]
  simp only [sp_e]
  rw [m273_f h, bN_rv, m188_1, bN_rv, if_pos (by decide)]
theorem m276_b {t : mS} {i : Nat} {v2 : Int32} (hi : i < 8) (h : v2 < nI 0 ∨ nI 16 ≤ v2) : q276 (nI i) v2 t = rv (nI 0) (sI (sI t 512 0 (nI 0)) 512 0 (nI 2)) := by
  unfold q276
  rw [nI_lit, nI_lit, nI_lit]
  simp only [sp_e]
  rw [m273_t hi, bN_rv, m188_0, bN_rv, if_neg (not_not_intro rfl), in_f (by omega) h, bN_rv, if_neg (not_not_intro rfl)]
  unfold q276_33
  rw [nI_lit, m188_1, bN_rv, nI_lit, if_neg (by decide)]
theorem z_slot (hG : G B s) (v1 v2 : Int32) : ZT B [(2, 13, 1), (3, 17, 2)] (q134 v1 v2) (q276 v1 v2) s := by
  have hG0 := hG
  obtain ⟨⟨hR, hL, T, hT, hA⟩, -⟩ := hG0
  have bad1 : (v1 < nI 0 ∨ nI 8 ≤ v1) → ZT B [(2, 13, 1), (3, 17, 2)] (q134 v1 v2) (q276 v1 v2) s := fun h =>
    ZX_look (x := 2) (u := 2) (w := 13) (c := 1) hG (by unfold q134; rw [p179_f h]; rfl) rfl (by omega) (by omega) (fun t ht => ⟨nI 0, _, m276_a h, Eq.trans rfl rfl, t0_0, Gq_t Gq_0 Gq_0⟩)
  rcases ix_of v1 8 (by omega) with h | h | ⟨i, hi, e⟩
  · exact bad1 (Or.inl h)
  · exact bad1 (Or.inr h)
  · subst e
    have bad2 : (v2 < nI 0 ∨ nI 16 ≤ v2) → ZT B [(2, 13, 1), (3, 17, 2)] (q134 (nI i) v2) (q276 (nI i) v2) s := fun h =>
      ZX_look (x := 3) (u := 3) (w := 17) (c := 2) hG (by unfold q134; rw [p179_t hi, bU_ru, nI_lit, p184_f (by omega) h]; rfl) rfl (by omega) (by omega) (fun t ht => ⟨nI 0, _, m276_b hi h, Eq.trans rfl rfl, t0_0, Gq_t Gq_0 Gq_0⟩)
    rcases ix_of v2 16 (by omega) with h | h | ⟨w, hw, e2⟩
    · exact bad2 (Or.inl h)
    · exact bad2 (Or.inr h)
    · subst e2
      obtain ⟨s1, h1, h2⟩ := p134 hR hL hA.1 hi hw
      refine ZV_look (v := slA (s.1 513) i w) (s1 := s1) hG h1 h2.2 (Gq_q h2) (fun t ht => ?_)
      have e5 : t.1 513 = s.1 513 := by rw [ht, h2.1 513 (by omega) (by omega)]
      have := m276 (t := t) (T := T) (by rw [e5]; exact hA.1) hi hw
      rw [e5] at this
      exact this
end LOOK
