/-! THE STORE'S TEXT: all lines -/
section ST6
variable {b : Nat → Nat} {L : Nat}
theorem stL_1 {p p' : Nat} {f g : Nat → Int32} (h : stL b L p f = .inr (p', g)) : ∀ j, j = 1 ∨ j = 2 ∨ 770 ≤ j → cN f < 5 ∨ f 0 = nI 5 → g j = f j := by
  intro j hj hc
  have hnum : ∀ hi at_ q, (at_ = 4 ∨ at_ = 5) → numT b L hi at_ q f = .inr (p', g) → g j = f j := fun hi at_ q ha e => by
    unfold numT at e
    split at e
    · cases e
    · injection e with e; injection e with _ e; subst e; exact ud_n (by omega)
  unfold stL at h
  split at h
  · split at h
    · cases h
    · rename_i h5
      have hn : cN f < 5 := hc.resolve_right h5
      unfold clT at h
      split at h
      · cases h
      · split at h
        · cases h
        · split at h
          · split at h
            · injection h with h; injection h with _ h; subst h; exact adC_n (by omega) (by omega)
            · cases h
          · injection h with h; injection h with _ h; subst h; exact adC_n (by omega) (by omega)
  · split at h
    · unfold verT at h
      split at h
      · cases h
      · rename_i k hk
        have := nm_p hk
        split at h
        · split at h
          · cases h
          · injection h with h; injection h with _ h; subst h; exact ud_n (by omega)
        · cases h
    · split at h
      · exact hnum _ _ _ (Or.inl rfl) h
      · split at h
        · exact hnum _ _ _ (Or.inr rfl) h
        · cases h
theorem IB_c {T B : Nat} {f : Nat → Int32} (h : IB T B f) : cN f < 5 ∨ f 0 = nI 5 := by
  obtain ⟨n, hn, h0, -⟩ := h.1.1.2.1
  rw [cN_e h0 hn]
  by_cases e : n = 5
  · right; rw [h0, e]
  · left; omega
theorem m239_1 {t : mS} {p n T B : Nat} {f : Nat → Int32} (h : TB b L t) (hp : AtP b L t p) (hf : t.1 513 = f) (hI : IB T B f) (hn : n < 14) : SRf b L t (q239 (nI 1) (nI n) t) (stL b L p f) := by
  obtain ⟨pL, ps⟩ := AtP_l hp
  obtain ⟨q, q1, q2, q3⟩ := hp
  have k := m217 h q2 q1
  rw [q3] at k
  have k2 := m229 (p := p) (tB_T (p := lw b L p) (g := p) h) tB_p tB_g pL (by rw [tB_n (by omega)]; exact hf) hI
  cases e : stL b L p f with
  | inl q' =>
    rw [e] at k2
    obtain ⟨t', a1, a2, a3⟩ := k2
    refine ⟨t', ?_, FT_t FT_B a2, a3⟩
    unfold q239 q239_16
    simp (disch := omega) only [k, a1, nI_lit, nI_add, pk_mul, nI_clp, nI_eqv, nI_lev, nI_ltv, nI_neg, nI_neg', nI_subv, Nat.add_zero, Nat.zero_add, Nat.mul_zero, Nat.reduceAdd, bN_rv, bM_ru, bV_rv, bV_rx, bU_ru, bU_rx, bN_ite, bM_ite, bV_ite, bU_ite, ↓bx_e, ↓sp_e, gA_ok, gZ_n, gB_0, gB_1, gB_i, and_true, and_false, true_and, false_and, decide_true, decide_false, ↓reduceIte, not_true_eq_false, not_false_eq_true, Bool.false_eq_true, Bool.true_eq_false, Bool.and_true, Bool.and_false, Bool.true_and, Bool.false_and, Bool.or_true, Bool.or_false, Bool.true_or, Bool.false_or, Bool.not_true, Bool.not_false, le_f, le_t, lt_f, lt_t, eq_f, ↓reduceIte, not_true_eq_false, not_false_eq_true, ite_10, bt_0, bt_1]
  | inr x =>
    rw [e] at k2
    obtain ⟨t', a1, a2, a3⟩ := k2
    refine ⟨t', ?_, FT_t FT_B a2, a3⟩
    unfold q239 q239_16 q239_41
    simp (disch := omega) only [k, a1, nI_lit, nI_add, pk_mul, nI_clp, nI_eqv, nI_lev, nI_ltv, nI_neg, nI_neg', nI_subv, Nat.add_zero, Nat.zero_add, Nat.mul_zero, Nat.reduceAdd, bN_rv, bM_ru, bV_rv, bV_rx, bU_ru, bU_rx, bN_ite, bM_ite, bV_ite, bU_ite, ↓bx_e, ↓sp_e, gA_ok, gZ_n, gB_0, gB_1, gB_i, and_true, and_false, true_and, false_and, decide_true, decide_false, ↓reduceIte, not_true_eq_false, not_false_eq_true, Bool.false_eq_true, Bool.true_eq_false, Bool.and_true, Bool.and_false, Bool.true_and, Bool.false_and, Bool.or_true, Bool.or_false, Bool.true_or, Bool.false_or, Bool.not_true, Bool.not_false, le_f, le_t, lt_f, lt_t, eq_f, ↓reduceIte, not_true_eq_false, not_false_eq_true, ite_10, bt_0, bt_1]
theorem m239_y {t : mS} {p : Nat} (h : TB b L t) (hp : AtP b L t p) : ∃ t', q239 (nI 1) (nI 14) t = rv (nI 0) t' ∧ FT t t' ∧ t'.1 512 12 = nI p := by
  obtain ⟨q, q1, q2, q3⟩ := hp
  have k := m217 h q2 q1
  rw [q3] at k
  refine ⟨tB t (lw b L p) p, ?_, FT_B, tB_g⟩
  unfold q239 q239_16
  simp (disch := omega) only [k, nI_lit, nI_add, pk_mul, nI_clp, nI_eqv, nI_lev, nI_ltv, nI_neg, nI_neg', nI_subv, Nat.add_zero, Nat.zero_add, Nat.mul_zero, Nat.reduceAdd, bN_rv, bM_ru, bV_rv, bV_rx, bU_ru, bU_rx, bN_ite, bM_ite, bV_ite, bU_ite, ↓bx_e, ↓sp_e, gA_ok, gZ_n, gB_0, gB_1, gB_i, and_true, and_false, true_and, false_and, decide_true, decide_false, ↓reduceIte, not_true_eq_false, not_false_eq_true, Bool.false_eq_true, Bool.true_eq_false, Bool.and_true, Bool.and_false, Bool.true_and, Bool.false_and, Bool.or_true, Bool.or_false, Bool.true_or, Bool.false_or, Bool.not_true, Bool.not_false, le_f, le_t, lt_f, lt_t, eq_f, ↓reduceIte, not_true_eq_false, not_false_eq_true, ite_10, bt_0, bt_1]
theorem m240_s {K : Int32 → mS → Option mQ} {T B : Nat} : ∀ m n p f t N, m + n = 14 → m < N → TB b L t → AtP b L t p → t.1 513 = f → IB T B f → (match storeR b L m p f with
    | .inl q => ∃ t', q240_28 K N (nI 1) (nI n) t = rv (-nI 1) t' ∧ FT t t' ∧ t'.1 512 12 = nI q
    | .inr g => ∃ t' n', q240_28 K N (nI 1) (nI n) t = K (nI n') t' ∧ n' ≤ 14 ∧ FT t t' ∧ t'.1 513 = g ∧ IB T B g ∧ ∀ j, j = 1 ∨ j = 2 ∨ 770 ≤ j → g j = f j) := by
  intro m
  induction m with
  | zero =>
    intro n p f t N hmn hN hT hA hf hI
    obtain ⟨N, rfl⟩ : ∃ N', N = N' + 1 := ⟨N - 1, by omega⟩
    have : n = 14 := by omega
    subst this
    obtain ⟨t', a1, a2, a3⟩ := m239_y hT hA
    rw [storeR]
    refine ⟨t', ?_, a2, a3⟩
    rw [q240_28]
    simp (disch := omega) only [a1, nI_lit, nI_add, pk_mul, nI_clp, nI_eqv, nI_lev, nI_ltv, nI_neg, nI_neg', nI_subv, Nat.add_zero, Nat.zero_add, Nat.mul_zero, Nat.reduceAdd, bN_rv, bM_ru, bV_rv, bV_rx, bU_ru, bU_rx, bN_ite, bM_ite, bV_ite, bU_ite, ↓bx_e, ↓sp_e, gA_ok, gZ_n, gB_0, gB_1, gB_i, and_true, and_false, true_and, false_and, decide_true, decide_false, ↓reduceIte, not_true_eq_false, not_false_eq_true, Bool.false_eq_true, Bool.true_eq_false, Bool.and_true, Bool.and_false, Bool.true_and, Bool.false_and, Bool.or_true, Bool.or_false, Bool.true_or, Bool.false_or, Bool.not_true, Bool.not_false, le_f, le_t, lt_f, lt_t, eq_f, ↓reduceIte, not_true_eq_false, not_false_eq_true, ite_10, bt_0, bt_1]
  | succ m ih =>
    intro n p f t N hmn hN hT hA hf hI
    obtain ⟨N, rfl⟩ : ∃ N', N = N' + 1 := ⟨N - 1, by omega⟩
    obtain ⟨pL, ps⟩ := AtP_l hA
    have hL := hT.1
    have k := m239_1 (n := n) hT hA hf hI (by omega)
    have kk := stL_k (b := b) hI pL ps
    rw [storeR]
    cases e : stL b L p f with
    | inl q =>
      rw [e] at k
      obtain ⟨t', a1, a2, a3⟩ := k
      refine ⟨t', ?_, a2, a3⟩
      rw [q240_28]
      simp (disch := omega) only [a1, nI_lit, nI_add, pk_mul, nI_clp, nI_eqv, nI_lev, nI_ltv, nI_neg, nI_neg', nI_subv, Nat.add_zero, Nat.zero_add, Nat.mul_zero, Nat.reduceAdd, bN_rv, bM_ru, bV_rv, bV_rx, bU_ru, bU_rx, bN_ite, bM_ite, bV_ite, bU_ite, ↓bx_e, ↓sp_e, gA_ok, gZ_n, gB_0, gB_1, gB_i, and_true, and_false, true_and, false_and, decide_true, decide_false, ↓reduceIte, not_true_eq_false, not_false_eq_true, Bool.false_eq_true, Bool.true_eq_false, Bool.and_true, Bool.and_false, Bool.true_and, Bool.false_and, Bool.or_true, Bool.or_false, Bool.true_or, Bool.false_or, Bool.not_true, Bool.not_false, le_f, le_t, lt_f, lt_t, eq_f, ↓reduceIte, not_true_eq_false, not_false_eq_true, ite_10, bt_0, bt_1]
    | inr y =>
      have hj1 := stL_1 e
      rw [e] at k kk
      obtain ⟨t1, a1, a2, a3, a4⟩ := k
      obtain ⟨o1, o2, o3, o4⟩ := kk
      have hT1 := TB_FT hT a2
      obtain ⟨q, q1, q2, q3⟩ := a3
      have k16 := m216 hT1 q2 q1
      rw [q3] at k16
      have e11 : (tB t1 y.1 y.1).1 512 11 = nI L := (tB_T hT1).2.2.1
      dsimp only
      by_cases eL : y.1 = L
      · rw [if_pos eL]
        refine ⟨tB t1 y.1 y.1, n, ?_, by omega, FT_t a2 FT_B, by rw [tB_n (by omega)]; exact a4, o4, fun j hj => hj1 j hj (IB_c hI)⟩
        rw [q240_28]
        rw [eL] at e11
        simp (disch := omega) only [a1, k16, tB_p, e11, eL, nI_lit, nI_add, pk_mul, nI_clp, nI_eqv, nI_lev, nI_ltv, nI_neg, nI_neg', nI_subv, Nat.add_zero, Nat.zero_add, Nat.mul_zero, Nat.reduceAdd, bN_rv, bM_ru, bV_rv, bV_rx, bU_ru, bU_rx, bN_ite, bM_ite, bV_ite, bU_ite, ↓bx_e, ↓sp_e, gA_ok, gZ_n, gB_0, gB_1, gB_i, and_true, and_false, true_and, false_and, decide_true, decide_false, ↓reduceIte, not_true_eq_false, not_false_eq_true, Bool.false_eq_true, Bool.true_eq_false, Bool.and_true, Bool.and_false, Bool.true_and, Bool.false_and, Bool.or_true, Bool.or_false, Bool.true_or, Bool.false_or, Bool.not_true, Bool.not_false, le_f, le_t, lt_f, lt_t, eq_f, ↓reduceIte, not_true_eq_false, not_false_eq_true, ite_10, bt_0, bt_1]
      · rw [if_neg eL]
        have k59 := m215 (lo := 59) (hi := 59) (tB_T (p := y.1) (g := y.1) hT1) tB_p o2 (by omega) (by omega)
        cases e59 : isB b L 59 59 y.1 with
        | false =>
          rw [e59, b2_f] at k59
          rw [if_neg (show ¬ (false = true) by decide)]
          refine ⟨tB t1 y.1 y.1, ?_, FT_t a2 FT_B, tB_g⟩
          rw [q240_28]
          simp (disch := omega) only [a1, k16, tB_p, e11, eL, k59, nI_lit, nI_add, pk_mul, nI_clp, nI_eqv, nI_lev, nI_ltv, nI_neg, nI_neg', nI_subv, Nat.add_zero, Nat.zero_add, Nat.mul_zero, Nat.reduceAdd, bN_rv, bM_ru, bV_rv, bV_rx, bU_ru, bU_rx, bN_ite, bM_ite, bV_ite, bU_ite, ↓bx_e, ↓sp_e, gA_ok, gZ_n, gB_0, gB_1, gB_i, and_true, and_false, true_and, false_and, decide_true, decide_false, ↓reduceIte, not_true_eq_false, not_false_eq_true, Bool.false_eq_true, Bool.true_eq_false, Bool.and_true, Bool.and_false, Bool.true_and, Bool.false_and, Bool.or_true, Bool.or_false, Bool.true_or, Bool.false_or, Bool.not_true, Bool.not_false, le_f, le_t, lt_f, lt_t, eq_f, ↓reduceIte, not_true_eq_false, not_false_eq_true, ite_10, bt_0, bt_1]
        | true =>
          have hq := isB_t e59
          rw [e59, b2_t] at k59
          rw [if_pos rfl]
          have i1 := ih (n + 1) (sk b L (y.1 + 1)) y.2 (tB t1 (y.1 + 1) y.1) N (by omega) (by omega) (tB_T hT1) (AtP_B (by omega)) (by rw [tB_n (by omega)]; exact a4) o4
          have eq : q240_28 K (N + 1) (nI 1) (nI n) t = q240_28 K N (nI 1) (nI (n + 1)) (tB t1 (y.1 + 1) y.1) := by
            rw [q240_28]
            simp (disch := omega) only [a1, k16, tB_p, tB_M, e11, eL, k59, nI_lit, nI_add, pk_mul, nI_clp, nI_eqv, nI_lev, nI_ltv, nI_neg, nI_neg', nI_subv, Nat.add_zero, Nat.zero_add, Nat.mul_zero, Nat.reduceAdd, bN_rv, bM_ru, bV_rv, bV_rx, bU_ru, bU_rx, bN_ite, bM_ite, bV_ite, bU_ite, ↓bx_e, ↓sp_e, gA_ok, gZ_n, gB_0, gB_1, gB_i, and_true, and_false, true_and, false_and, decide_true, decide_false, ↓reduceIte, not_true_eq_false, not_false_eq_true, Bool.false_eq_true, Bool.true_eq_false, Bool.and_true, Bool.and_false, Bool.true_and, Bool.false_and, Bool.or_true, Bool.or_false, Bool.true_or, Bool.false_or, Bool.not_true, Bool.not_false, le_f, le_t, lt_f, lt_t, eq_f, ↓reduceIte, not_true_eq_false, not_false_eq_true, ite_10, bt_0, bt_1]
          rw [eq]
          cases e2 : storeR b L m (sk b L (y.1 + 1)) y.2 with
          | inl q' =>
            rw [e2] at i1
            obtain ⟨t', g1, g2, g3⟩ := i1
            exact ⟨t', g1, FT_t a2 (FT_t FT_B g2), g3⟩
          | inr g =>
            rw [e2] at i1
            obtain ⟨t', n', g1, g2, g3, g4, g5, g6⟩ := i1
            exact ⟨t', n', g1, g2, FT_t a2 (FT_t FT_B g3), g4, g5, fun j hj => by rw [g6 j hj]; exact hj1 j hj (IB_c hI)⟩
theorem p92_21 {T B : Nat} : ∀ m i p f s N, m + i = 14 → m < N → CP b L s → s.1 1 2 = nI p → p ≤ L → sk b L p = p → RW s 58 f → IB T B f → (match storeR b L m p f with
    | .inl q => ∃ s', q92_21 58 N (nI i) s = rv (nI 0) s' ∧ FS s s' ∧ s'.1 1 2 = nI q
    | .inr g => ∃ s', q92_21 58 N (nI i) s = rv (nI 1) s' ∧ FS s s' ∧ RW s' 58 g) := by
  intro m
  induction m with
  | zero =>
    intro i p f s N hmi hN h hp hpL hs hR hI
    obtain ⟨N, rfl⟩ : ∃ N', N = N' + 1 := ⟨N - 1, by omega⟩
    rw [storeR]
    refine ⟨s, ?_, ⟨fun _ _ _ => rfl, fun _ _ => rfl, rfl⟩, hp⟩
    rw [q92_21]
    simp (disch := omega) only [nI_lit, nI_add, pk_mul, nI_clp, nI_eqv, nI_lev, nI_ltv, nI_neg, nI_neg', nI_subv, Nat.add_zero, Nat.zero_add, Nat.mul_zero, Nat.reduceAdd, bN_rv, bM_ru, bV_rv, bV_rx, bU_ru, bU_rx, bN_ite, bM_ite, bV_ite, bU_ite, ↓bx_e, ↓sp_e, gA_ok, gZ_n, gB_0, gB_1, gB_i, and_true, and_false, true_and, false_and, decide_true, decide_false, ↓reduceIte, not_true_eq_false, not_false_eq_true, Bool.false_eq_true, Bool.true_eq_false, Bool.and_true, Bool.and_false, Bool.true_and, Bool.false_and, Bool.or_true, Bool.or_false, Bool.true_or, Bool.false_or, Bool.not_true, Bool.not_false, le_f, le_t, lt_f, lt_t, eq_f, ↓reduceIte, not_true_eq_false, not_false_eq_true, ite_10, bt_0, bt_1]
  | succ m ih =>
    intro i p f s N hmi hN h hp hpL hs hR hI
    obtain ⟨N, rfl⟩ : ∃ N', N = N' + 1 := ⟨N - 1, by omega⟩
    have hL := h.1
    have k := p93 h hp hpL hR hI
    have kk := stL_k (b := b) hI hpL hs
    rw [storeR]
    cases e : stL b L p f with
    | inl q =>
      rw [e] at k kk
      obtain ⟨s1, x, a1, a2, a3, a4⟩ := k
      refine ⟨s1, ?_, a2, a3⟩
      rcases a4 with e0 | ⟨e0, e1, e2⟩
      · subst e0
        rw [q92_21]
        simp (disch := omega) only [a1, nI_lit, nI_add, pk_mul, nI_clp, nI_eqv, nI_lev, nI_ltv, nI_neg, nI_neg', nI_subv, Nat.add_zero, Nat.zero_add, Nat.mul_zero, Nat.reduceAdd, bN_rv, bM_ru, bV_rv, bV_rx, bU_ru, bU_rx, bN_ite, bM_ite, bV_ite, bU_ite, ↓bx_e, ↓sp_e, gA_ok, gZ_n, gB_0, gB_1, gB_i, and_true, and_false, true_and, false_and, decide_true, decide_false, ↓reduceIte, not_true_eq_false, not_false_eq_true, Bool.false_eq_true, Bool.true_eq_false, Bool.and_true, Bool.and_false, Bool.true_and, Bool.false_and, Bool.or_true, Bool.or_false, Bool.true_or, Bool.false_or, Bool.not_true, Bool.not_false, le_f, le_t, lt_f, lt_t, eq_f, ↓reduceIte, not_true_eq_false, not_false_eq_true, ite_10, bt_0, bt_1]
      · subst e0
        have k101 := p101 (CP_S h a2) a3 kk.2
        rw [decide_eq_false e1, b2_f] at k101
        have k59 := p104 (c := 59) (CP_S h a2) a3 kk.2 (by omega)
        rw [e2, b2_f, if_neg (show ¬ (false = true) by decide), cAt_i a3] at k59
        rw [q92_21]
        simp (disch := omega) only [a1, k101, k59, nI_lit, nI_add, pk_mul, nI_clp, nI_eqv, nI_lev, nI_ltv, nI_neg, nI_neg', nI_subv, Nat.add_zero, Nat.zero_add, Nat.mul_zero, Nat.reduceAdd, bN_rv, bM_ru, bV_rv, bV_rx, bU_ru, bU_rx, bN_ite, bM_ite, bV_ite, bU_ite, ↓bx_e, ↓sp_e, gA_ok, gZ_n, gB_0, gB_1, gB_i, and_true, and_false, true_and, false_and, decide_true, decide_false, ↓reduceIte, not_true_eq_false, not_false_eq_true, Bool.false_eq_true, Bool.true_eq_false, Bool.and_true, Bool.and_false, Bool.true_and, Bool.false_and, Bool.or_true, Bool.or_false, Bool.true_or, Bool.false_or, Bool.not_true, Bool.not_false, le_f, le_t, lt_f, lt_t, eq_f, ↓reduceIte, not_true_eq_false, not_false_eq_true, ite_10, bt_0, bt_1]
    | inr y =>
      rw [e] at k kk
      obtain ⟨s1, a1, a2, a3, a4⟩ := k
      obtain ⟨o1, o2, o3, o4⟩ := kk
      have hC0 := CP_S h a2
      have k101 := p101 hC0 a3 o2
      dsimp only
      by_cases eL : y.1 = L
      · rw [decide_eq_true eL, b2_t] at k101
        rw [if_pos eL]
        refine ⟨s1, ?_, a2, a4⟩
        rw [q92_21]
        simp (disch := omega) only [a1, k101, nI_lit, nI_add, pk_mul, nI_clp, nI_eqv, nI_lev, nI_ltv, nI_neg, nI_neg', nI_subv, Nat.add_zero, Nat.zero_add, Nat.mul_zero, Nat.reduceAdd, bN_rv, bM_ru, bV_rv, bV_rx, bU_ru, bU_rx, bN_ite, bM_ite, bV_ite, bU_ite, ↓bx_e, ↓sp_e, gA_ok, gZ_n, gB_0, gB_1, gB_i, and_true, and_false, true_and, false_and, decide_true, decide_false, ↓reduceIte, not_true_eq_false, not_false_eq_true, Bool.false_eq_true, Bool.true_eq_false, Bool.and_true, Bool.and_false, Bool.true_and, Bool.false_and, Bool.or_true, Bool.or_false, Bool.true_or, Bool.false_or, Bool.not_true, Bool.not_false, le_f, le_t, lt_f, lt_t, eq_f, ↓reduceIte, not_true_eq_false, not_false_eq_true, ite_10, bt_0, bt_1]
      · rw [decide_eq_false eL, b2_f] at k101
        rw [if_neg eL]
        have k59 := p104 (c := 59) hC0 a3 o2 (by omega)
        cases e59 : isB b L 59 59 y.1 with
        | false =>
          rw [e59, b2_f, if_neg (show ¬ (false = true) by decide), cAt_i a3] at k59
          rw [if_neg (show ¬ (false = true) by decide)]
          refine ⟨s1, ?_, a2, a3⟩
          rw [q92_21]
          simp (disch := omega) only [a1, k101, k59, nI_lit, nI_add, pk_mul, nI_clp, nI_eqv, nI_lev, nI_ltv, nI_neg, nI_neg', nI_subv, Nat.add_zero, Nat.zero_add, Nat.mul_zero, Nat.reduceAdd, bN_rv, bM_ru, bV_rv, bV_rx, bU_ru, bU_rx, bN_ite, bM_ite, bV_ite, bU_ite, ↓bx_e, ↓sp_e, gA_ok, gZ_n, gB_0, gB_1, gB_i, and_true, and_false, true_and, false_and, decide_true, decide_false, ↓reduceIte, not_true_eq_false, not_false_eq_true, Bool.false_eq_true, Bool.true_eq_false, Bool.and_true, Bool.and_false, Bool.true_and, Bool.false_and, Bool.or_true, Bool.or_false, Bool.true_or, Bool.false_or, Bool.not_true, Bool.not_false, le_f, le_t, lt_f, lt_t, eq_f, ↓reduceIte, not_true_eq_false, not_false_eq_true, ite_10, bt_0, bt_1]
        | true =>
          have hq := isB_t e59
          rw [e59, b2_t, if_pos rfl] at k59
          rw [if_pos rfl]
          obtain ⟨u1, u2, u3, u4⟩ := sk_p (b := b) (show y.1 + 1 ≤ L by omega)
          have i1 := ih (i + 1) (sk b L (y.1 + 1)) y.2 (cAt s1 (sk b L (y.1 + 1))) N (by omega) (by omega) (cAt_C hC0) cAt_p u2 u4 (RW_A a4 o4.1.1.1.1) o4
          have eq : q92_21 58 (N + 1) (nI i) s = q92_21 58 N (nI (i + 1)) (cAt s1 (sk b L (y.1 + 1))) := by
            rw [q92_21]
            simp (disch := omega) only [a1, k101, k59, nI_lit, nI_add, pk_mul, nI_clp, nI_eqv, nI_lev, nI_ltv, nI_neg, nI_neg', nI_subv, Nat.add_zero, Nat.zero_add, Nat.mul_zero, Nat.reduceAdd, bN_rv, bM_ru, bV_rv, bV_rx, bU_ru, bU_rx, bN_ite, bM_ite, bV_ite, bU_ite, ↓bx_e, ↓sp_e, gA_ok, gZ_n, gB_0, gB_1, gB_i, and_true, and_false, true_and, false_and, decide_true, decide_false, ↓reduceIte, not_true_eq_false, not_false_eq_true, Bool.false_eq_true, Bool.true_eq_false, Bool.and_true, Bool.and_false, Bool.true_and, Bool.false_and, Bool.or_true, Bool.or_false, Bool.true_or, Bool.false_or, Bool.not_true, Bool.not_false, le_f, le_t, lt_f, lt_t, eq_f, ↓reduceIte, not_true_eq_false, not_false_eq_true, ite_10, bt_0, bt_1]
          rw [eq]
          cases e2 : storeR b L m (sk b L (y.1 + 1)) y.2 with
          | inl q' =>
            rw [e2] at i1
            obtain ⟨s', g1, g2, g3⟩ := i1
            exact ⟨s', g1, FS_t a2 (FS_t FS_A g2), g3⟩
          | inr g =>
            rw [e2] at i1
            obtain ⟨s', g1, g2, g3⟩ := i1
            exact ⟨s', g1, FS_t a2 (FS_t FS_A g2), g3⟩
theorem p92 {s : mS} {T B : Nat} {f : Nat → Int32} (h : CP b L s) (hR : RW s 58 f) (hI : IB T B f) : match storeS b L f with
    | .inl q => ∃ s', q92 58 s = rv (nI 0) s' ∧ FS s s' ∧ s'.1 1 2 = nI q
    | .inr g => ∃ s', q92 58 s = rv (nI 1) s' ∧ FS s s' ∧ RW s' 58 g := by
  obtain ⟨s1, s2, s3, s4⟩ := sk_p (b := b) (Nat.zero_le L)
  have k100 := p100 h
  have k101 := p101 (cAt_C (p := sk b L 0) h) cAt_p s2
  unfold storeS
  by_cases e : sk b L 0 = L
  · rw [decide_eq_true e, b2_t] at k101
    rw [if_pos e]
    refine ⟨cAt s (sk b L 0), ?_, FS_A, RW_A hR hI.1.1.1.1⟩
    unfold q92
    simp (disch := omega) only [k100, k101, nI_lit, nI_add, pk_mul, nI_clp, nI_eqv, nI_lev, nI_ltv, nI_neg, nI_neg', nI_subv, Nat.add_zero, Nat.zero_add, Nat.mul_zero, Nat.reduceAdd, bN_rv, bM_ru, bV_rv, bV_rx, bU_ru, bU_rx, bN_ite, bM_ite, bV_ite, bU_ite, ↓bx_e, ↓sp_e, gA_ok, gZ_n, gB_0, gB_1, gB_i, and_true, and_false, true_and, false_and, decide_true, decide_false, ↓reduceIte, not_true_eq_false, not_false_eq_true, Bool.false_eq_true, Bool.true_eq_false, Bool.and_true, Bool.and_false, Bool.true_and, Bool.false_and, Bool.or_true, Bool.or_false, Bool.true_or, Bool.false_or, Bool.not_true, Bool.not_false, le_f, le_t, lt_f, lt_t, eq_f, ↓reduceIte, not_true_eq_false, not_false_eq_true, ite_10, bt_0, bt_1]
  · rw [decide_eq_false e, b2_f] at k101
    rw [if_neg e]
    have k := p92_21 (b := b) (L := L) 14 0 (sk b L 0) f _ 10000 (by omega) (by omega) (cAt_C (p := sk b L 0) h) cAt_p s2 s4 (RW_A hR hI.1.1.1.1) hI
    have eq : q92 58 s = q92_21 58 10000 (nI 0) (cAt s (sk b L 0)) := by
      unfold q92
      simp (disch := omega) only [k100, k101, nI_lit, nI_add, pk_mul, nI_clp, nI_eqv, nI_lev, nI_ltv, nI_neg, nI_neg', nI_subv, Nat.add_zero, Nat.zero_add, Nat.mul_zero, Nat.reduceAdd, bN_rv, bM_ru, bV_rv, bV_rx, bU_ru, bU_rx, bN_ite, bM_ite, bV_ite, bU_ite, ↓bx_e, ↓sp_e, gA_ok, gZ_n, gB_0, gB_1, gB_i, and_true, and_false, true_and, false_and, decide_true, decide_false, ↓reduceIte, not_true_eq_false, not_false_eq_true, Bool.false_eq_true, Bool.true_eq_false, Bool.and_true, Bool.and_false, Bool.true_and, Bool.false_and, Bool.or_true, Bool.or_false, Bool.true_or, Bool.false_or, Bool.not_true, Bool.not_false, le_f, le_t, lt_f, lt_t, eq_f, ↓reduceIte, not_true_eq_false, not_false_eq_true, ite_10, bt_0, bt_1]
    rw [eq]
    cases e2 : storeR b L 14 (sk b L 0) f with
    | inl q =>
      rw [e2] at k
      obtain ⟨s', a1, a2, a3⟩ := k
      exact ⟨s', a1, FS_t FS_A a2, a3⟩
    | inr g =>
      rw [e2] at k
      obtain ⟨s', a1, a2, a3⟩ := k
      exact ⟨s', a1, FS_t FS_A a2, a3⟩
theorem m240_1 {t : mS} {T B : Nat} {f : Nat → Int32} (h : TB b L (um t)) (hf : t.1 513 = f) (hI : IB T B f) : match storeS b L f with
    | .inl q => ∃ t', q240 (nI 1) t = rv (-nI 1) t' ∧ FT (sI (um t) 512 16 (nI 0)) t' ∧ t'.1 512 12 = nI q
    | .inr g => ∃ t' n', q240 (nI 1) t = rv (nI n') t' ∧ n' ≤ 15 ∧ FT (sI (um t) 512 16 (nI 0)) t' ∧ t'.1 513 = g ∧ IB T B g ∧ ∀ j, j = 1 ∨ j = 2 ∨ 770 ≤ j → g j = f j := by
  obtain ⟨s1, s2, s3, s4⟩ := sk_p (b := b) (Nat.zero_le L)
  have hL := h.1
  have hT : TB b L (sI (um t) 512 16 (nI 0)) := ⟨h.1, h.2.1, by rw [sI_sm, ud_n (by omega)]; exact h.2.2.1, fun i hi => by rw [sI_fn (by omega)]; exact h.2.2.2 i hi⟩
  have e10 : (sI (um t) 512 16 (nI 0)).1 512 10 = nI 0 := by rw [sI_sm, ud_n (by omega)]; unfold um; rw [sI_sm, ud_e rfl]
  have k16 := m216 hT e10 (Nat.zero_le _)
  have e11 : (tB (sI (um t) 512 16 (nI 0)) (sk b L 0) (sk b L 0)).1 512 11 = nI L := (tB_T hT).2.2.1
  have e5 : (tB (sI (um t) 512 16 (nI 0)) (sk b L 0) (sk b L 0)).1 513 = f := by rw [tB_n (by omega), sI_fn (by omega), um_n (by omega)]; exact hf
  unfold storeS
  by_cases e : sk b L 0 = L
  · rw [if_pos e]
    refine ⟨tB (sI (um t) 512 16 (nI 0)) (sk b L 0) (sk b L 0), 0, ?_, by omega, FT_B, e5, hI, fun _ _ => rfl⟩
    have e10' : (tB (sI (um t) 512 16 (nI 0)) (sk b L 0) (sk b L 0)).1 512 10 = nI L := by rw [tB_p, e]
    unfold q240
    simp (disch := omega) only [q224_e, k16, e10', e11, nI_lit, nI_add, pk_mul, nI_clp, nI_eqv, nI_lev, nI_ltv, nI_neg, nI_neg', nI_subv, Nat.add_zero, Nat.zero_add, Nat.mul_zero, Nat.reduceAdd, bN_rv, bM_ru, bV_rv, bV_rx, bU_ru, bU_rx, bN_ite, bM_ite, bV_ite, bU_ite, ↓bx_e, ↓sp_e, gA_ok, gZ_n, gB_0, gB_1, gB_i, and_true, and_false, true_and, false_and, decide_true, decide_false, ↓reduceIte, not_true_eq_false, not_false_eq_true, Bool.false_eq_true, Bool.true_eq_false, Bool.and_true, Bool.and_false, Bool.true_and, Bool.false_and, Bool.or_true, Bool.or_false, Bool.true_or, Bool.false_or, Bool.not_true, Bool.not_false, le_f, le_t, lt_f, lt_t, eq_f, ↓reduceIte, not_true_eq_false, not_false_eq_true, ite_10, bt_0, bt_1]
  · rw [if_neg e]
    have k := m240_s (b := b) (L := L) (K := q240_54) 14 0 (sk b L 0) f _ 10000 (by omega) (by omega) (tB_T (p := sk b L 0) (g := sk b L 0) hT) (AtP_s s2 s4) e5 hI
    have eq : q240 (nI 1) t = q240_28 q240_54 10000 (nI 1) (nI 0) (tB (sI (um t) 512 16 (nI 0)) (sk b L 0) (sk b L 0)) := by
      unfold q240
      simp (disch := omega) only [q224_e, k16, tB_p, e11, e, nI_lit, nI_add, pk_mul, nI_clp, nI_eqv, nI_lev, nI_ltv, nI_neg, nI_neg', nI_subv, Nat.add_zero, Nat.zero_add, Nat.mul_zero, Nat.reduceAdd, bN_rv, bM_ru, bV_rv, bV_rx, bU_ru, bU_rx, bN_ite, bM_ite, bV_ite, bU_ite, ↓bx_e, ↓sp_e, gA_ok, gZ_n, gB_0, gB_1, gB_i, and_true, and_false, true_and, false_and, decide_true, decide_false, ↓reduceIte, not_true_eq_false, not_false_eq_true, Bool.false_eq_true, Bool.true_eq_false, Bool.and_true, Bool.and_false, Bool.true_and, Bool.false_and, Bool.or_true, Bool.or_false, Bool.true_or, Bool.false_or, Bool.not_true, Bool.not_false, le_f, le_t, lt_f, lt_t, eq_f, ↓reduceIte, not_true_eq_false, not_false_eq_true, ite_10, bt_0, bt_1]
    rw [eq]
    cases e2 : storeR b L 14 (sk b L 0) f with
    | inl q =>
      rw [e2] at k
      obtain ⟨t', a1, a2, a3⟩ := k
      exact ⟨t', a1, FT_t FT_B a2, a3⟩
    | inr g =>
      rw [e2] at k
      obtain ⟨t', n', a1, a2, a3, a4, a5, a6⟩ := k
      refine ⟨t', n' + 1, ?_, by omega, FT_t FT_B a3, a4, a5, a6⟩
      rw [a1]
      unfold q240_54
      simp only [nI_lit, nI_add]
theorem m241_2 {t : mS} {K : mS → Option mQ} : ∀ m i k t', F1 515 t t' → i + m = 1619 → m < k → (∀ j, j < i → t'.1 515 j = t.1 513 j) → ∃ t'', q241_2 K k (nI i) t' = K t'' ∧ F1 515 t t'' ∧ ∀ j, j < 1619 → t''.1 515 j = t.1 513 j := by
  intro m
  induction m with
  | zero =>
    intro i k t' hF hi hk h
    cases k with
    | zero => omega
    | succ k =>
      refine ⟨t', ?_, hF, fun j hj => h j (by omega)⟩
      rw [q241_2]
      simp (disch := omega) only [nI_lit, nI_add, pk_mul, nI_clp, nI_eqv, nI_lev, nI_ltv, nI_neg, nI_neg', nI_subv, Nat.add_zero, Nat.zero_add, Nat.mul_zero, Nat.reduceAdd, bN_rv, bM_ru, bV_rv, bV_rx, bU_ru, bU_rx, bN_ite, bM_ite, bV_ite, bU_ite, ↓bx_e, ↓sp_e, gA_ok, gZ_n, gB_0, gB_1, gB_i, and_true, and_false, true_and, false_and, decide_true, decide_false, ↓reduceIte, not_true_eq_false, not_false_eq_true, Bool.false_eq_true, Bool.true_eq_false, Bool.and_true, Bool.and_false, Bool.true_and, Bool.false_and, Bool.or_true, Bool.or_false, Bool.true_or, Bool.false_or, Bool.not_true, Bool.not_false, le_f, le_t, lt_f, lt_t, eq_f, ↓reduceIte, not_true_eq_false, not_false_eq_true, ite_10, bt_0, bt_1]
  | succ m ih =>
    intro i k t' hF hi hk h
    cases k with
    | zero => omega
    | succ k =>
      obtain ⟨t'', a1, a2⟩ := ih (i + 1) k (sI t' 515 i (t'.1 513 i)) (F1_J hF _ _) (by omega) (by omega) (fun j hj => by
        rw [sI_sm]
        by_cases e : j = i
        · subst e; rw [ud_e rfl, hF.1 513 (by omega)]
        · rw [ud_n e]; exact h j (by omega))
      refine ⟨t'', ?_, a2⟩
      rw [← a1, q241_2]
      simp (disch := omega) only [nI_lit, nI_add, pk_mul, nI_clp, nI_eqv, nI_lev, nI_ltv, nI_neg, nI_neg', nI_subv, Nat.add_zero, Nat.zero_add, Nat.mul_zero, Nat.reduceAdd, bN_rv, bM_ru, bV_rv, bV_rx, bU_ru, bU_rx, bN_ite, bM_ite, bV_ite, bU_ite, ↓bx_e, ↓sp_e, gA_ok, gZ_n, gB_0, gB_1, gB_i, and_true, and_false, true_and, false_and, decide_true, decide_false, ↓reduceIte, not_true_eq_false, not_false_eq_true, Bool.false_eq_true, Bool.true_eq_false, Bool.and_true, Bool.and_false, Bool.true_and, Bool.false_and, Bool.or_true, Bool.or_false, Bool.true_or, Bool.false_or, Bool.not_true, Bool.not_false, le_f, le_t, lt_f, lt_t, eq_f, ↓reduceIte, not_true_eq_false, not_false_eq_true, ite_10, bt_0, bt_1]
theorem m241_92 {t : mS} : ∀ m i k t', F1 513 t t' → i + m = 1619 → m < k → (∀ j, j < i → t'.1 513 j = t.1 515 j) → ∃ t'', q241_92 k (nI i) t' = rv (nI 0) t'' ∧ F1 513 t t'' ∧ ∀ j, j < 1619 → t''.1 513 j = t.1 515 j := by
  intro m
  induction m with
  | zero =>
    intro i k t' hF hi hk h
    cases k with
    | zero => omega
    | succ k =>
      refine ⟨t', ?_, hF, fun j hj => h j (by omega)⟩
      rw [q241_92]
      simp (disch := omega) only [nI_lit, nI_add, pk_mul, nI_clp, nI_eqv, nI_lev, nI_ltv, nI_neg, nI_neg', nI_subv, Nat.add_zero, Nat.zero_add, Nat.mul_zero, Nat.reduceAdd, bN_rv, bM_ru, bV_rv, bV_rx, bU_ru, bU_rx, bN_ite, bM_ite, bV_ite, bU_ite, ↓bx_e, ↓sp_e, gA_ok, gZ_n, gB_0, gB_1, gB_i, and_true, and_false, true_and, false_and, decide_true, decide_false, ↓reduceIte, not_true_eq_false, not_false_eq_true, Bool.false_eq_true, Bool.true_eq_false, Bool.and_true, Bool.and_false, Bool.true_and, Bool.false_and, Bool.or_true, Bool.or_false, Bool.true_or, Bool.false_or, Bool.not_true, Bool.not_false, le_f, le_t, lt_f, lt_t, eq_f, ↓reduceIte, not_true_eq_false, not_false_eq_true, ite_10, bt_0, bt_1]
  | succ m ih =>
    intro i k t' hF hi hk h
    cases k with
    | zero => omega
    | succ k =>
      obtain ⟨t'', a1, a2⟩ := ih (i + 1) k (sI t' 513 i (t'.1 515 i)) (F1_J hF _ _) (by omega) (by omega) (fun j hj => by
        rw [sI_sm]
        by_cases e : j = i
        · subst e; rw [ud_e rfl, hF.1 515 (by omega)]
        · rw [ud_n e]; exact h j (by omega))
      refine ⟨t'', ?_, a2⟩
      rw [← a1, q241_92]
      simp (disch := omega) only [nI_lit, nI_add, pk_mul, nI_clp, nI_eqv, nI_lev, nI_ltv, nI_neg, nI_neg', nI_subv, Nat.add_zero, Nat.zero_add, Nat.mul_zero, Nat.reduceAdd, bN_rv, bM_ru, bV_rv, bV_rx, bU_ru, bU_rx, bN_ite, bM_ite, bV_ite, bU_ite, ↓bx_e, ↓sp_e, gA_ok, gZ_n, gB_0, gB_1, gB_i, and_true, and_false, true_and, false_and, decide_true, decide_false, ↓reduceIte, not_true_eq_false, not_false_eq_true, Bool.false_eq_true, Bool.true_eq_false, Bool.and_true, Bool.and_false, Bool.true_and, Bool.false_and, Bool.or_true, Bool.or_false, Bool.true_or, Bool.false_or, Bool.not_true, Bool.not_false, le_f, le_t, lt_f, lt_t, eq_f, ↓reduceIte, not_true_eq_false, not_false_eq_true, ite_10, bt_0, bt_1]
end ST6
