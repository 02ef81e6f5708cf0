/-! WHO, LIKELY, ASK: rows told -/
theorem GT_b {s : mS} (h : GT s) : ∃ (L : Nat) (b : Nat → Nat), L ≤ 400 ∧ s.1 1 1 = nI L ∧ s.1 1 2 = nI 0 ∧ s.1 512 9 = nI L ∧ (∀ i, i < L → b i < 256) ∧ (∀ i, i < L → s.1 2 i = nI (b i)) ∧ ∀ i, i < L → s.1 518 i = sx (b i) := by
  obtain ⟨L, t1, t2, t3, t4, t5⟩ := h
  refine ⟨L, fun i => if h : i < L then (t5 i h).choose else 0, t1, t2, t3, t4, fun i hi => ?_, fun i hi => ?_, fun i hi => ?_⟩
  · simp only [dif_pos hi]; exact (t5 i hi).choose_spec.1
  · simp only [dif_pos hi]; exact (t5 i hi).choose_spec.2.1
  · simp only [dif_pos hi]; exact (t5 i hi).choose_spec.2.2
theorem sx_lo {b : Nat} (h : b < 128) : sx b = nI b := if_pos h
theorem sx_neg : ∀ b, b < 256 → 128 ≤ b → sx b < nI 0 := by decide +kernel
theorem sx_in {b h : Nat} {s : mS} (hb : b < 256) (hh : h < 100) : q189 (sx b) (nI 0) (nI h) s = rv (b2 (decide (b ≤ h))) s := by
  by_cases h1 : b < 128
  · rw [sx_lo h1]
    by_cases h2 : b ≤ h
    · rw [in_t h2 (by omega), decide_eq_true h2, b2_t]
    · rw [in_f (by omega) (Or.inr (by rw [nI_lev (by omega) (by omega)]; omega)), decide_eq_false h2, b2_f]
  · rw [in_f (by omega) (Or.inl (sx_neg b hb (by omega))), decide_eq_false (by omega), b2_f]
def tlB (b : Nat → Nat) (k : Nat) : Bool := decide (b (2 * k) ≤ 19) && decide (b (2 * k + 1) ≤ 1)
def tld (b : Nat → Nat) (L : Nat) : Bool := decide (L % 2 = 0) && (decide (L ≤ 40) && al (tlB b) (L / 2) 0)
section TL
variable {L : Nat} {b : Nat → Nat}
theorem p109_22 {s : mS} {M : Nat} (hM : 2 * M ≤ 400) (h1 : s.1 1 1 = nI (2 * M)) (h2 : ∀ i, i < 2 * M → s.1 2 i = nI (b i)) (hb : ∀ i, i < 2 * M → b i < 256) : ∀ r k n, k + r = M → r < n → q109_22 n (nI (2 * k)) s = rv (b2 (al (tlB b) r k)) s := by
  intro r
  induction r with
  | zero =>
    intro k n hk hn
    cases n with
    | zero => omega
    | succ n =>
      rw [q109_22, al, b2_t]
      simp (disch := omega) only [h1, nI_lit, nI_add, pk_mul, nI_clp, nI_eqv, nI_lev, nI_ltv, nI_neg, nI_neg', nI_subv, Nat.add_zero, Nat.zero_add, Nat.mul_zero, Nat.reduceAdd, bN_rv, bM_ru, bV_rv, bV_rx, bU_ru, bU_rx, bN_ite, bM_ite, bV_ite, bU_ite, ↓bx_e, ↓sp_e, gA_ok, gZ_n, gB_0, gB_1, gB_i, and_true, and_false, true_and, false_and, decide_true, decide_false, ↓reduceIte, not_true_eq_false, not_false_eq_true, Bool.false_eq_true, Bool.true_eq_false, Bool.and_true, Bool.and_false, Bool.true_and, Bool.false_and, Bool.or_true, Bool.or_false, Bool.true_or, Bool.false_or, Bool.not_true, Bool.not_false, le_f, le_t, lt_f, lt_t, eq_f, ↓reduceIte, not_true_eq_false, not_false_eq_true, ite_10, bt_0, bt_1]
  | succ r ih =>
    intro k n hk hn
    cases n with
    | zero => omega
    | succ n =>
      have e1 := h2 (2 * k) (by omega)
      have e2 := h2 (2 * k + 1) (by omega)
      have l1 := hb (2 * k) (by omega)
      have l2 := hb (2 * k + 1) (by omega)
      have i1 := ih (k + 1) n (by omega) (by omega)
      rw [show 2 * (k + 1) = 2 * k + 2 by omega] at i1
      rw [q109_22, al]
      unfold tlB
      by_cases c1 : b (2 * k) ≤ 19
      · by_cases c2 : b (2 * k + 1) ≤ 1
        · rw [decide_eq_true c1, decide_eq_true c2, Bool.true_and, Bool.true_and, show (fun k => decide (b (2 * k) ≤ 19) && decide (b (2 * k + 1) ≤ 1)) = tlB b from rfl, ← i1]
          simp (disch := omega) only [h1, e1, e2, nI_lit, nI_add, pk_mul, nI_clp, nI_eqv, nI_lev, nI_ltv, nI_neg, nI_neg', nI_subv, Nat.add_zero, Nat.zero_add, Nat.mul_zero, Nat.reduceAdd, bN_rv, bM_ru, bV_rv, bV_rx, bU_ru, bU_rx, bN_ite, bM_ite, bV_ite, bU_ite, ↓bx_e, ↓sp_e, gA_ok, gZ_n, gB_0, gB_1, gB_i, and_true, and_false, true_and, false_and, decide_true, decide_false, ↓reduceIte, not_true_eq_false, not_false_eq_true, Bool.false_eq_true, Bool.true_eq_false, Bool.and_true, Bool.and_false, Bool.true_and, Bool.false_and, Bool.or_true, Bool.or_false, Bool.true_or, Bool.false_or, Bool.not_true, Bool.not_false, le_f, le_t, lt_f, lt_t, eq_f, ↓reduceIte, not_true_eq_false, not_false_eq_true, ite_10, bt_0, bt_1]
        · rw [decide_eq_true c1, decide_eq_false c2, Bool.true_and, Bool.false_and, b2_f]
          simp (disch := omega) only [h1, e1, e2, nI_lit, nI_add, pk_mul, nI_clp, nI_eqv, nI_lev, nI_ltv, nI_neg, nI_neg', nI_subv, Nat.add_zero, Nat.zero_add, Nat.mul_zero, Nat.reduceAdd, bN_rv, bM_ru, bV_rv, bV_rx, bU_ru, bU_rx, bN_ite, bM_ite, bV_ite, bU_ite, ↓bx_e, ↓sp_e, gA_ok, gZ_n, gB_0, gB_1, gB_i, and_true, and_false, true_and, false_and, decide_true, decide_false, ↓reduceIte, not_true_eq_false, not_false_eq_true, Bool.false_eq_true, Bool.true_eq_false, Bool.and_true, Bool.and_false, Bool.true_and, Bool.false_and, Bool.or_true, Bool.or_false, Bool.true_or, Bool.false_or, Bool.not_true, Bool.not_false, le_f, le_t, lt_f, lt_t, eq_f, ↓reduceIte, not_true_eq_false, not_false_eq_true, ite_10, bt_0, bt_1]
      · rw [decide_eq_false c1, Bool.false_and, Bool.false_and, b2_f]
        simp (disch := omega) only [h1, e1, e2, nI_lit, nI_add, pk_mul, nI_clp, nI_eqv, nI_lev, nI_ltv, nI_neg, nI_neg', nI_subv, Nat.add_zero, Nat.zero_add, Nat.mul_zero, Nat.reduceAdd, bN_rv, bM_ru, bV_rv, bV_rx, bU_ru, bU_rx, bN_ite, bM_ite, bV_ite, bU_ite, ↓bx_e, ↓sp_e, gA_ok, gZ_n, gB_0, gB_1, gB_i, and_true, and_false, true_and, false_and, decide_true, decide_false, ↓reduceIte, not_true_eq_false, not_false_eq_true, Bool.false_eq_true, Bool.true_eq_false, Bool.and_true, Bool.and_false, Bool.true_and, Bool.false_and, Bool.or_true, Bool.or_false, Bool.true_or, Bool.false_or, Bool.not_true, Bool.not_false, le_f, le_t, lt_f, lt_t, eq_f, ↓reduceIte, not_true_eq_false, not_false_eq_true, ite_10, bt_0, bt_1]
theorem p109 {s : mS} (hL : L ≤ 400) (h1 : s.1 1 1 = nI L) (h2 : ∀ i, i < L → s.1 2 i = nI (b i)) (hb : ∀ i, i < L → b i < 256) : q109 s = rv (b2 (tld b L)) s := by
  have hr : rmI (nI L) (nI 2) = nI (L % 2) := nI_rem (by omega) (by omega) (by omega)
  unfold q109 tld
  by_cases c1 : L ≤ 40
  · by_cases c2 : L % 2 = 0
    · have hM : L = 2 * (L / 2) := by omega
      have k := p109_22 (s := s) (b := b) (M := L / 2) (by omega) (by rw [← hM]; exact h1) (fun i hi => h2 i (by omega)) (fun i hi => hb i (by omega)) (L / 2) 0 10000 (by omega) (by omega)
      rw [decide_eq_true c1, decide_eq_true c2, Bool.true_and, Bool.true_and]
      rw [c2] at hr
      simp (disch := omega) only [h1, hr, nI_lit, nI_add, pk_mul, nI_clp, nI_eqv, nI_lev, nI_ltv, nI_neg, nI_neg', nI_subv, Nat.add_zero, Nat.zero_add, Nat.mul_zero, Nat.reduceAdd, bN_rv, bM_ru, bV_rv, bV_rx, bU_ru, bU_rx, bN_ite, bM_ite, bV_ite, bU_ite, ↓bx_e, ↓sp_e, gA_ok, gZ_n, gB_0, gB_1, gB_i, and_true, and_false, true_and, false_and, decide_true, decide_false, ↓reduceIte, not_true_eq_false, not_false_eq_true, Bool.false_eq_true, Bool.true_eq_false, Bool.and_true, Bool.and_false, Bool.true_and, Bool.false_and, Bool.or_true, Bool.or_false, Bool.true_or, Bool.false_or, Bool.not_true, Bool.not_false, le_f, le_t, lt_f, lt_t, eq_f, ↓reduceIte, not_true_eq_false, not_false_eq_true, ite_10, bt_0, bt_1]
      exact k
    · rw [decide_eq_false c2, Bool.false_and, b2_f]
      simp (disch := omega) only [h1, hr, nI_lit, nI_add, pk_mul, nI_clp, nI_eqv, nI_lev, nI_ltv, nI_neg, nI_neg', nI_subv, Nat.add_zero, Nat.zero_add, Nat.mul_zero, Nat.reduceAdd, bN_rv, bM_ru, bV_rv, bV_rx, bU_ru, bU_rx, bN_ite, bM_ite, bV_ite, bU_ite, ↓bx_e, ↓sp_e, gA_ok, gZ_n, gB_0, gB_1, gB_i, and_true, and_false, true_and, false_and, decide_true, decide_false, ↓reduceIte, not_true_eq_false, not_false_eq_true, Bool.false_eq_true, Bool.true_eq_false, Bool.and_true, Bool.and_false, Bool.true_and, Bool.false_and, Bool.or_true, Bool.or_false, Bool.true_or, Bool.false_or, Bool.not_true, Bool.not_false, le_f, le_t, lt_f, lt_t, eq_f, ↓reduceIte, not_true_eq_false, not_false_eq_true, ite_10, bt_0, bt_1]
  · rw [decide_eq_false c1, Bool.false_and, Bool.and_false, b2_f]
    simp (disch := omega) only [h1, nI_lit, nI_add, pk_mul, nI_clp, nI_eqv, nI_lev, nI_ltv, nI_neg, nI_neg', nI_subv, Nat.add_zero, Nat.zero_add, Nat.mul_zero, Nat.reduceAdd, bN_rv, bM_ru, bV_rv, bV_rx, bU_ru, bU_rx, bN_ite, bM_ite, bV_ite, bU_ite, ↓bx_e, ↓sp_e, gA_ok, gZ_n, gB_0, gB_1, gB_i, and_true, and_false, true_and, false_and, decide_true, decide_false, ↓reduceIte, not_true_eq_false, not_false_eq_true, Bool.false_eq_true, Bool.true_eq_false, Bool.and_true, Bool.and_false, Bool.true_and, Bool.false_and, Bool.or_true, Bool.or_false, Bool.true_or, Bool.false_or, Bool.not_true, Bool.not_false, le_f, le_t, lt_f, lt_t, eq_f, ↓reduceIte, not_true_eq_false, not_false_eq_true, ite_10, bt_0, bt_1]
theorem m312_26 {t : mS} {M : Nat} (hM : 2 * M ≤ 400) (h1 : t.1 512 11 = nI (2 * M)) (h2 : ∀ i, i < 2 * M → t.1 518 i = sx (b i)) (hb : ∀ i, i < 2 * M → b i < 256) : ∀ r k n, k + r = M → r + 1 < n → q312_26 n (nI 1) (nI (2 * k)) t = rv (b2 (al (tlB b) r k)) t := by
  intro r
  induction r with
  | zero =>
    intro k n hk hn
    cases n with
    | zero => omega
    | succ n =>
      rw [q312_26, al, b2_t]
      simp (disch := omega) only [h1, nI_lit, nI_add, pk_mul, nI_clp, nI_eqv, nI_lev, nI_ltv, nI_neg, nI_neg', nI_subv, Nat.add_zero, Nat.zero_add, Nat.mul_zero, Nat.reduceAdd, bN_rv, bM_ru, bV_rv, bV_rx, bU_ru, bU_rx, bN_ite, bM_ite, bV_ite, bU_ite, ↓bx_e, ↓sp_e, gA_ok, gZ_n, gB_0, gB_1, gB_i, and_true, and_false, true_and, false_and, decide_true, decide_false, ↓reduceIte, not_true_eq_false, not_false_eq_true, Bool.false_eq_true, Bool.true_eq_false, Bool.and_true, Bool.and_false, Bool.true_and, Bool.false_and, Bool.or_true, Bool.or_false, Bool.true_or, Bool.false_or, Bool.not_true, Bool.not_false, le_f, le_t, lt_f, lt_t, eq_f, ↓reduceIte, not_true_eq_false, not_false_eq_true, ite_10, bt_0, bt_1]
  | succ r ih =>
    intro k n hk hn
    obtain ⟨n, rfl⟩ : ∃ m, n = m + 1 + 1 := ⟨n - 2, by omega⟩
    have e1 := h2 (2 * k) (by omega)
    have e2 := h2 (2 * k + 1) (by omega)
    have l1 := hb (2 * k) (by omega)
    have l2 := hb (2 * k + 1) (by omega)
    have i1 := ih (k + 1) (n + 1) (by omega) (by omega)
    rw [show 2 * (k + 1) = 2 * k + 2 by omega] at i1
    have j1 := sx_in (s := t) (h := 19) l1 (by omega)
    have j2 := sx_in (s := t) (h := 1) l2 (by omega)
    have z : ∀ v, q312_26 (n + 1) (nI 0) v t = rv (nI 0) t := fun v => by
      rw [q312_26]
      split
      · exact gB_0
      · rw [if_pos (show nI 0 = 0 from rfl)]; exact gB_0
    rw [q312_26, al]
    unfold tlB
    by_cases c1 : b (2 * k) ≤ 19
    · rw [decide_eq_true c1, b2_t] at j1
      by_cases c2 : b (2 * k + 1) ≤ 1
      · rw [decide_eq_true c2, b2_t] at j2
        rw [decide_eq_true c1, decide_eq_true c2, Bool.true_and, Bool.true_and, show (fun k => decide (b (2 * k) ≤ 19) && decide (b (2 * k + 1) ≤ 1)) = tlB b from rfl, ← i1]
        simp (disch := omega) only [h1, e1, e2, j1, j2, q312_74, nI_lit, nI_add, pk_mul, nI_clp, nI_eqv, nI_lev, nI_ltv, nI_neg, nI_neg', nI_subv, Nat.add_zero, Nat.zero_add, Nat.mul_zero, Nat.reduceAdd, bN_rv, bM_ru, bV_rv, bV_rx, bU_ru, bU_rx, bN_ite, bM_ite, bV_ite, bU_ite, ↓bx_e, ↓sp_e, gA_ok, gZ_n, gB_0, gB_1, gB_i, and_true, and_false, true_and, false_and, decide_true, decide_false, ↓reduceIte, not_true_eq_false, not_false_eq_true, Bool.false_eq_true, Bool.true_eq_false, Bool.and_true, Bool.and_false, Bool.true_and, Bool.false_and, Bool.or_true, Bool.or_false, Bool.true_or, Bool.false_or, Bool.not_true, Bool.not_false, le_f, le_t, lt_f, lt_t, eq_f, ↓reduceIte, not_true_eq_false, not_false_eq_true, ite_10, bt_0, bt_1]
      · rw [decide_eq_false c2, b2_f] at j2
        rw [decide_eq_true c1, decide_eq_false c2, Bool.true_and, Bool.false_and, b2_f]
        simp (disch := omega) only [h1, e1, e2, j1, j2, q312_73, q312_74, z, nI_lit, nI_add, pk_mul, nI_clp, nI_eqv, nI_lev, nI_ltv, nI_neg, nI_neg', nI_subv, Nat.add_zero, Nat.zero_add, Nat.mul_zero, Nat.reduceAdd, bN_rv, bM_ru, bV_rv, bV_rx, bU_ru, bU_rx, bN_ite, bM_ite, bV_ite, bU_ite, ↓bx_e, ↓sp_e, gA_ok, gZ_n, gB_0, gB_1, gB_i, and_true, and_false, true_and, false_and, decide_true, decide_false, ↓reduceIte, not_true_eq_false, not_false_eq_true, Bool.false_eq_true, Bool.true_eq_false, Bool.and_true, Bool.and_false, Bool.true_and, Bool.false_and, Bool.or_true, Bool.or_false, Bool.true_or, Bool.false_or, Bool.not_true, Bool.not_false, le_f, le_t, lt_f, lt_t, eq_f, ↓reduceIte, not_true_eq_false, not_false_eq_true, ite_10, bt_0, bt_1]
    · rw [decide_eq_false c1, b2_f] at j1
      rw [decide_eq_false c1, Bool.false_and, Bool.false_and, b2_f]
      simp (disch := omega) only [h1, e1, e2, j1, q312_73, q312_74, z, nI_lit, nI_add, pk_mul, nI_clp, nI_eqv, nI_lev, nI_ltv, nI_neg, nI_neg', nI_subv, Nat.add_zero, Nat.zero_add, Nat.mul_zero, Nat.reduceAdd, bN_rv, bM_ru, bV_rv, bV_rx, bU_ru, bU_rx, bN_ite, bM_ite, bV_ite, bU_ite, ↓bx_e, ↓sp_e, gA_ok, gZ_n, gB_0, gB_1, gB_i, and_true, and_false, true_and, false_and, decide_true, decide_false, ↓reduceIte, not_true_eq_false, not_false_eq_true, Bool.false_eq_true, Bool.true_eq_false, Bool.and_true, Bool.and_false, Bool.true_and, Bool.false_and, Bool.or_true, Bool.or_false, Bool.true_or, Bool.false_or, Bool.not_true, Bool.not_false, le_f, le_t, lt_f, lt_t, eq_f, ↓reduceIte, not_true_eq_false, not_false_eq_true, ite_10, bt_0, bt_1]
theorem m312 {t : mS} (hL : L ≤ 400) (h1 : t.1 512 11 = nI L) (h2 : ∀ i, i < L → t.1 518 i = sx (b i)) (hb : ∀ i, i < L → b i < 256) : q312 t = rv (b2 (tld b L)) t := by
  have hr : rmI (nI L) (nI 2) = nI (L % 2) := nI_rem (by omega) (by omega) (by omega)
  have z0 : ∀ n v, q312_26 (n + 1) (nI 0) v t = rv (nI 0) t := fun n v => by
    rw [q312_26]
    split
    · exact gB_0
    · rw [if_pos (show nI 0 = 0 from rfl)]; exact gB_0
  have z : q312_22 t = rv (nI 0) t := z0 9999 (nI 0)
  unfold q312 tld
  by_cases c2 : L % 2 = 0
  · rw [c2] at hr
    by_cases c1 : L ≤ 40
    · have hM : L = 2 * (L / 2) := by omega
      have k := m312_26 (t := t) (b := b) (M := L / 2) (by omega) (by rw [← hM]; exact h1) (fun i hi => h2 i (by omega)) (fun i hi => hb i (by omega)) (L / 2) 0 10000 (by omega) (by omega)
      rw [decide_eq_true c1, decide_eq_true c2, Bool.true_and, Bool.true_and]
      simp (disch := omega) only [h1, hr, q312_23, nI_lit, nI_add, pk_mul, nI_clp, nI_eqv, nI_lev, nI_ltv, nI_neg, nI_neg', nI_subv, Nat.add_zero, Nat.zero_add, Nat.mul_zero, Nat.reduceAdd, bN_rv, bM_ru, bV_rv, bV_rx, bU_ru, bU_rx, bN_ite, bM_ite, bV_ite, bU_ite, ↓bx_e, ↓sp_e, gA_ok, gZ_n, gB_0, gB_1, gB_i, and_true, and_false, true_and, false_and, decide_true, decide_false, ↓reduceIte, not_true_eq_false, not_false_eq_true, Bool.false_eq_true, Bool.true_eq_false, Bool.and_true, Bool.and_false, Bool.true_and, Bool.false_and, Bool.or_true, Bool.or_false, Bool.true_or, Bool.false_or, Bool.not_true, Bool.not_false, le_f, le_t, lt_f, lt_t, eq_f, ↓reduceIte, not_true_eq_false, not_false_eq_true, ite_10, bt_0, bt_1]
      exact k
    · rw [decide_eq_false c1, Bool.false_and, Bool.and_false, b2_f]
      simp (disch := omega) only [h1, hr, z, nI_lit, nI_add, pk_mul, nI_clp, nI_eqv, nI_lev, nI_ltv, nI_neg, nI_neg', nI_subv, Nat.add_zero, Nat.zero_add, Nat.mul_zero, Nat.reduceAdd, bN_rv, bM_ru, bV_rv, bV_rx, bU_ru, bU_rx, bN_ite, bM_ite, bV_ite, bU_ite, ↓bx_e, ↓sp_e, gA_ok, gZ_n, gB_0, gB_1, gB_i, and_true, and_false, true_and, false_and, decide_true, decide_false, ↓reduceIte, not_true_eq_false, not_false_eq_true, Bool.false_eq_true, Bool.true_eq_false, Bool.and_true, Bool.and_false, Bool.true_and, Bool.false_and, Bool.or_true, Bool.or_false, Bool.true_or, Bool.false_or, Bool.not_true, Bool.not_false, le_f, le_t, lt_f, lt_t, eq_f, ↓reduceIte, not_true_eq_false, not_false_eq_true, ite_10, bt_0, bt_1]
  · rw [decide_eq_false c2, Bool.false_and, b2_f]
    simp (disch := omega) only [h1, hr, z, nI_lit, nI_add, pk_mul, nI_clp, nI_eqv, nI_lev, nI_ltv, nI_neg, nI_neg', nI_subv, Nat.add_zero, Nat.zero_add, Nat.mul_zero, Nat.reduceAdd, bN_rv, bM_ru, bV_rv, bV_rx, bU_ru, bU_rx, bN_ite, bM_ite, bV_ite, bU_ite, ↓bx_e, ↓sp_e, gA_ok, gZ_n, gB_0, gB_1, gB_i, and_true, and_false, true_and, false_and, decide_true, decide_false, ↓reduceIte, not_true_eq_false, not_false_eq_true, Bool.false_eq_true, Bool.true_eq_false, Bool.and_true, Bool.and_false, Bool.true_and, Bool.false_and, Bool.or_true, Bool.or_false, Bool.true_or, Bool.false_or, Bool.not_true, Bool.not_false, le_f, le_t, lt_f, lt_t, eq_f, ↓reduceIte, not_true_eq_false, not_false_eq_true, ite_10, bt_0, bt_1]
end TL
/-- whether a client does what a row says -/
def dn (f : Nat → Int32) (c row : Nat) : Bool := bt (f (49 + 5 * c + row / 10)) (row % 10)
def doW (f : Nat → Int32) (n row : Nat) : Int32 := fo (fun c x => x ||| (if dn f c row = true then shlI (nI 1) (nI c) else nI 0)) n 0 (nI 0)
theorem sh_0 : ∀ c, c < 5 → shlI (nI 0) (nI c) = nI 0 := by decide +kernel
theorem doW_b {f : Nat → Int32} {n row c : Nat} (hn : n ≤ 5) (hc : c < n) : bt (doW f n row) c = dn f c row := by
  unfold doW
  rw [fo_bits (by omega) c, bt_n0, Bool.false_or, decide_eq_true (by omega), Bool.true_and]
section DO
variable {n : Nat} {f : Nat → Int32}
theorem p6 {s : mS} {row : Nat} (hn : n ≤ 5) (hr : row < 20) (y0 : s.1 27 0 = nI n) (h1 : ∀ c, c < 5 → s.1 (27 + 1) c = f (49 + 5 * c)) (h2 : ∀ c, c < 5 → s.1 (27 + 2) c = f (49 + 5 * c + 1)) : q6 27 (nI row) s = rv (doW f n row) s := by
  have key := lp_fo (Q := fun k x i => q6_4 27 k (nI row) x i s) (g := fun c x => x ||| (if dn f c row = true then shlI (nI 1) (nI c) else nI 0)) (e := n) (out := fun x => rv x s) (fun k x => by
    show q6_4 27 (k + 1) (nI row) x (nI n) s = _
    rw [q6_4]
    simp (disch := omega) only [y0, nI_lit, nI_add, pk_mul, nI_clp, nI_eqv, nI_lev, nI_ltv, nI_neg, nI_neg', nI_subv, Nat.add_zero, Nat.zero_add, Nat.mul_zero, Nat.reduceAdd, bN_rv, bM_ru, bV_rv, bV_rx, bU_ru, bU_rx, bN_ite, bM_ite, bV_ite, bU_ite, ↓bx_e, ↓sp_e, gA_ok, gZ_n, gB_0, gB_1, gB_i, and_true, and_false, true_and, false_and, decide_true, decide_false, ↓reduceIte, not_true_eq_false, not_false_eq_true, Bool.false_eq_true, Bool.true_eq_false, Bool.and_true, Bool.and_false, Bool.true_and, Bool.false_and, Bool.or_true, Bool.or_false, Bool.true_or, Bool.false_or, Bool.not_true, Bool.not_false, le_f, le_t, lt_f, lt_t, eq_f, ↓reduceIte, not_true_eq_false, not_false_eq_true, ite_10, bt_0, bt_1]) (fun k c x hc => by
    show q6_4 27 (k + 1) (nI row) x (nI c) s = q6_4 27 k (nI row) _ (nI (c + 1)) s
    have e1 := h1 c (by omega)
    have e2 := h2 c (by omega)
    have z := sh_0 c (by omega)
    have hb : ∀ w : Int32, ∀ p : Bool, (if p = true then nI 1 else nI 0 : Int32) = w → shlI w (nI c) = if p = true then shlI (nI 1) (nI c) else nI 0 := fun w p h => by
      subst h
      cases p
      · exact z
      · rfl
    by_cases h10 : 10 ≤ row
    · have hd : dn f c row = bt (f (49 + 5 * c + 1)) (row - 10) := by unfold dn; rw [show row / 10 = 1 by omega, show row % 10 = row - 10 by omega]
      have hw := hb _ _ (bt_b (f (49 + 5 * c + 1)) (show row - 10 < 32 by omega)).symm
      rw [← hd] at hw
      rw [q6_4]
      simp (disch := omega) only [y0, e2, q6_44, hw, nI_lit, nI_add, pk_mul, nI_clp, nI_eqv, nI_lev, nI_ltv, nI_neg, nI_neg', nI_subv, Nat.add_zero, Nat.zero_add, Nat.mul_zero, Nat.reduceAdd, bN_rv, bM_ru, bV_rv, bV_rx, bU_ru, bU_rx, bN_ite, bM_ite, bV_ite, bU_ite, ↓bx_e, ↓sp_e, gA_ok, gZ_n, gB_0, gB_1, gB_i, and_true, and_false, true_and, false_and, decide_true, decide_false, ↓reduceIte, not_true_eq_false, not_false_eq_true, Bool.false_eq_true, Bool.true_eq_false, Bool.and_true, Bool.and_false, Bool.true_and, Bool.false_and, Bool.or_true, Bool.or_false, Bool.true_or, Bool.false_or, Bool.not_true, Bool.not_false, le_f, le_t, lt_f, lt_t, eq_f, ↓reduceIte, not_true_eq_false, not_false_eq_true, ite_10, bt_0, bt_1]
    · have hd : dn f c row = bt (f (49 + 5 * c)) row := by unfold dn; rw [show row / 10 = 0 by omega, show row % 10 = row by omega, Nat.add_zero]
      have hw := hb _ _ (bt_b (f (49 + 5 * c)) (show row < 32 by omega)).symm
      rw [← hd] at hw
      rw [q6_4]
      simp (disch := omega) only [y0, e1, q6_44, hw, nI_lit, nI_add, pk_mul, nI_clp, nI_eqv, nI_lev, nI_ltv, nI_neg, nI_neg', nI_subv, Nat.add_zero, Nat.zero_add, Nat.mul_zero, Nat.reduceAdd, bN_rv, bM_ru, bV_rv, bV_rx, bU_ru, bU_rx, bN_ite, bM_ite, bV_ite, bU_ite, ↓bx_e, ↓sp_e, gA_ok, gZ_n, gB_0, gB_1, gB_i, and_true, and_false, true_and, false_and, decide_true, decide_false, ↓reduceIte, not_true_eq_false, not_false_eq_true, Bool.false_eq_true, Bool.true_eq_false, Bool.and_true, Bool.and_false, Bool.true_and, Bool.false_and, Bool.or_true, Bool.or_false, Bool.true_or, Bool.false_or, Bool.not_true, Bool.not_false, le_f, le_t, lt_f, lt_t, eq_f, ↓reduceIte, not_true_eq_false, not_false_eq_true, ite_10, bt_0, bt_1]) (nI 0) 10000 (by omega)
  unfold q6
  simp only [nI_lit]
  exact key
theorem m313 {t : mS} {c row : Nat} (hc : c < 5) (hr : row < 20) (hf : t.1 513 = f) : q313 (nI c) (nI row) t = rv (b2 (dn f c row)) t := by
  have q1 : nI row / nI 10 = nI (row / 10) := nI_quo (by omega) (by omega) (by omega)
  have q2 : rmI (nI row) (nI 10) = nI (row % 10) := nI_rem (by omega) (by omega) (by omega)
  have q3 : row / 10 < 2 := by omega
  have q4 := bt_b (f (49 + 5 * c + row / 10)) (show row % 10 < 32 by omega)
  unfold q313 dn b2
  rw [← q4]
  simp (disch := omega) only [q1, q2, hf, nI_lit, nI_add, pk_mul, nI_clp, nI_eqv, nI_lev, nI_ltv, nI_neg, nI_neg', nI_subv, Nat.add_zero, Nat.zero_add, Nat.mul_zero, Nat.reduceAdd, bN_rv, bM_ru, bV_rv, bV_rx, bU_ru, bU_rx, bN_ite, bM_ite, bV_ite, bU_ite, ↓bx_e, ↓sp_e, gA_ok, gZ_n, gB_0, gB_1, gB_i, and_true, and_false, true_and, false_and, decide_true, decide_false, ↓reduceIte, not_true_eq_false, not_false_eq_true, Bool.false_eq_true, Bool.true_eq_false, Bool.and_true, Bool.and_false, Bool.true_and, Bool.false_and, Bool.or_true, Bool.or_false, Bool.true_or, Bool.false_or, Bool.not_true, Bool.not_false, le_f, le_t, lt_f, lt_t, eq_f, ↓reduceIte, not_true_eq_false, not_false_eq_true, ite_10, bt_0, bt_1, q198, q199, q200, q201, q202, q203, q204, m190, m205, m206, b2_0, q189, q187]
def bnt (p : Bool) : Nat := if p = true then 1 else 0
def wrg (f : Nat → Int32) (b : Nat → Nat) (c : Nat) (k w : Nat) : Nat := if bnt (dn f c (b (2 * k))) = b (2 * k + 1) then w else w + 1
def wrN (f : Nat → Int32) (b : Nat → Nat) (L c : Nat) : Nat := fo (wrg f b c) (L / 2) 0 0
theorem wrg_le (f : Nat → Int32) (b : Nat → Nat) (c : Nat) : ∀ r k w, fo (wrg f b c) r k w ≤ w + r := by
  intro r
  induction r with
  | zero => intro k w; exact Nat.le_refl _
  | succ r ih =>
    intro k w
    rw [fo]
    have := ih (k + 1) (wrg f b c k w)
    have h2 : wrg f b c k w ≤ w + 1 := by unfold wrg; split <;> omega
    omega
theorem tl_k {b : Nat → Nat} {L : Nat} (h : tld b L = true) : L % 2 = 0 ∧ L ≤ 40 ∧ ∀ k, k < L / 2 → b (2 * k) ≤ 19 ∧ b (2 * k + 1) ≤ 1 := by
  unfold tld at h
  rw [Bool.and_eq_true, Bool.and_eq_true] at h
  obtain ⟨h1, h2, h3⟩ := h
  refine ⟨of_decide_eq_true h1, of_decide_eq_true h2, fun k hk => ?_⟩
  have := (al_iff.mp h3) k (by omega) (by omega)
  unfold tlB at this
  rw [Bool.and_eq_true] at this
  exact ⟨of_decide_eq_true this.1, of_decide_eq_true this.2⟩
theorem p168 {s : mS} {b : Nat → Nat} {L c : Nat} (hn : n ≤ 5) (hc : c < n) (y0 : s.1 27 0 = nI n) (h1 : ∀ c, c < 5 → s.1 (27 + 1) c = f (49 + 5 * c)) (h2 : ∀ c, c < 5 → s.1 (27 + 2) c = f (49 + 5 * c + 1)) (ht : tld b L = true) (l1 : s.1 1 1 = nI L) (l2 : ∀ i, i < L → s.1 2 i = nI (b i)) : q168 (nI c) s = rv (nI (wrN f b L c)) s := by
  obtain ⟨g1, g2, g3⟩ := tl_k ht
  have main : ∀ r k w N, k + r = L / 2 → r < N → w ≤ k → q168_4 N (nI c) (nI w) (nI (2 * k)) s = rv (nI (fo (wrg f b c) r k w)) s := by
    intro r
    induction r with
    | zero =>
      intro k w N hk hN hw
      cases N with
      | zero => omega
      | succ N =>
        rw [q168_4, fo]
        simp (disch := omega) only [l1, nI_lit, nI_add, pk_mul, nI_clp, nI_eqv, nI_lev, nI_ltv, nI_neg, nI_neg', nI_subv, Nat.add_zero, Nat.zero_add, Nat.mul_zero, Nat.reduceAdd, bN_rv, bM_ru, bV_rv, bV_rx, bU_ru, bU_rx, bN_ite, bM_ite, bV_ite, bU_ite, ↓bx_e, ↓sp_e, gA_ok, gZ_n, gB_0, gB_1, gB_i, and_true, and_false, true_and, false_and, decide_true, decide_false, ↓reduceIte, not_true_eq_false, not_false_eq_true, Bool.false_eq_true, Bool.true_eq_false, Bool.and_true, Bool.and_false, Bool.true_and, Bool.false_and, Bool.or_true, Bool.or_false, Bool.true_or, Bool.false_or, Bool.not_true, Bool.not_false, le_f, le_t, lt_f, lt_t, eq_f, ↓reduceIte, not_true_eq_false, not_false_eq_true, ite_10, bt_0, bt_1]
    | succ r ih =>
      intro k w N hk hN hw
      cases N with
      | zero => omega
      | succ N =>
        obtain ⟨g4, g5⟩ := g3 k (by omega)
        have e1 := l2 (2 * k) (by omega)
        have e2 := l2 (2 * k + 1) (by omega)
        have k6 := p6 (s := s) hn (show b (2 * k) < 20 by omega) y0 h1 h2
        have hb := bt_b (doW f n (b (2 * k))) (show c < 32 by omega)
        rw [doW_b hn hc] at hb
        have i1 := ih (k + 1) (wrg f b c k w) N (by omega) (by omega) (by unfold wrg; split <;> omega)
        rw [show 2 * (k + 1) = 2 * k + 2 by omega] at i1
        rw [q168_4, fo, ← i1]
        cases hd : dn f c (b (2 * k)) with
        | true =>
          rw [hd, if_pos rfl] at hb
          by_cases q : 1 = b (2 * k + 1)
          · have hw2 : wrg f b c k w = w := by unfold wrg; rw [hd]; exact if_pos q
            rw [hw2]
            rw [← q] at e2
            simp (disch := omega) only [l1, e1, e2, k6, hb, q168_61, Nat.reduceAdd, nI_lit, nI_add, pk_mul, nI_clp, nI_eqv, nI_lev, nI_ltv, nI_neg, nI_neg', nI_subv, Nat.add_zero, Nat.zero_add, Nat.mul_zero, Nat.reduceAdd, bN_rv, bM_ru, bV_rv, bV_rx, bU_ru, bU_rx, bN_ite, bM_ite, bV_ite, bU_ite, ↓bx_e, ↓sp_e, gA_ok, gZ_n, gB_0, gB_1, gB_i, and_true, and_false, true_and, false_and, decide_true, decide_false, ↓reduceIte, not_true_eq_false, not_false_eq_true, Bool.false_eq_true, Bool.true_eq_false, Bool.and_true, Bool.and_false, Bool.true_and, Bool.false_and, Bool.or_true, Bool.or_false, Bool.true_or, Bool.false_or, Bool.not_true, Bool.not_false, le_f, le_t, lt_f, lt_t, eq_f, ↓reduceIte, not_true_eq_false, not_false_eq_true, ite_10, bt_0, bt_1]
          · have hw2 : wrg f b c k w = w + 1 := by unfold wrg; rw [hd]; exact if_neg q
            rw [hw2]
            simp (disch := omega) only [l1, e1, e2, k6, hb, q168_61, Nat.reduceAdd, nI_lit, nI_add, pk_mul, nI_clp, nI_eqv, nI_lev, nI_ltv, nI_neg, nI_neg', nI_subv, Nat.add_zero, Nat.zero_add, Nat.mul_zero, Nat.reduceAdd, bN_rv, bM_ru, bV_rv, bV_rx, bU_ru, bU_rx, bN_ite, bM_ite, bV_ite, bU_ite, ↓bx_e, ↓sp_e, gA_ok, gZ_n, gB_0, gB_1, gB_i, and_true, and_false, true_and, false_and, decide_true, decide_false, ↓reduceIte, not_true_eq_false, not_false_eq_true, Bool.false_eq_true, Bool.true_eq_false, Bool.and_true, Bool.and_false, Bool.true_and, Bool.false_and, Bool.or_true, Bool.or_false, Bool.true_or, Bool.false_or, Bool.not_true, Bool.not_false, le_f, le_t, lt_f, lt_t, eq_f, ↓reduceIte, not_true_eq_false, not_false_eq_true, ite_10, bt_0, bt_1]
        | false =>
          rw [hd, if_neg (by decide)] at hb
          by_cases q : 0 = b (2 * k + 1)
          · have hw2 : wrg f b c k w = w := by unfold wrg; rw [hd]; exact if_pos q
            rw [hw2]
            rw [← q] at e2
            simp (disch := omega) only [l1, e1, e2, k6, hb, q168_61, Nat.reduceAdd, nI_lit, nI_add, pk_mul, nI_clp, nI_eqv, nI_lev, nI_ltv, nI_neg, nI_neg', nI_subv, Nat.add_zero, Nat.zero_add, Nat.mul_zero, Nat.reduceAdd, bN_rv, bM_ru, bV_rv, bV_rx, bU_ru, bU_rx, bN_ite, bM_ite, bV_ite, bU_ite, ↓bx_e, ↓sp_e, gA_ok, gZ_n, gB_0, gB_1, gB_i, and_true, and_false, true_and, false_and, decide_true, decide_false, ↓reduceIte, not_true_eq_false, not_false_eq_true, Bool.false_eq_true, Bool.true_eq_false, Bool.and_true, Bool.and_false, Bool.true_and, Bool.false_and, Bool.or_true, Bool.or_false, Bool.true_or, Bool.false_or, Bool.not_true, Bool.not_false, le_f, le_t, lt_f, lt_t, eq_f, ↓reduceIte, not_true_eq_false, not_false_eq_true, ite_10, bt_0, bt_1]
          · have hw2 : wrg f b c k w = w + 1 := by unfold wrg; rw [hd]; exact if_neg q
            rw [hw2]
            simp (disch := omega) only [l1, e1, e2, k6, hb, q168_61, Nat.reduceAdd, nI_lit, nI_add, pk_mul, nI_clp, nI_eqv, nI_lev, nI_ltv, nI_neg, nI_neg', nI_subv, Nat.add_zero, Nat.zero_add, Nat.mul_zero, Nat.reduceAdd, bN_rv, bM_ru, bV_rv, bV_rx, bU_ru, bU_rx, bN_ite, bM_ite, bV_ite, bU_ite, ↓bx_e, ↓sp_e, gA_ok, gZ_n, gB_0, gB_1, gB_i, and_true, and_false, true_and, false_and, decide_true, decide_false, ↓reduceIte, not_true_eq_false, not_false_eq_true, Bool.false_eq_true, Bool.true_eq_false, Bool.and_true, Bool.and_false, Bool.true_and, Bool.false_and, Bool.or_true, Bool.or_false, Bool.true_or, Bool.false_or, Bool.not_true, Bool.not_false, le_f, le_t, lt_f, lt_t, eq_f, ↓reduceIte, not_true_eq_false, not_false_eq_true, ite_10, bt_0, bt_1]
  unfold q168
  simp only [nI_lit]
  exact main (L / 2) 0 0 10000 (by omega) (by omega) (by omega)
theorem m314 {t : mS} {b : Nat → Nat} {L c : Nat} (hc : c < 5) (hf : t.1 513 = f) (ht : tld b L = true) (l1 : t.1 512 11 = nI L) (l2 : ∀ i, i < L → t.1 518 i = sx (b i)) : q314 (nI c) t = rv (nI (wrN f b L c)) t := by
  obtain ⟨g1, g2, g3⟩ := tl_k ht
  have main : ∀ r k w N, k + r = L / 2 → r < N → w ≤ k → q314_4 N (nI c) (nI w) (nI (2 * k)) t = rv (nI (fo (wrg f b c) r k w)) t := by
    intro r
    induction r with
    | zero =>
      intro k w N hk hN hw
      cases N with
      | zero => omega
      | succ N =>
        rw [q314_4, fo]
        simp (disch := omega) only [l1, nI_lit, nI_add, pk_mul, nI_clp, nI_eqv, nI_lev, nI_ltv, nI_neg, nI_neg', nI_subv, Nat.add_zero, Nat.zero_add, Nat.mul_zero, Nat.reduceAdd, bN_rv, bM_ru, bV_rv, bV_rx, bU_ru, bU_rx, bN_ite, bM_ite, bV_ite, bU_ite, ↓bx_e, ↓sp_e, gA_ok, gZ_n, gB_0, gB_1, gB_i, and_true, and_false, true_and, false_and, decide_true, decide_false, ↓reduceIte, not_true_eq_false, not_false_eq_true, Bool.false_eq_true, Bool.true_eq_false, Bool.and_true, Bool.and_false, Bool.true_and, Bool.false_and, Bool.or_true, Bool.or_false, Bool.true_or, Bool.false_or, Bool.not_true, Bool.not_false, le_f, le_t, lt_f, lt_t, eq_f, ↓reduceIte, not_true_eq_false, not_false_eq_true, ite_10, bt_0, bt_1]
    | succ r ih =>
      intro k w N hk hN hw
      cases N with
      | zero => omega
      | succ N =>
        obtain ⟨g4, g5⟩ := g3 k (by omega)
        have e1 := l2 (2 * k) (by omega)
        have e2 := l2 (2 * k + 1) (by omega)
        rw [sx_lo (by omega)] at e1 e2
        have k6 := m313 (t := t) hc (show b (2 * k) < 20 by omega) hf
        have i1 := ih (k + 1) (wrg f b c k w) N (by omega) (by omega) (by unfold wrg; split <;> omega)
        rw [show 2 * (k + 1) = 2 * k + 2 by omega] at i1
        rw [q314_4, fo, ← i1]
        cases hd : dn f c (b (2 * k)) with
        | true =>
          rw [hd, b2_t] at k6
          by_cases q : 1 = b (2 * k + 1)
          · have hw2 : wrg f b c k w = w := by unfold wrg; rw [hd]; exact if_pos q
            rw [hw2]
            rw [← q] at e2
            simp (disch := omega) only [l1, e1, e2, k6, q314_40, nI_lit, nI_add, pk_mul, nI_clp, nI_eqv, nI_lev, nI_ltv, nI_neg, nI_neg', nI_subv, Nat.add_zero, Nat.zero_add, Nat.mul_zero, Nat.reduceAdd, bN_rv, bM_ru, bV_rv, bV_rx, bU_ru, bU_rx, bN_ite, bM_ite, bV_ite, bU_ite, ↓bx_e, ↓sp_e, gA_ok, gZ_n, gB_0, gB_1, gB_i, and_true, and_false, true_and, false_and, decide_true, decide_false, ↓reduceIte, not_true_eq_false, not_false_eq_true, Bool.false_eq_true, Bool.true_eq_false, Bool.and_true, Bool.and_false, Bool.true_and, Bool.false_and, Bool.or_true, Bool.or_false, Bool.true_or, Bool.false_or, Bool.not_true, Bool.not_false, le_f, le_t, lt_f, lt_t, eq_f, ↓reduceIte, not_true_eq_false, not_false_eq_true, ite_10, bt_0, bt_1]
          · have hw2 : wrg f b c k w = w + 1 := by unfold wrg; rw [hd]; exact if_neg q
            rw [hw2]
            simp (disch := omega) only [l1, e1, e2, k6, q314_40, nI_lit, nI_add, pk_mul, nI_clp, nI_eqv, nI_lev, nI_ltv, nI_neg, nI_neg', nI_subv, Nat.add_zero, Nat.zero_add, Nat.mul_zero, Nat.reduceAdd, bN_rv, bM_ru, bV_rv, bV_rx, bU_ru, bU_rx, bN_ite, bM_ite, bV_ite, bU_ite, ↓bx_e, ↓sp_e, gA_ok, gZ_n, gB_0, gB_1, gB_i, and_true, and_false, true_and, false_and, decide_true, decide_false, ↓reduceIte, not_true_eq_false, not_false_eq_true, Bool.false_eq_true, Bool.true_eq_false, Bool.and_true, Bool.and_false, Bool.true_and, Bool.false_and, Bool.or_true, Bool.or_false, Bool.true_or, Bool.false_or, Bool.not_true, Bool.not_false, le_f, le_t, lt_f, lt_t, eq_f, ↓reduceIte, not_true_eq_false, not_false_eq_true, ite_10, bt_0, bt_1]
        | false =>
          rw [hd, b2_f] at k6
          by_cases q : 0 = b (2 * k + 1)
          · have hw2 : wrg f b c k w = w := by unfold wrg; rw [hd]; exact if_pos q
            rw [hw2]
            rw [← q] at e2
            simp (disch := omega) only [l1, e1, e2, k6, q314_40, nI_lit, nI_add, pk_mul, nI_clp, nI_eqv, nI_lev, nI_ltv, nI_neg, nI_neg', nI_subv, Nat.add_zero, Nat.zero_add, Nat.mul_zero, Nat.reduceAdd, bN_rv, bM_ru, bV_rv, bV_rx, bU_ru, bU_rx, bN_ite, bM_ite, bV_ite, bU_ite, ↓bx_e, ↓sp_e, gA_ok, gZ_n, gB_0, gB_1, gB_i, and_true, and_false, true_and, false_and, decide_true, decide_false, ↓reduceIte, not_true_eq_false, not_false_eq_true, Bool.false_eq_true, Bool.true_eq_false, Bool.and_true, Bool.and_false, Bool.true_and, Bool.false_and, Bool.or_true, Bool.or_false, Bool.true_or, Bool.false_or, Bool.not_true, Bool.not_false, le_f, le_t, lt_f, lt_t, eq_f, ↓reduceIte, not_true_eq_false, not_false_eq_true, ite_10, bt_0, bt_1]
          · have hw2 : wrg f b c k w = w + 1 := by unfold wrg; rw [hd]; exact if_neg q
            rw [hw2]
            simp (disch := omega) only [l1, e1, e2, k6, q314_40, nI_lit, nI_add, pk_mul, nI_clp, nI_eqv, nI_lev, nI_ltv, nI_neg, nI_neg', nI_subv, Nat.add_zero, Nat.zero_add, Nat.mul_zero, Nat.reduceAdd, bN_rv, bM_ru, bV_rv, bV_rx, bU_ru, bU_rx, bN_ite, bM_ite, bV_ite, bU_ite, ↓bx_e, ↓sp_e, gA_ok, gZ_n, gB_0, gB_1, gB_i, and_true, and_false, true_and, false_and, decide_true, decide_false, ↓reduceIte, not_true_eq_false, not_false_eq_true, Bool.false_eq_true, Bool.true_eq_false, Bool.and_true, Bool.and_false, Bool.true_and, Bool.false_and, Bool.or_true, Bool.or_false, Bool.true_or, Bool.false_or, Bool.not_true, Bool.not_false, le_f, le_t, lt_f, lt_t, eq_f, ↓reduceIte, not_true_eq_false, not_false_eq_true, ite_10, bt_0, bt_1]
  unfold q314
  simp only [nI_lit]
  exact main (L / 2) 0 0 10000 (by omega) (by omega) (by omega)
end DO
/-- who fits, as bits -/
def fitW (w : Nat → Nat) (n m : Nat) : Int32 := fo (fun c x => x ||| (if decide (w c ≤ m) = true then shlI (nI 1) (nI c) else nI 0)) n 0 (nI 0)
theorem or_zz (x : Int32) : x ||| nI 0 = x := by
  apply b_ext
  intro i hi
  rw [b_or, bt_n0, Bool.or_false]
theorem p167 {s : mS} {n : Nat} {w : Nat → Nat} (hn : n ≤ 5) (y0 : s.1 27 0 = nI n) (hw : ∀ c, c < n → w c < 1000 ∧ q168 (nI c) s = rv (nI (w c)) s) : q167 s = rv (fitW w n 1) s := by
  have key := lp_fo (Q := fun k x i => q167_4 k x i s) (g := fun c x => x ||| (if decide (w c ≤ 1) = true then shlI (nI 1) (nI c) else nI 0)) (e := n) (out := fun x => rv x s) (fun k x => by
    show q167_4 (k + 1) x (nI n) s = _
    rw [q167_4]
    simp (disch := omega) only [y0, nI_lit, nI_add, pk_mul, nI_clp, nI_eqv, nI_lev, nI_ltv, nI_neg, nI_neg', nI_subv, Nat.add_zero, Nat.zero_add, Nat.mul_zero, Nat.reduceAdd, bN_rv, bM_ru, bV_rv, bV_rx, bU_ru, bU_rx, bN_ite, bM_ite, bV_ite, bU_ite, ↓bx_e, ↓sp_e, gA_ok, gZ_n, gB_0, gB_1, gB_i, and_true, and_false, true_and, false_and, decide_true, decide_false, ↓reduceIte, not_true_eq_false, not_false_eq_true, Bool.false_eq_true, Bool.true_eq_false, Bool.and_true, Bool.and_false, Bool.true_and, Bool.false_and, Bool.or_true, Bool.or_false, Bool.true_or, Bool.false_or, Bool.not_true, Bool.not_false, le_f, le_t, lt_f, lt_t, eq_f, ↓reduceIte, not_true_eq_false, not_false_eq_true, ite_10, bt_0, bt_1]) (fun k c x hc => by
    show q167_4 (k + 1) x (nI c) s = q167_4 k _ (nI (c + 1)) s
    obtain ⟨l1, k1⟩ := hw c hc
    rw [q167_4]
    by_cases q : w c ≤ 1
    · rw [decide_eq_true q, if_pos rfl]
      simp (disch := omega) only [y0, k1, q167_33, nI_lit, nI_add, pk_mul, nI_clp, nI_eqv, nI_lev, nI_ltv, nI_neg, nI_neg', nI_subv, Nat.add_zero, Nat.zero_add, Nat.mul_zero, Nat.reduceAdd, bN_rv, bM_ru, bV_rv, bV_rx, bU_ru, bU_rx, bN_ite, bM_ite, bV_ite, bU_ite, ↓bx_e, ↓sp_e, gA_ok, gZ_n, gB_0, gB_1, gB_i, and_true, and_false, true_and, false_and, decide_true, decide_false, ↓reduceIte, not_true_eq_false, not_false_eq_true, Bool.false_eq_true, Bool.true_eq_false, Bool.and_true, Bool.and_false, Bool.true_and, Bool.false_and, Bool.or_true, Bool.or_false, Bool.true_or, Bool.false_or, Bool.not_true, Bool.not_false, le_f, le_t, lt_f, lt_t, eq_f, ↓reduceIte, not_true_eq_false, not_false_eq_true, ite_10, bt_0, bt_1]
    · rw [decide_eq_false q, if_neg (show ¬ (false = true) by decide), or_zz]
      simp (disch := omega) only [y0, k1, q167_33, nI_lit, nI_add, pk_mul, nI_clp, nI_eqv, nI_lev, nI_ltv, nI_neg, nI_neg', nI_subv, Nat.add_zero, Nat.zero_add, Nat.mul_zero, Nat.reduceAdd, bN_rv, bM_ru, bV_rv, bV_rx, bU_ru, bU_rx, bN_ite, bM_ite, bV_ite, bU_ite, ↓bx_e, ↓sp_e, gA_ok, gZ_n, gB_0, gB_1, gB_i, and_true, and_false, true_and, false_and, decide_true, decide_false, ↓reduceIte, not_true_eq_false, not_false_eq_true, Bool.false_eq_true, Bool.true_eq_false, Bool.and_true, Bool.and_false, Bool.true_and, Bool.false_and, Bool.or_true, Bool.or_false, Bool.true_or, Bool.false_or, Bool.not_true, Bool.not_false, le_f, le_t, lt_f, lt_t, eq_f, ↓reduceIte, not_true_eq_false, not_false_eq_true, ite_10, bt_0, bt_1]) (nI 0) 10000 (by omega)
  unfold q167
  simp only [nI_lit]
  exact key
theorem m315 {t : mS} {n m : Nat} {w : Nat → Nat} (hn : n ≤ 5) (hm : m < 1000) (f0 : t.1 513 0 = nI n) (hw : ∀ c, c < n → w c < 1000 ∧ q314 (nI c) t = rv (nI (w c)) t) : q315 (nI m) t = rv (fitW w n m) t := by
  have key := lp_fo (Q := fun k x i => q315_4 k (nI m) x i t) (g := fun c x => x ||| (if decide (w c ≤ m) = true then shlI (nI 1) (nI c) else nI 0)) (e := n) (out := fun x => rv x t) (fun k x => by
    show q315_4 (k + 1) (nI m) x (nI n) t = _
    rw [q315_4]
    simp (disch := omega) only [f0, nI_lit, nI_add, pk_mul, nI_clp, nI_eqv, nI_lev, nI_ltv, nI_neg, nI_neg', nI_subv, Nat.add_zero, Nat.zero_add, Nat.mul_zero, Nat.reduceAdd, bN_rv, bM_ru, bV_rv, bV_rx, bU_ru, bU_rx, bN_ite, bM_ite, bV_ite, bU_ite, ↓bx_e, ↓sp_e, gA_ok, gZ_n, gB_0, gB_1, gB_i, and_true, and_false, true_and, false_and, decide_true, decide_false, ↓reduceIte, not_true_eq_false, not_false_eq_true, Bool.false_eq_true, Bool.true_eq_false, Bool.and_true, Bool.and_false, Bool.true_and, Bool.false_and, Bool.or_true, Bool.or_false, Bool.true_or, Bool.false_or, Bool.not_true, Bool.not_false, le_f, le_t, lt_f, lt_t, eq_f, ↓reduceIte, not_true_eq_false, not_false_eq_true, ite_10, bt_0, bt_1, q198, q199, q200, q201, q202, q203, q204, m190, m205, m206, b2_0, q189, q187]) (fun k c x hc => by
    show q315_4 (k + 1) (nI m) x (nI c) t = q315_4 k (nI m) _ (nI (c + 1)) t
    obtain ⟨l1, k1⟩ := hw c hc
    rw [q315_4]
    by_cases q : w c ≤ m
    · rw [decide_eq_true q, if_pos rfl]
      simp (disch := omega) only [f0, k1, q315_29, nI_lit, nI_add, pk_mul, nI_clp, nI_eqv, nI_lev, nI_ltv, nI_neg, nI_neg', nI_subv, Nat.add_zero, Nat.zero_add, Nat.mul_zero, Nat.reduceAdd, bN_rv, bM_ru, bV_rv, bV_rx, bU_ru, bU_rx, bN_ite, bM_ite, bV_ite, bU_ite, ↓bx_e, ↓sp_e, gA_ok, gZ_n, gB_0, gB_1, gB_i, and_true, and_false, true_and, false_and, decide_true, decide_false, ↓reduceIte, not_true_eq_false, not_false_eq_true, Bool.false_eq_true, Bool.true_eq_false, Bool.and_true, Bool.and_false, Bool.true_and, Bool.false_and, Bool.or_true, Bool.or_false, Bool.true_or, Bool.false_or, Bool.not_true, Bool.not_false, le_f, le_t, lt_f, lt_t, eq_f, ↓reduceIte, not_true_eq_false, not_false_eq_true, ite_10, bt_0, bt_1, q198, q199, q200, q201, q202, q203, q204, m190, m205, m206, b2_0, q189, q187]
    · rw [decide_eq_false q, if_neg (by decide)]
      simp (disch := omega) only [f0, k1, q315_29, nI_lit, nI_add, pk_mul, nI_clp, nI_eqv, nI_lev, nI_ltv, nI_neg, nI_neg', nI_subv, Nat.add_zero, Nat.zero_add, Nat.mul_zero, Nat.reduceAdd, bN_rv, bM_ru, bV_rv, bV_rx, bU_ru, bU_rx, bN_ite, bM_ite, bV_ite, bU_ite, ↓bx_e, ↓sp_e, gA_ok, gZ_n, gB_0, gB_1, gB_i, and_true, and_false, true_and, false_and, decide_true, decide_false, ↓reduceIte, not_true_eq_false, not_false_eq_true, Bool.false_eq_true, Bool.true_eq_false, Bool.and_true, Bool.and_false, Bool.true_and, Bool.false_and, Bool.or_true, Bool.or_false, Bool.true_or, Bool.false_or, Bool.not_true, Bool.not_false, le_f, le_t, lt_f, lt_t, eq_f, ↓reduceIte, not_true_eq_false, not_false_eq_true, ite_10, bt_0, bt_1, q198, q199, q200, q201, q202, q203, q204, m190, m205, m206, b2_0, q189, q187]) (nI 0) 10000 (by omega)
  unfold q315
  simp only [nI_lit]
  exact key
