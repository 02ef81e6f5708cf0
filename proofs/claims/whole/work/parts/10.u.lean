/-! SERIAL, BOTH -/
section LOOK
variable {B : Nat} {s : mS}
theorem p17 {f : Nat → Int32} {n : Nat} (hn : n ≤ 12) (y0 : s.1 44 0 = nI n) (hM : ∀ v, v < n → s.1 51 v = srM f n v) (v : Int32) : q17 44 v s = rv (srS f n v) s := by
  unfold q17 srS
  rw [nI_lit]
  have := lp_fs (Q := fun m i => q17_2 44 m v i s) (p := srP f n v) (e := n) (no := rv (-nI 1) s) (yes := fun j => rv (nI j) s) (fun m => by simp (disch := omega) only [q17_2, y0, nI_lit, nI_add, pk_mul, nI_clp, nI_eqv, nI_lev, nI_ltv, nI_neg, nI_neg', nI_subv, Nat.add_zero, Nat.zero_add, Nat.mul_zero, Nat.reduceAdd, bN_rv, bM_ru, bV_rv, bV_rx, bU_ru, bU_rx, bN_ite, bM_ite, bV_ite, bU_ite, ↓bx_e, ↓sp_e, gA_ok, gZ_n, gB_0, gB_1, gB_i, and_true, and_false, true_and, false_and, decide_true, decide_false, ↓reduceIte, not_true_eq_false, not_false_eq_true, Bool.false_eq_true, Bool.true_eq_false, Bool.and_true, Bool.and_false, Bool.true_and, Bool.false_and, Bool.or_true, Bool.or_false, Bool.true_or, Bool.false_or, Bool.not_true, Bool.not_false, le_f, le_t, lt_f, lt_t, eq_f, ↓reduceIte, not_true_eq_false, not_false_eq_true, ite_10, bt_0, bt_1]) (fun m i hi => by
    have hm := hM i hi
    unfold srP
    simp (disch := omega) only [q17_2, q17_31, y0, hm, nI_lit, nI_add, pk_mul, nI_clp, nI_eqv, nI_lev, nI_ltv, nI_neg, nI_neg', nI_subv, Nat.add_zero, Nat.zero_add, Nat.mul_zero, Nat.reduceAdd, bN_rv, bM_ru, bV_rv, bV_rx, bU_ru, bU_rx, bN_ite, bM_ite, bV_ite, bU_ite, ↓bx_e, ↓sp_e, gA_ok, gZ_n, gB_0, gB_1, gB_i, and_true, and_false, true_and, false_and, decide_true, decide_false, ↓reduceIte, not_true_eq_false, not_false_eq_true, Bool.false_eq_true, Bool.true_eq_false, Bool.and_true, Bool.and_false, Bool.true_and, Bool.false_and, Bool.or_true, Bool.or_false, Bool.true_or, Bool.false_or, Bool.not_true, Bool.not_false, le_f, le_t, lt_f, lt_t, eq_f, ↓reduceIte, not_true_eq_false, not_false_eq_true, ite_10, bt_0, bt_1]
    cases bt v i
    · simp only [and_true, and_false, true_and, false_and, decide_true, decide_false, ↓reduceIte, not_true_eq_false, not_false_eq_true, Bool.false_eq_true, Bool.true_eq_false, Bool.and_true, Bool.and_false, Bool.true_and, Bool.false_and, Bool.or_true, Bool.or_false, Bool.true_or, Bool.false_or, Bool.not_true, Bool.not_false]
    · by_cases q : srM f n i &&& v = nI 0 <;> simp only [q, and_true, and_false, true_and, false_and, decide_true, decide_false, ↓reduceIte, not_true_eq_false, not_false_eq_true, Bool.false_eq_true, Bool.true_eq_false, Bool.and_true, Bool.and_false, Bool.true_and, Bool.false_and, Bool.or_true, Bool.or_false, Bool.true_or, Bool.false_or, Bool.not_true, Bool.not_false]) n 0 10000 (by omega) (by omega)
  refine this.trans ?_
  cases fs (srP f n v) n 0 <;> rfl
theorem p16_29 {f : Nat → Int32} {n : Nat} (hn : n ≤ 12) (y0 : s.1 44 0 = nI n) (hM : ∀ v, v < n → s.1 51 v = srM f n v) {r : Nat} (hr : r < 12) : ∀ m i k v, i + m = r → m < k → q16_29 44 k (nI r) v (nI i) s = rv (srL f n m v) s := by
  have k17 := fun v => p17 (s := s) hn y0 hM v
  intro m
  induction m with
  | zero =>
    intro i k v hi hk
    cases k with
    | zero => omega
    | succ k =>
      have : i = r := by omega
      subst this
      rw [srL]
      simp (disch := omega) only [q16_29, k17, nI_lit, nI_add, pk_mul, nI_clp, nI_eqv, nI_lev, nI_ltv, nI_neg, nI_neg', nI_subv, Nat.add_zero, Nat.zero_add, Nat.mul_zero, Nat.reduceAdd, bN_rv, bM_ru, bV_rv, bV_rx, bU_ru, bU_rx, bN_ite, bM_ite, bV_ite, bU_ite, ↓bx_e, ↓sp_e, gA_ok, gZ_n, gB_0, gB_1, gB_i, and_true, and_false, true_and, false_and, decide_true, decide_false, ↓reduceIte, not_true_eq_false, not_false_eq_true, Bool.false_eq_true, Bool.true_eq_false, Bool.and_true, Bool.and_false, Bool.true_and, Bool.false_and, Bool.or_true, Bool.or_false, Bool.true_or, Bool.false_or, Bool.not_true, Bool.not_false, le_f, le_t, lt_f, lt_t, eq_f, ↓reduceIte, not_true_eq_false, not_false_eq_true, ite_10, bt_0, bt_1]
      by_cases q : srS f n v = -nI 1 <;> simp only [q, ↓reduceIte]
  | succ m ih =>
    intro i k v hi hk
    cases k with
    | zero => omega
    | succ k =>
      rw [srL]
      simp (disch := omega) only [q16_29, k17, nI_lit, nI_add, pk_mul, nI_clp, nI_eqv, nI_lev, nI_ltv, nI_neg, nI_neg', nI_subv, Nat.add_zero, Nat.zero_add, Nat.mul_zero, Nat.reduceAdd, bN_rv, bM_ru, bV_rv, bV_rx, bU_ru, bU_rx, bN_ite, bM_ite, bV_ite, bU_ite, ↓bx_e, ↓sp_e, gA_ok, gZ_n, gB_0, gB_1, gB_i, and_true, and_false, true_and, false_and, decide_true, decide_false, ↓reduceIte, not_true_eq_false, not_false_eq_true, Bool.false_eq_true, Bool.true_eq_false, Bool.and_true, Bool.and_false, Bool.true_and, Bool.false_and, Bool.or_true, Bool.or_false, Bool.true_or, Bool.false_or, Bool.not_true, Bool.not_false, le_f, le_t, lt_f, lt_t, eq_f, ↓reduceIte, not_true_eq_false, not_false_eq_true, ite_10, bt_0, bt_1]
      by_cases q : srS f n v = -nI 1
      · simp only [q, ↓reduceIte]
      · simp only [q, ↓reduceIte]
        exact ih (i + 1) k _ (by omega) (by omega)
theorem p16 {f : Nat → Int32} {n o : Nat} (hn : n ≤ 12) (ho : o < 12) (y0 : s.1 44 0 = nI n) (y1 : s.1 44 1 = nI o)
    (hq : ∀ r, r < n → s.1 (44 + 1) ((o + r) % 12) = f (242 + 24 * r) ∧ s.1 (44 + 2) ((o + r) % 12) = f (242 + 24 * r + 1) ∧ s.1 (44 + 3) ((o + r) % 12) = f (242 + 24 * r + 2) ∧ s.1 (44 + 4) ((o + r) % 12) = f (242 + 24 * r + 3) ∧ ∀ k, k < 10 → s.1 (44 + 5) (10 * ((o + r) % 12) + k) = f (242 + 24 * r + 4 + k) ∧ s.1 (44 + 6) (10 * ((o + r) % 12) + k) = f (242 + 24 * r + 14 + k)) {r : Nat} (hr : r < n) :
    ∃ s', q16 44 (nI r) s = rv (srL f n r (shlI (nI 1) (nI n) - nI 1)) s' ∧ F1 51 s s' := by
  obtain ⟨s', j1, j2, j3⟩ := p18 hn ho y0 y1 hq
  have y0' : s'.1 44 0 = nI n := by rw [j2.1 44 (by omega)]; exact y0
  refine ⟨s', ?_, j2⟩
  rw [← p16_29 (s := s') hn y0' j3 (r := r) (by omega) r 0 10000 _ (by omega) (by omega)]
  unfold q16
  simp (disch := omega) only [y0, j1, y0', nI_lit, nI_ltv, lt_f, lt_t, ↓reduceIte, bM_ru, bx_e, and_true, and_false, true_and, false_and, decide_true, decide_false, ↓reduceIte, not_true_eq_false, not_false_eq_true, Bool.false_eq_true, Bool.true_eq_false, Bool.and_true, Bool.and_false, Bool.true_and, Bool.false_and, Bool.or_true, Bool.or_false, Bool.true_or, Bool.false_or, Bool.not_true, Bool.not_false]
theorem srP_e {f : Nat → Int32} {n : Nat} (hn : n ≤ 12) {v : Int32} {i : Nat} : srP f n v i = (bt v i && al (fun j => !(bt v j && (!(decide (j = i)) && prA f j i))) n 0) := by
  unfold srP
  congr 1
  rw [Bool.eq_iff_iff, al_iff, decide_eq_true_iff]
  constructor
  · intro h j _ hj
    have := congrArg (fun x => bt x j) h
    simp only [b_and, bt_srM hn, bt_n0, decide_eq_true (show j < n by omega), Bool.true_and] at this
    cases hb : bt v j
    · rfl
    · rw [hb, Bool.and_true] at this; rw [this]; rfl
  · intro h
    refine b_ext fun j hj => ?_
    rw [b_and, bt_srM hn, bt_n0]
    by_cases hjn : j < n
    · have := h j (by omega) (by omega)
      rw [decide_eq_true hjn, Bool.true_and]
      cases hb : bt v j
      · rw [Bool.and_false]
      · rw [hb, Bool.true_and] at this
        rw [Bool.and_true]
        cases hp : (!(decide (j = i)) && prA f j i)
        · rfl
        · rw [hp] at this; cases this
    · rw [decide_eq_false hjn]; rfl
theorem m299 {t : mS} (hH : IH (t.1 513)) {n : Nat} (hn : n ≤ 12) (f7 : t.1 513 7 = nI n) {v : Int32} (hv : ∀ j, n ≤ j → bt v j = false) : q299 v t = rv (srS (t.1 513) n v) t := by
  have inner : ∀ K b2' i bb, i < 12 → q299_19 K 10000 v b2' (nI i) (b2 bb) (nI 0) t = K v b2' (nI i) (b2 (bb && al (fun j => !(bt v j && (!(decide (j = i)) && prA (t.1 513) j i))) n 0)) t := fun K b2' i bb hi => by
    have : ∀ m j k bb, j + m = n → m < k → q299_19 K k v b2' (nI i) (b2 bb) (nI j) t = K v b2' (nI i) (b2 (bb && al (fun j => !(bt v j && (!(decide (j = i)) && prA (t.1 513) j i))) m j)) t := by
      intro m
      induction m with
      | zero =>
        intro j k bb hj hk
        cases k with
        | zero => omega
        | succ k =>
          have : j = n := by omega
          subst this
          rw [al, Bool.and_true]
          simp (disch := omega) only [q299_19, f7, nI_lit, nI_add, pk_mul, nI_clp, nI_eqv, nI_lev, nI_ltv, nI_neg, nI_neg', nI_subv, Nat.add_zero, Nat.zero_add, Nat.mul_zero, Nat.reduceAdd, bN_rv, bM_ru, bV_rv, bV_rx, bU_ru, bU_rx, bN_ite, bM_ite, bV_ite, bU_ite, ↓bx_e, ↓sp_e, gA_ok, gZ_n, gB_0, gB_1, gB_i, and_true, and_false, true_and, false_and, decide_true, decide_false, ↓reduceIte, not_true_eq_false, not_false_eq_true, Bool.false_eq_true, Bool.true_eq_false, Bool.and_true, Bool.and_false, Bool.true_and, Bool.false_and, Bool.or_true, Bool.or_false, Bool.true_or, Bool.false_or, Bool.not_true, Bool.not_false, le_f, le_t, lt_f, lt_t, eq_f, ↓reduceIte, not_true_eq_false, not_false_eq_true, ite_10, bt_0, bt_1]
      | succ m ih =>
        intro j k bb hj hk
        cases k with
        | zero => omega
        | succ k =>
          cases bb
          · rw [Bool.false_and]
            simp (disch := omega) only [q299_19, f7, b2_f, nI_lit, nI_add, pk_mul, nI_clp, nI_eqv, nI_lev, nI_ltv, nI_neg, nI_neg', nI_subv, Nat.add_zero, Nat.zero_add, Nat.mul_zero, Nat.reduceAdd, bN_rv, bM_ru, bV_rv, bV_rx, bU_ru, bU_rx, bN_ite, bM_ite, bV_ite, bU_ite, ↓bx_e, ↓sp_e, gA_ok, gZ_n, gB_0, gB_1, gB_i, and_true, and_false, true_and, false_and, decide_true, decide_false, ↓reduceIte, not_true_eq_false, not_false_eq_true, Bool.false_eq_true, Bool.true_eq_false, Bool.and_true, Bool.and_false, Bool.true_and, Bool.false_and, Bool.or_true, Bool.or_false, Bool.true_or, Bool.false_or, Bool.not_true, Bool.not_false, le_f, le_t, lt_f, lt_t, eq_f, ↓reduceIte, not_true_eq_false, not_false_eq_true, ite_10, bt_0, bt_1]
          · rw [al, Bool.true_and]
            have m2 := m298 hH (r1 := j) (r2 := i) (by omega) hi
            cases hb : bt v j
            · have := ih (j + 1) k true (by omega) (by omega)
              rw [Bool.true_and] at this
              simp only [Bool.false_and, Bool.not_false, Bool.true_and]
              rw [← this]
              simp (disch := omega) only [q299_19, q299_55, q299_60, f7, m190, hb, b2_t, b2_f, one_ne, nI_lit, nI_add, pk_mul, nI_clp, nI_eqv, nI_lev, nI_ltv, nI_neg, nI_neg', nI_subv, Nat.add_zero, Nat.zero_add, Nat.mul_zero, Nat.reduceAdd, bN_rv, bM_ru, bV_rv, bV_rx, bU_ru, bU_rx, bN_ite, bM_ite, bV_ite, bU_ite, ↓bx_e, ↓sp_e, gA_ok, gZ_n, gB_0, gB_1, gB_i, and_true, and_false, true_and, false_and, decide_true, decide_false, ↓reduceIte, not_true_eq_false, not_false_eq_true, Bool.false_eq_true, Bool.true_eq_false, Bool.and_true, Bool.and_false, Bool.true_and, Bool.false_and, Bool.or_true, Bool.or_false, Bool.true_or, Bool.false_or, Bool.not_true, Bool.not_false, le_f, le_t, lt_f, lt_t, eq_f, ↓reduceIte, not_true_eq_false, not_false_eq_true, ite_10, bt_0, bt_1]
            · cases hp : (!(decide (j = i)) && prA (t.1 513) j i)
              · have := ih (j + 1) k true (by omega) (by omega)
                rw [Bool.true_and] at this
                simp only [Bool.true_and, Bool.not_false]
                rw [← this]
                simp (disch := omega) only [q299_19, q299_55, q299_60, f7, m190, m2, hb, hp, b2_t, b2_f, one_ne, nI_lit, nI_add, pk_mul, nI_clp, nI_eqv, nI_lev, nI_ltv, nI_neg, nI_neg', nI_subv, Nat.add_zero, Nat.zero_add, Nat.mul_zero, Nat.reduceAdd, bN_rv, bM_ru, bV_rv, bV_rx, bU_ru, bU_rx, bN_ite, bM_ite, bV_ite, bU_ite, ↓bx_e, ↓sp_e, gA_ok, gZ_n, gB_0, gB_1, gB_i, and_true, and_false, true_and, false_and, decide_true, decide_false, ↓reduceIte, not_true_eq_false, not_false_eq_true, Bool.false_eq_true, Bool.true_eq_false, Bool.and_true, Bool.and_false, Bool.true_and, Bool.false_and, Bool.or_true, Bool.or_false, Bool.true_or, Bool.false_or, Bool.not_true, Bool.not_false, le_f, le_t, lt_f, lt_t, eq_f, ↓reduceIte, not_true_eq_false, not_false_eq_true, ite_10, bt_0, bt_1]
              · have := ih (j + 1) k false (by omega) (by omega)
                rw [Bool.false_and] at this
                simp only [Bool.true_and, Bool.not_true, Bool.false_and]
                rw [← this]
                simp (disch := omega) only [q299_19, q299_55, q299_60, f7, m190, m2, hb, hp, b2_t, b2_f, one_ne, nI_lit, nI_add, pk_mul, nI_clp, nI_eqv, nI_lev, nI_ltv, nI_neg, nI_neg', nI_subv, Nat.add_zero, Nat.zero_add, Nat.mul_zero, Nat.reduceAdd, bN_rv, bM_ru, bV_rv, bV_rx, bU_ru, bU_rx, bN_ite, bM_ite, bV_ite, bU_ite, ↓bx_e, ↓sp_e, gA_ok, gZ_n, gB_0, gB_1, gB_i, and_true, and_false, true_and, false_and, decide_true, decide_false, ↓reduceIte, not_true_eq_false, not_false_eq_true, Bool.false_eq_true, Bool.true_eq_false, Bool.and_true, Bool.and_false, Bool.true_and, Bool.false_and, Bool.or_true, Bool.or_false, Bool.true_or, Bool.false_or, Bool.not_true, Bool.not_false, le_f, le_t, lt_f, lt_t, eq_f, ↓reduceIte, not_true_eq_false, not_false_eq_true, ite_10, bt_0, bt_1]
    exact this n 0 10000 bb (by omega) (by omega)
  have step : ∀ k i b, i < 12 → q299_5 (k + 1) v b (nI i) t = q299_5 k v (if srP (t.1 513) n v i = true then nI i else b) (nI i + -nI 1) t := fun k i b hi => by
    rw [q299_5, srP_e hn]
    have hneg : ¬ nI i < nI 0 := nI_pos (by omega)
    simp only [nI_lit, hneg, ↓reduceIte]
    rw [m190 (by omega), bN_rv, inner _ _ i (bt v i) hi]
    unfold q299_68 q299_78
    simp only [nI_lit, b2_0, bx_e]
    cases (bt v i && al (fun j => !(bt v j && (!(decide (j = i)) && prA (t.1 513) j i))) n 0) <;> simp only [and_true, and_false, true_and, false_and, decide_true, decide_false, ↓reduceIte, not_true_eq_false, not_false_eq_true, Bool.false_eq_true, Bool.true_eq_false, Bool.and_true, Bool.and_false, Bool.true_and, Bool.false_and, Bool.or_true, Bool.or_false, Bool.true_or, Bool.false_or, Bool.not_true, Bool.not_false]
  unfold q299 srS
  rw [nI_lit, nI_lit]
  have := lp_fd (Q := fun k b i => q299_5 k v b i t) (g := fun i b => if srP (t.1 513) n v i = true then nI i else b) (e := 12) (out := fun b => rv b t) (fun k b => by
      have hneg : -nI 1 < nI 0 := by decide
      rw [q299_5]; simp only [nI_lit, hneg, ↓reduceIte]) (fun k b => by
      refine (step k 0 b (by omega)).trans ?_
      rw [show nI 0 + -nI 1 = -nI 1 by decide]) (fun k i b hi => by
      refine (step k (i + 1) b (by omega)).trans ?_
      rw [nI_dec]) 11 (-nI 1) 10000 (by omega) (by omega)
  refine this.trans ?_
  rw [fd_fs]
  have e12 : fs (srP (t.1 513) n v) 12 0 = fs (srP (t.1 513) n v) n 0 := by
    have := fs_ext (p := srP (t.1 513) n v) n 0 (12 - n) (fun j h1 h2 => by unfold srP; rw [hv j (by omega)]; rfl)
    rw [show n + (12 - n) = 12 by omega] at this
    exact this
  rw [e12]
  cases fs (srP (t.1 513) n v) n 0 <;> rfl
theorem bmask : ∀ n, n ≤ 12 → ∀ j, j < 32 → n ≤ j → bt (shlI (nI 1) (nI n) - nI 1) j = false := by decide +kernel
theorem m300_45 {t : mS} (hH : IH (t.1 513)) {n : Nat} (hn : n ≤ 12) (f7 : t.1 513 7 = nI n) {r : Nat} (hr : r < 12) : ∀ m i k v, i + m = r → m < k → (∀ j, n ≤ j → bt v j = false) → q300_45 k (nI r) v (srS (t.1 513) n v) (nI i) t = rv (srL (t.1 513) n m v) t := by
  intro m
  induction m with
  | zero =>
    intro i k v hi hk hv
    cases k with
    | zero => omega
    | succ k =>
      have : i = r := by omega
      subst this
      rw [srL]
      simp (disch := omega) only [q300_45, nI_lit, nI_add, pk_mul, nI_clp, nI_eqv, nI_lev, nI_ltv, nI_neg, nI_neg', nI_subv, Nat.add_zero, Nat.zero_add, Nat.mul_zero, Nat.reduceAdd, bN_rv, bM_ru, bV_rv, bV_rx, bU_ru, bU_rx, bN_ite, bM_ite, bV_ite, bU_ite, ↓bx_e, ↓sp_e, gA_ok, gZ_n, gB_0, gB_1, gB_i, and_true, and_false, true_and, false_and, decide_true, decide_false, ↓reduceIte, not_true_eq_false, not_false_eq_true, Bool.false_eq_true, Bool.true_eq_false, Bool.and_true, Bool.and_false, Bool.true_and, Bool.false_and, Bool.or_true, Bool.or_false, Bool.true_or, Bool.false_or, Bool.not_true, Bool.not_false, le_f, le_t, lt_f, lt_t, eq_f, ↓reduceIte, not_true_eq_false, not_false_eq_true, ite_10, bt_0, bt_1]
  | succ m ih =>
    intro i k v hi hk hv
    cases k with
    | zero => omega
    | succ k =>
      rw [srL]
      by_cases q : srS (t.1 513) n v = -nI 1
      · simp (disch := omega) only [q300_45, q, nI_lit, nI_add, pk_mul, nI_clp, nI_eqv, nI_lev, nI_ltv, nI_neg, nI_neg', nI_subv, Nat.add_zero, Nat.zero_add, Nat.mul_zero, Nat.reduceAdd, bN_rv, bM_ru, bV_rv, bV_rx, bU_ru, bU_rx, bN_ite, bM_ite, bV_ite, bU_ite, ↓bx_e, ↓sp_e, gA_ok, gZ_n, gB_0, gB_1, gB_i, and_true, and_false, true_and, false_and, decide_true, decide_false, ↓reduceIte, not_true_eq_false, not_false_eq_true, Bool.false_eq_true, Bool.true_eq_false, Bool.and_true, Bool.and_false, Bool.true_and, Bool.false_and, Bool.or_true, Bool.or_false, Bool.true_or, Bool.false_or, Bool.not_true, Bool.not_false, le_f, le_t, lt_f, lt_t, eq_f, ↓reduceIte, not_true_eq_false, not_false_eq_true, ite_10, bt_0, bt_1]
      · have hv' : ∀ j, n ≤ j → bt (v &&& (shlI (nI 1) (srS (t.1 513) n v) ^^^ -nI 1)) j = false := fun j hj => by rw [b_and, hv j hj, Bool.false_and]
        rw [if_neg q, ← ih (i + 1) k _ (by omega) (by omega) hv']
        have m9 := m299 hH hn f7 hv'
        simp (disch := omega) only [q300_45, q, m9, nI_lit, nI_add, pk_mul, nI_clp, nI_eqv, nI_lev, nI_ltv, nI_neg, nI_neg', nI_subv, Nat.add_zero, Nat.zero_add, Nat.mul_zero, Nat.reduceAdd, bN_rv, bM_ru, bV_rv, bV_rx, bU_ru, bU_rx, bN_ite, bM_ite, bV_ite, bU_ite, ↓bx_e, ↓sp_e, gA_ok, gZ_n, gB_0, gB_1, gB_i, and_true, and_false, true_and, false_and, decide_true, decide_false, ↓reduceIte, not_true_eq_false, not_false_eq_true, Bool.false_eq_true, Bool.true_eq_false, Bool.and_true, Bool.and_false, Bool.true_and, Bool.false_and, Bool.or_true, Bool.or_false, Bool.true_or, Bool.false_or, Bool.not_true, Bool.not_false, le_f, le_t, lt_f, lt_t, eq_f, ↓reduceIte, not_true_eq_false, not_false_eq_true, ite_10, bt_0, bt_1]
theorem z_serial (hG : G B s) (v1 : Int32) : ZN B (q151 v1) (q300 v1) s := by
  have hG0 := hG
  obtain ⟨⟨hR, hL, T, hT, hA⟩, -, -, -, -, ⟨-, hH⟩, -⟩ := hG0
  obtain ⟨n, o, hn, ho, f7, y0, y1, hq⟩ := hR.2.2.2.2.1
  have hm : ∀ t : mS, t.1 513 = s.1 513 → q300 v1 t = bN (q189 v1 (nI 0) (nI n - nI 1) (sI t 512 0 (nI 0))) fun x7 s6 => if ¬ x7 = nI 0 then (gA 2468 (nI 7) <| bx ((shlI (nI 1) (s6.1 513 (nI 7).toNatClampNeg)) - nI 1) fun x8 => bN (q299 x8 s6) fun x10 s9 => q300_45 10000 v1 x8 x10 (nI 0) s9) else (rv (-nI 1) s6) := fun t ht => by
    unfold q300
    have f7' : (sI t 512 0 (nI 0)).1 513 7 = nI n := by rw [t0_513, ht]; exact f7
    have e7 : (nI 7).toNatClampNeg = 7 := nI_clp (by omega)
    simp (disch := omega) only [nI_lit, sp_e, gA_ok, e7, f7']
  have out : (v1 < nI 0 ∨ nI n ≤ v1) → ZN B (q151 v1) (q300 v1) s := fun h => by
    refine ZN_0 (v := -nI 1) hG ?_ (fun t ht => ?_)
    · unfold q151 q16
      simp only [Nat.reduceAdd] at y0
      simp only [nI_lit, Nat.reduceAdd, y0]
      by_cases h0 : v1 < nI 0
      · simp only [h0, ↓reduceIte, bN_rv]
      · have h1 : ¬ v1 < nI n := Int32.not_lt.mpr (h.resolve_left h0)
        simp only [h0, h1, ↓reduceIte, bN_rv]
    · rw [hm t (by rw [ht]), in_mf (by omega) h, bN_rv, if_neg (not_not_intro rfl)]
  rcases ix_of v1 n (by omega) with h | h | ⟨r, hr, e⟩
  · exact out (Or.inl h)
  · exact out (Or.inr h)
  · subst e
    obtain ⟨s1, j1, j2⟩ := p16 (s := s) hn ho y0 y1 hq hr
    refine ZN_look (v := srL (s.1 513) n r (shlI (nI 1) (nI n) - nI 1)) (s1 := s1) hG ?_ j2.2 ?_ (fun t ht => ⟨sI t 512 0 (nI 0), ?_, Eq.trans rfl rfl, Gq_0⟩)
    · unfold q151
      simp only [Nat.reduceAdd]
      rw [j1, bN_rv]
    · exact ⟨fun b _ _ h51 _ _ _ _ _ _ _ => j2.1 b h51, fun j _ => by rw [j2.1 512 (by omega)]⟩
    · have e5 : t.1 513 = s.1 513 := by rw [ht, j2.1 513 (by omega)]
      have e5' : (sI t 512 0 (nI 0)).1 513 = s.1 513 := by rw [t0_513]; exact e5
      rw [hm t e5, in_mt hr (by omega), bN_rv, if_pos (by decide)]
      generalize sI t 512 0 (nI 0) = u at *
      have e7 : (nI 7).toNatClampNeg = 7 := nI_clp (by omega)
      have f7' : u.1 513 7 = nI n := by rw [e5']; exact f7
      have hv : ∀ j, n ≤ j → bt (shlI (nI 1) (nI n) - nI 1) j = false := fun j hj => by
        rcases Nat.lt_or_ge j 32 with q | q
        · exact bmask n hn j q hj
        · exact b_big q
      have m9 := m299 (t := u) (by rw [e5']; exact hH) hn f7' hv
      have ml := m300_45 (t := u) (by rw [e5']; exact hH) hn f7' (r := r) (by omega) r 0 10000 _ (by omega) (by omega) hv
      rw [e5'] at m9 ml
      simp (disch := omega) only [gA_ok, e7, f7', bx_e, m9, bN_rv]
      exact ml
end LOOK
