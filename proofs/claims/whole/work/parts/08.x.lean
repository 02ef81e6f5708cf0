/-! TIDY, IN THE CLASS -/
theorem RK_0 {s : mS} {a : Nat} {f : Nat → Int32} (h : RK s a f) {k : Nat} (hk : k < 10) (v : Int32) : RK (sI s (a + 28) k v) a (upd f (9 + 4 * k) v) := by
  intro l hl
  obtain ⟨h0, h1, h2, h3⟩ := h l hl
  refine ⟨?_, ?_, ?_, ?_⟩
  · by_cases e : l = k
    · subst e; rw [sI_sm, ud_e rfl, ud_e rfl]
    · rw [sI_sm, ud_n e, ud_n (by omega)]; exact h0
  · rw [sI_fn (by omega), ud_n (by omega)]; exact h1
  · rw [sI_fn (by omega), ud_n (by omega)]; exact h2
  · rw [sI_fn (by omega), ud_n (by omega)]; exact h3
theorem RK_1 {s : mS} {a : Nat} {f : Nat → Int32} (h : RK s a f) {k : Nat} (hk : k < 10) (v : Int32) : RK (sI s (a + 29) k v) a (upd f (9 + 4 * k + 1) v) := by
  intro l hl
  obtain ⟨h0, h1, h2, h3⟩ := h l hl
  refine ⟨?_, ?_, ?_, ?_⟩
  · rw [sI_fn (by omega), ud_n (by omega)]; exact h0
  · by_cases e : l = k
    · subst e; rw [sI_sm, ud_e rfl, ud_e rfl]
    · rw [sI_sm, ud_n e, ud_n (by omega)]; exact h1
  · rw [sI_fn (by omega), ud_n (by omega)]; exact h2
  · rw [sI_fn (by omega), ud_n (by omega)]; exact h3
theorem RK_2 {s : mS} {a : Nat} {f : Nat → Int32} (h : RK s a f) {k : Nat} (hk : k < 10) (v : Int32) : RK (sI s (a + 30) k v) a (upd f (9 + 4 * k + 2) v) := by
  intro l hl
  obtain ⟨h0, h1, h2, h3⟩ := h l hl
  refine ⟨?_, ?_, ?_, ?_⟩
  · rw [sI_fn (by omega), ud_n (by omega)]; exact h0
  · rw [sI_fn (by omega), ud_n (by omega)]; exact h1
  · by_cases e : l = k
    · subst e; rw [sI_sm, ud_e rfl, ud_e rfl]
    · rw [sI_sm, ud_n e, ud_n (by omega)]; exact h2
  · rw [sI_fn (by omega), ud_n (by omega)]; exact h3
theorem RK_3 {s : mS} {a : Nat} {f : Nat → Int32} (h : RK s a f) {k : Nat} (hk : k < 10) (v : Int32) : RK (sI s (a + 31) k v) a (upd f (9 + 4 * k + 3) v) := by
  intro l hl
  obtain ⟨h0, h1, h2, h3⟩ := h l hl
  refine ⟨?_, ?_, ?_, ?_⟩
  · rw [sI_fn (by omega), ud_n (by omega)]; exact h0
  · rw [sI_fn (by omega), ud_n (by omega)]; exact h1
  · rw [sI_fn (by omega), ud_n (by omega)]; exact h2
  · by_cases e : l = k
    · subst e; rw [sI_sm, ud_e rfl, ud_e rfl]
    · rw [sI_sm, ud_n e, ud_n (by omega)]; exact h3
theorem p126_38 {s : mS} {a T : Nat} {f : Nat → Int32} (h : RW s a f) (hm : IM T f) {j : Nat} (hj : j < 8) (hu : sU f j = true) {e x : Int32} (hy : Bool) (hy2 : hy = !(decide (x ≤ nI 0) || decide (e ≤ x))) : ∃ s', q126_38 a 10000 (nI j) e x (b2 hy) (nI 0) s = ru s' ∧ RK s' a (mSm f e x j) ∧ (∀ c, c < a + 29 ∨ a + 32 ≤ c → s'.1 c = s.1 c) ∧ s'.2 = s.2 := by
  unfold mSm
  have H := lp_sim (Q := fun n b k => q126_38 a n (nI j) e x (b2 hy) k b) (e := 10) (out := fun b => ru b) (J := fun _ b g => RK b a g ∧ (∀ c, c < a + 29 ∨ a + 32 ≤ c → b.1 c = s.1 c) ∧ b.2 = s.2 ∧ (∀ l, l < 9 ∨ 49 ≤ l ∨ (l - 9) % 4 = 0 → g l = f l))
    (g := fun k g => mS2 e x j k (mS1 e j k g)) (fun n b g _ => ?_) (fun n k b g hk hJ => ?_) 10 0 s f 10000 (by omega) ⟨h.2.2.1, fun _ _ => rfl, rfl, fun _ _ => rfl⟩ (by omega)
  · obtain ⟨s', h1, h2, h3, h4, -⟩ := H
    exact ⟨s', h1, h2, h3, h4⟩
  · simp (disch := omega) only [q126_38, nI_lit, nI_add, pk_mul, nI_clp, nI_eqv, nI_lev, nI_ltv, nI_neg, nI_neg', nI_subv, Nat.add_zero, Nat.zero_add, Nat.mul_zero, Nat.reduceAdd, bN_rv, bM_ru, bV_rv, bV_rx, bU_ru, bU_rx, bN_ite, bM_ite, bV_ite, bU_ite, ↓bx_e, ↓sp_e, gA_ok, gZ_n, gB_0, gB_1, gB_i, and_true, and_false, true_and, false_and, decide_true, decide_false, ↓reduceIte, not_true_eq_false, not_false_eq_true, Bool.false_eq_true, Bool.true_eq_false, Bool.and_true, Bool.and_false, Bool.true_and, Bool.false_and, Bool.or_true, Bool.or_false, Bool.true_or, Bool.false_or, Bool.not_true, Bool.not_false, le_f, le_t, lt_f, lt_t, eq_f, ↓reduceIte, not_true_eq_false, not_false_eq_true, ite_10, bt_0, bt_1]
  · obtain ⟨hK, hc, h2, hg⟩ := hJ
    have r5 : ∀ b : mS, (∀ c, c < a + 29 ∨ a + 32 ≤ c → b.1 c = s.1 c) → b.1 (a + 6 + 5) j = f (74 + 21 * j + 5) := fun b q => by rw [q _ (by omega)]; exact h.1.2.2.2.2.2.2.2.2.1 j hj hu
    have r6 : ∀ b : mS, (∀ c, c < a + 29 ∨ a + 32 ≤ c → b.1 c = s.1 c) → b.1 (a + 6 + 6) j = f (74 + 21 * j + 6) := fun b q => by rw [q _ (by omega)]; exact h.1.2.2.2.2.2.2.2.2.2.1 j hj hu
    have k80 : ∀ b g, RK b a g → (∀ c, c < a + 29 ∨ a + 32 ≤ c → b.1 c = s.1 c) → b.2 = s.2 → (∀ l, l < 9 ∨ 49 ≤ l ∨ (l - 9) % 4 = 0 → g l = f l) → ∃ b', q126_80 (q126_38 a n) a (nI j) e x (b2 hy) (nI k) b = q126_38 a n (nI j) e x (b2 hy) (nI (k + 1)) b' ∧ RK b' a (mS2 e x j k g) ∧ (∀ c, c < a + 29 ∨ a + 32 ≤ c → b'.1 c = s.1 c) ∧ b'.2 = s.2 ∧ (∀ l, l < 9 ∨ 49 ≤ l ∨ (l - 9) % 4 = 0 → mS2 e x j k g l = f l) := by
      intro b g hK hc h2 hg
      have hg2 : ∀ l, l < 9 ∨ 49 ≤ l ∨ (l - 9) % 4 = 0 → mS2 e x j k g l = f l := fun l hl => by rw [mS2_n (by omega) (by omega)]; exact hg l hl
      have e6 := r6 b hc
      cases eb : bt (f (74 + 21 * j + 6)) k with
      | false =>
        refine ⟨b, ?_, ?_, hc, h2, hg2⟩
        · simp (disch := omega) only [q126_80, q126_149, e6, eb, nI_lit, nI_add, pk_mul, nI_clp, nI_eqv, nI_lev, nI_ltv, nI_neg, nI_neg', nI_subv, Nat.add_zero, Nat.zero_add, Nat.mul_zero, Nat.reduceAdd, bN_rv, bM_ru, bV_rv, bV_rx, bU_ru, bU_rx, bN_ite, bM_ite, bV_ite, bU_ite, ↓bx_e, ↓sp_e, gA_ok, gZ_n, gB_0, gB_1, gB_i, and_true, and_false, true_and, false_and, decide_true, decide_false, ↓reduceIte, not_true_eq_false, not_false_eq_true, Bool.false_eq_true, Bool.true_eq_false, Bool.and_true, Bool.and_false, Bool.true_and, Bool.false_and, Bool.or_true, Bool.or_false, Bool.true_or, Bool.false_or, Bool.not_true, Bool.not_false, le_f, le_t, lt_f, lt_t, eq_f, ↓reduceIte, not_true_eq_false, not_false_eq_true, ite_10, bt_0, bt_1]
        · unfold mS2; rw [hg _ (by omega), eb, if_neg (by decide)]; exact hK
      | true =>
        have e2 : mS2 e x j k g = mS3 e x k (upd g (9 + 4 * k + 2) (mxI (g (9 + 4 * k + 2)) e)) := by unfold mS2; rw [hg _ (by omega), eb, if_pos rfl]
        have K2 := RK_2 hK hk (mxI (g (9 + 4 * k + 2)) e)
        obtain ⟨q0, q1, q2, q3⟩ := hK k hk
        have c2 : ∀ c, c < a + 29 ∨ a + 32 ≤ c → (sI b (a + 30) k (mxI (g (9 + 4 * k + 2)) e)).1 c = s.1 c := fun c hc' => by rw [sI_fn (by omega)]; exact hc c hc'
        cases hy with
        | false =>
          refine ⟨sI b (a + 30) k (mxI (g (9 + 4 * k + 2)) e), ?_, ?_, c2, h2, hg2⟩
          · simp (disch := omega) only [q126_80, q126_149, e6, eb, q2, b2_f, nI_lit, nI_add, pk_mul, nI_clp, nI_eqv, nI_lev, nI_ltv, nI_neg, nI_neg', nI_subv, Nat.add_zero, Nat.zero_add, Nat.mul_zero, Nat.reduceAdd, bN_rv, bM_ru, bV_rv, bV_rx, bU_ru, bU_rx, bN_ite, bM_ite, bV_ite, bU_ite, ↓bx_e, ↓sp_e, gA_ok, gZ_n, gB_0, gB_1, gB_i, and_true, and_false, true_and, false_and, decide_true, decide_false, ↓reduceIte, not_true_eq_false, not_false_eq_true, Bool.false_eq_true, Bool.true_eq_false, Bool.and_true, Bool.and_false, Bool.true_and, Bool.false_and, Bool.or_true, Bool.or_false, Bool.true_or, Bool.false_or, Bool.not_true, Bool.not_false, le_f, le_t, lt_f, lt_t, eq_f, ↓reduceIte, not_true_eq_false, not_false_eq_true, ite_10, bt_0, bt_1]
          · rw [e2]; unfold mS3
            have : (decide (x ≤ nI 0) || decide (e ≤ x)) = true := by
              cases q : (decide (x ≤ nI 0) || decide (e ≤ x)) with
              | true => rfl
              | false => rw [q] at hy2; cases hy2
            rw [if_pos this]; exact K2
        | true =>
          have hx : (decide (x ≤ nI 0) || decide (e ≤ x)) = false := by
            cases q : (decide (x ≤ nI 0) || decide (e ≤ x)) with
            | false => rfl
            | true => rw [q] at hy2; cases hy2
          have e3 : ∀ g, mS3 e x k g = upd g (9 + 4 * k + 3) (if g (9 + 4 * k + 3) = nI 0 then x else mnI (g (9 + 4 * k + 3)) x) := fun g => by unfold mS3; rw [hx, if_neg (by decide)]
          have K3 := RK_3 K2 hk x
          have c3 : ∀ c, c < a + 29 ∨ a + 32 ≤ c → (sI (sI b (a + 30) k (mxI (g (9 + 4 * k + 2)) e)) (a + 31) k x).1 c = s.1 c := fun c hc' => by rw [sI_fn (by omega)]; exact c2 c hc'
          have q3' : (sI b (a + 30) k (mxI (g (9 + 4 * k + 2)) e)).1 (a + 31) k = g (9 + 4 * k + 3) := by rw [sI_fn (by omega)]; exact q3
          have eu : upd g (9 + 4 * k + 2) (mxI (g (9 + 4 * k + 2)) e) (9 + 4 * k + 3) = g (9 + 4 * k + 3) := ud_n (by omega)
          by_cases h0 : g (9 + 4 * k + 3) = nI 0
          · refine ⟨sI (sI b (a + 30) k (mxI (g (9 + 4 * k + 2)) e)) (a + 31) k x, ?_, ?_, c3, h2, hg2⟩
            · simp (disch := omega) only [q126_80, q126_149, q126_141, e6, eb, q2, b2_t, q3', h0, nI_lit, nI_add, pk_mul, nI_clp, nI_eqv, nI_lev, nI_ltv, nI_neg, nI_neg', nI_subv, Nat.add_zero, Nat.zero_add, Nat.mul_zero, Nat.reduceAdd, bN_rv, bM_ru, bV_rv, bV_rx, bU_ru, bU_rx, bN_ite, bM_ite, bV_ite, bU_ite, ↓bx_e, ↓sp_e, gA_ok, gZ_n, gB_0, gB_1, gB_i, and_true, and_false, true_and, false_and, decide_true, decide_false, ↓reduceIte, not_true_eq_false, not_false_eq_true, Bool.false_eq_true, Bool.true_eq_false, Bool.and_true, Bool.and_false, Bool.true_and, Bool.false_and, Bool.or_true, Bool.or_false, Bool.true_or, Bool.false_or, Bool.not_true, Bool.not_false, le_f, le_t, lt_f, lt_t, eq_f, ↓reduceIte, not_true_eq_false, not_false_eq_true, ite_10, bt_0, bt_1]
            · rw [e2, e3, eu, if_pos h0]; exact K3
          · by_cases hle : g (9 + 4 * k + 3) ≤ x
            · refine ⟨sI b (a + 30) k (mxI (g (9 + 4 * k + 2)) e), ?_, ?_, c2, h2, hg2⟩
              · simp (disch := omega) only [q126_80, q126_149, q126_141, e6, eb, q2, b2_t, q3', h0, hle, nI_lit, nI_add, pk_mul, nI_clp, nI_eqv, nI_lev, nI_ltv, nI_neg, nI_neg', nI_subv, Nat.add_zero, Nat.zero_add, Nat.mul_zero, Nat.reduceAdd, bN_rv, bM_ru, bV_rv, bV_rx, bU_ru, bU_rx, bN_ite, bM_ite, bV_ite, bU_ite, ↓bx_e, ↓sp_e, gA_ok, gZ_n, gB_0, gB_1, gB_i, and_true, and_false, true_and, false_and, decide_true, decide_false, ↓reduceIte, not_true_eq_false, not_false_eq_true, Bool.false_eq_true, Bool.true_eq_false, Bool.and_true, Bool.and_false, Bool.true_and, Bool.false_and, Bool.or_true, Bool.or_false, Bool.true_or, Bool.false_or, Bool.not_true, Bool.not_false, le_f, le_t, lt_f, lt_t, eq_f, ↓reduceIte, not_true_eq_false, not_false_eq_true, ite_10, bt_0, bt_1]
              · rw [e2, e3, eu, if_neg h0, mnI_le, if_pos hle, ← eu, ud_id]; exact K2
            · refine ⟨sI (sI b (a + 30) k (mxI (g (9 + 4 * k + 2)) e)) (a + 31) k x, ?_, ?_, c3, h2, hg2⟩
              · simp (disch := omega) only [q126_80, q126_149, q126_141, e6, eb, q2, b2_t, q3', h0, hle, nI_lit, nI_add, pk_mul, nI_clp, nI_eqv, nI_lev, nI_ltv, nI_neg, nI_neg', nI_subv, Nat.add_zero, Nat.zero_add, Nat.mul_zero, Nat.reduceAdd, bN_rv, bM_ru, bV_rv, bV_rx, bU_ru, bU_rx, bN_ite, bM_ite, bV_ite, bU_ite, ↓bx_e, ↓sp_e, gA_ok, gZ_n, gB_0, gB_1, gB_i, and_true, and_false, true_and, false_and, decide_true, decide_false, ↓reduceIte, not_true_eq_false, not_false_eq_true, Bool.false_eq_true, Bool.true_eq_false, Bool.and_true, Bool.and_false, Bool.true_and, Bool.false_and, Bool.or_true, Bool.or_false, Bool.true_or, Bool.false_or, Bool.not_true, Bool.not_false, le_f, le_t, lt_f, lt_t, eq_f, ↓reduceIte, not_true_eq_false, not_false_eq_true, ite_10, bt_0, bt_1]
              · rw [e2, e3, eu, if_neg h0, mnI_le, if_neg hle]; exact K3
    have e5 := r5 b hc
    cases eb : bt (f (74 + 21 * j + 5)) k with
    | false =>
      have em : mS1 e j k g = g := by unfold mS1; rw [hg _ (by omega), eb, if_neg (by decide)]
      obtain ⟨b', j1, j2⟩ := k80 b g hK hc h2 hg
      refine ⟨b', ?_, ?_⟩
      · rw [← j1]; simp (disch := omega) only [q126_38, e5, eb, nI_lit, nI_add, pk_mul, nI_clp, nI_eqv, nI_lev, nI_ltv, nI_neg, nI_neg', nI_subv, Nat.add_zero, Nat.zero_add, Nat.mul_zero, Nat.reduceAdd, bN_rv, bM_ru, bV_rv, bV_rx, bU_ru, bU_rx, bN_ite, bM_ite, bV_ite, bU_ite, ↓bx_e, ↓sp_e, gA_ok, gZ_n, gB_0, gB_1, gB_i, and_true, and_false, true_and, false_and, decide_true, decide_false, ↓reduceIte, not_true_eq_false, not_false_eq_true, Bool.false_eq_true, Bool.true_eq_false, Bool.and_true, Bool.and_false, Bool.true_and, Bool.false_and, Bool.or_true, Bool.or_false, Bool.true_or, Bool.false_or, Bool.not_true, Bool.not_false, le_f, le_t, lt_f, lt_t, eq_f, ↓reduceIte, not_true_eq_false, not_false_eq_true, ite_10, bt_0, bt_1]
      · rw [em]; exact j2
    | true =>
      have em : mS1 e j k g = upd g (9 + 4 * k + 1) (mxI (g (9 + 4 * k + 1)) e) := by unfold mS1; rw [hg _ (by omega), eb, if_pos rfl]
      obtain ⟨b', j1, j2⟩ := k80 (sI b (a + 29) k (mxI (g (9 + 4 * k + 1)) e)) _ (RK_1 hK hk _) (fun c hc' => by rw [sI_fn (by omega)]; exact hc c hc') h2 (fun l hl => by rw [ud_n (by omega)]; exact hg l hl)
      refine ⟨b', ?_, ?_⟩
      · rw [← j1]; simp (disch := omega) only [q126_38, e5, eb, (hK k hk).2.1, nI_lit, nI_add, pk_mul, nI_clp, nI_eqv, nI_lev, nI_ltv, nI_neg, nI_neg', nI_subv, Nat.add_zero, Nat.zero_add, Nat.mul_zero, Nat.reduceAdd, bN_rv, bM_ru, bV_rv, bV_rx, bU_ru, bU_rx, bN_ite, bM_ite, bV_ite, bU_ite, ↓bx_e, ↓sp_e, gA_ok, gZ_n, gB_0, gB_1, gB_i, and_true, and_false, true_and, false_and, decide_true, decide_false, ↓reduceIte, not_true_eq_false, not_false_eq_true, Bool.false_eq_true, Bool.true_eq_false, Bool.and_true, Bool.and_false, Bool.true_and, Bool.false_and, Bool.or_true, Bool.or_false, Bool.true_or, Bool.false_or, Bool.not_true, Bool.not_false, le_f, le_t, lt_f, lt_t, eq_f, ↓reduceIte, not_true_eq_false, not_false_eq_true, ite_10, bt_0, bt_1]
      · rw [em]; exact j2
theorem p126 {s : mS} {a T : Nat} {f : Nat → Int32} (h : RW s a f) (hL : RLw s f) (hm : IM T f) (ha : 10 ≤ a) {j : Nat} (hj : j < 8) (hu : sU f j = true) : ∃ s', q126 a (nI j) s = ru s' ∧ RW s' a (mSm f (f (74 + 21 * j + 3)) (sFst f j) j) ∧ RLw s' (mSm f (f (74 + 21 * j + 3)) (sFst f j) j) ∧ IM T (mSm f (f (74 + 21 * j + 3)) (sFst f j) j) ∧ Fw a s s' := by
  obtain ⟨s', h1, h2, h3, h4⟩ := p126_38 h hm hj hu (e := f (74 + 21 * j + 3)) (x := sFst f j) _ rfl
  generalize hx : sFst f j = x at *
  generalize he : f (74 + 21 * j + 3) = e at *
  obtain ⟨hR, hCl, hK, hLg, hH, e9, e10, e11, e12, e13⟩ := h
  obtain ⟨i1, ⟨n, hn, a0, a1, a2, a3, a4⟩, i3, i4, k, hk, i5⟩ := hm
  have F : Fw a s s' := ⟨fun b hb _ _ => h3 b (by omega), h4⟩
  refine ⟨s', ?_, ⟨?_, ?_, h2, ?_, ?_, ?_, ?_, ?_, ?_, ?_⟩, ?_, ⟨?_, ⟨n, hn, ?_, fun c hc => ?_, fun c w' hc hc5 hw' => ?_, fun c j hc hj => ?_, fun j hj hv => ?_⟩, ?_, ?_, k, hk, ?_⟩, F⟩
  · rw [← h1]
    unfold q126
    simp (disch := omega) only [hR.2.2.2.2.2.2.1 j hj hu, he, p76 hR hj hu, hx, q126_32, q126_33, nI_lit, nI_add, pk_mul, nI_clp, nI_eqv, nI_lev, nI_ltv, nI_neg, nI_neg', nI_subv, Nat.add_zero, Nat.zero_add, Nat.mul_zero, Nat.reduceAdd, bN_rv, bM_ru, bV_rv, bV_rx, bU_ru, bU_rx, bN_ite, bM_ite, bV_ite, bU_ite, ↓bx_e, ↓sp_e, gA_ok, gZ_n, gB_0, gB_1, gB_i, and_true, and_false, true_and, false_and, decide_true, decide_false, ↓reduceIte, not_true_eq_false, not_false_eq_true, Bool.false_eq_true, Bool.true_eq_false, Bool.and_true, Bool.and_false, Bool.true_and, Bool.false_and, Bool.or_true, Bool.or_false, Bool.true_or, Bool.false_or, Bool.not_true, Bool.not_false, le_f, le_t, lt_f, lt_t, eq_f, ↓reduceIte, not_true_eq_false, not_false_eq_true, ite_10, bt_0, bt_1]
    by_cases q1 : x ≤ nI 0 <;> by_cases q2 : e ≤ x <;> simp only [q1, q2, b2_t, b2_f, and_true, and_false, true_and, false_and, decide_true, decide_false, ↓reduceIte, not_true_eq_false, not_false_eq_true, Bool.false_eq_true, Bool.true_eq_false, Bool.and_true, Bool.and_false, Bool.true_and, Bool.false_and, Bool.or_true, Bool.or_false, Bool.true_or, Bool.false_or, Bool.not_true, Bool.not_false]
  · exact RS_c hR i1.1 (fun b x y => h3 b (by omega)) (fun l x y => mSm_n (by omega)) (fun c hc => mSm_n (by omega))
  · exact RC_c hCl (fun b x y => h3 b (by omega)) (mSm_n (by omega)) (fun l x y => mSm_n (by omega))
  · exact RLg_c hLg (fun b x y => h3 b (by omega)) (mSm_n (by omega)) (fun l x y => mSm_n (by omega))
  · exact RH_c hH (fun b x y => h3 b (by omega)) (mSm_n (by omega)) (fun l x y => mSm_n (by omega))
  · rw [h3 a (by omega), mSm_n (by omega)]; exact e9
  · rw [h3 a (by omega), mSm_n (by omega)]; exact e10
  · rw [h3 a (by omega), mSm_n (by omega)]; exact e11
  · rw [h3 a (by omega), mSm_n (by omega)]; exact e12
  · rw [h3 a (by omega), mSm_n (by omega)]; exact e13
  · exact RLw_c i3 (mSm_n (by omega)) (fun l x y => mSm_n (by omega)) (fun b x y => h3 b (by omega)) hL
  · exact IS_c i1 (fun l x y => mSm_n (by omega))
  · rw [mSm_n (by omega)]; exact a0
  · rw [mSm_n (by omega)]; exact a1 c hc
  · rw [mSm_n (by omega)]; exact a2 c w' hc hc5 hw'
  · rw [mSm_n (by omega), mSm_n (by omega)]; exact a3 c j hc hj
  · rw [sU_c (mSm_n (by omega))] at hv
    rw [wh_c (mSm_n (by omega))]; exact a4 j hj hv
  · exact WLw_c (mSm_n (by omega)) (fun l x y => mSm_n (by omega)) i3
  · obtain ⟨t0, t3, t⟩ := i4
    refine ⟨t0, by rw [mSm_n (by omega)]; exact t3, fun l hl => ?_⟩
    rw [mSm_n (by omega), mSm_n (by omega), mSm_n (by omega)]; exact t l hl
  · rw [mSm_n (by omega)]; exact i5
