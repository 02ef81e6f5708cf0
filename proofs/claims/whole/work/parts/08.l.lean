/-! OPEN IN THE CLASS, SPOIL -/
theorem Fz_C {z : Nat} {s : mS} {a0 a1 p q n : Nat} (h1 : z ≤ a1) (h2 : a1 < z + 12) : Fz z s (sC s a0 a1 p q n) := by
  refine ⟨fun b hb => ?_, Eq.trans rfl rfl⟩
  funext j
  rw [sC_at, if_neg (by omega)]
theorem p78 {s : mS} {z : Nat} {f : Nat → Int32} (h : RS s z f) (hs : IS f) {i c : Nat} (hi : i < 8) (hc : c < 5) (h0 : f (74 + 21 * i) = nI 0) {v : Nat} (hv : v < z ∨ z + 12 ≤ v) (hver : ∀ k, k < 10 → s.1 v k = f (9 + 4 * k)) (x : Int32) :
    ∃ s1, q78 z (nI i) (nI c) (b2 (decide (f (49 + 5 * c + 2) = nI 1))) x s = ru s1 ∧ RS (sC s1 v (z + 11) 0 (i * 10) 10) z (mOpen f i (nI c) x) ∧ Fz z s (sC s1 v (z + 11) 0 (i * 10) 10) := by
  have hz := hs.2.2.1 i hi h0
  have hui : sU f i = false := by unfold sU; rw [h0]; rfl
  obtain ⟨a0, a1, a2, a3, a4, a5, a6, a7, a8, a9, a10, a11, a12, a13, a14⟩ := h
  have key : ∀ s0 : mS, (∀ b, b ≠ z → s0.1 b = s.1 b) → s0.2 = s.2 → (∀ k, bt (s0.1 z 0) k = (bt (s.1 z 0) k || decide (k = i))) → s0.1 z 1 = s.1 z 1 → (∀ k, bt (s0.1 z 2) k = (bt (s.1 z 2) k || (decide (k = i) && decide (f (49 + 5 * c + 2) = nI 1)))) → s0.1 z 3 = s.1 z 3 →
      ∃ s1, q78_28 z (nI i) (nI c) x s0 = ru s1 ∧ RS (sC s1 v (z + 11) 0 (i * 10) 10) z (mOpen f i (nI c) x) ∧ Fz z s (sC s1 v (z + 11) 0 (i * 10) 10) := by
    intro s0 g0 g1 g2 g3 g4 g5
    refine ⟨?w, ?x, ?y⟩
    case x =>
      unfold q78_28
      simp (disch := omega) only [nI_lit, nI_add, pk_mul, nI_clp, nI_eqv, nI_lev, nI_ltv, nI_neg, nI_neg', nI_subv, Nat.add_zero, Nat.zero_add, Nat.mul_zero, bN_rv, bM_ru, bV_rv, bV_rx, bU_ru, bU_rx, bN_ite, bM_ite, bV_ite, bU_ite, bx_e, sp_e, gA_ok, gZ_n, gB_0, gB_1, gB_i, and_true, and_false, true_and, false_and, decide_true, decide_false, ↓reduceIte, not_true_eq_false, not_false_eq_true, Bool.false_eq_true, Bool.true_eq_false, Bool.and_true, Bool.and_false, Bool.true_and, Bool.false_and, Bool.or_true, Bool.or_false, Bool.true_or, Bool.false_or, Bool.not_true, Bool.not_false, le_f, le_t, lt_f, lt_t, eq_f, ↓reduceIte, not_true_eq_false, not_false_eq_true, ite_10, bt_0, bt_1]
      rfl
    case y =>
      have hU : ∀ k, sU (mOpen f i (nI c) x) k = true → k ≠ i → sU f k = true := by
        intro k hk e
        rw [sU_op] at hk
        simpa only [e, and_true, and_false, true_and, false_and, decide_true, decide_false, ↓reduceIte, not_true_eq_false, not_false_eq_true, Bool.false_eq_true, Bool.true_eq_false, Bool.and_true, Bool.and_false, Bool.true_and, Bool.false_and, Bool.or_true, Bool.or_false, Bool.true_or, Bool.false_or, Bool.not_true, Bool.not_false] using hk
      refine ⟨⟨fun k => ?_, fun k => ?_, fun k => ?_, fun k => ?_, fun k hk hv' => ?_, fun k hk hv' => ?_, fun k hk hv' => ?_, fun k hk hv' => ?_, fun k hk hv' => ?_, fun k hk hv' => ?_, fun k hk hv' => ?_, fun k hk hv' => ?_, fun k hk => ?_, fun k hk => ?_, fun k hk hv' l hl => ?_⟩, ?_⟩
      · simp (disch := omega) only [sC_at, sI_at, eq_f, ↓reduceIte]; rw [g2, a0 k, sR_op]
        by_cases e : k = i
        · subst e; simp only [hi, and_true, and_false, true_and, false_and, decide_true, decide_false, ↓reduceIte, not_true_eq_false, not_false_eq_true, Bool.false_eq_true, Bool.true_eq_false, Bool.and_true, Bool.and_false, Bool.true_and, Bool.false_and, Bool.or_true, Bool.or_false, Bool.true_or, Bool.false_or, Bool.not_true, Bool.not_false]
        · simp only [e, and_true, and_false, true_and, false_and, decide_true, decide_false, ↓reduceIte, not_true_eq_false, not_false_eq_true, Bool.false_eq_true, Bool.true_eq_false, Bool.and_true, Bool.and_false, Bool.true_and, Bool.false_and, Bool.or_true, Bool.or_false, Bool.true_or, Bool.false_or, Bool.not_true, Bool.not_false]
      · simp (disch := omega) only [sC_at, sI_at, eq_f, ↓reduceIte]; rw [g3, a1 k, sF_op h0]
      · simp (disch := omega) only [sC_at, sI_at, eq_f, ↓reduceIte]; rw [g4, a2 k, sU_op]
        by_cases e : k = i
        · subst e; rw [sOn_opi hc, hui]; simp only [hi, and_true, and_false, true_and, false_and, decide_true, decide_false, ↓reduceIte, not_true_eq_false, not_false_eq_true, Bool.false_eq_true, Bool.true_eq_false, Bool.and_true, Bool.and_false, Bool.true_and, Bool.false_and, Bool.or_true, Bool.or_false, Bool.true_or, Bool.false_or, Bool.not_true, Bool.not_false]
        · by_cases hk : k < 8
          · rw [sOn_op hs.1 hk e]; simp only [e, and_true, and_false, true_and, false_and, decide_true, decide_false, ↓reduceIte, not_true_eq_false, not_false_eq_true, Bool.false_eq_true, Bool.true_eq_false, Bool.and_true, Bool.and_false, Bool.true_and, Bool.false_and, Bool.or_true, Bool.or_false, Bool.true_or, Bool.false_or, Bool.not_true, Bool.not_false]
          · simp only [hk, e, and_true, and_false, true_and, false_and, decide_true, decide_false, ↓reduceIte, not_true_eq_false, not_false_eq_true, Bool.false_eq_true, Bool.true_eq_false, Bool.and_true, Bool.and_false, Bool.true_and, Bool.false_and, Bool.or_true, Bool.or_false, Bool.true_or, Bool.false_or, Bool.not_true, Bool.not_false]
      · simp (disch := omega) only [sC_at, sI_at, eq_f, ↓reduceIte]; rw [g5, a3 k]
        by_cases e : k = i
        · subst e; rw [mOpen_n (by omega) (by omega) (by omega) (by omega)]
        · rw [mOpen_o (by omega)]
      · by_cases e : k = i
        · subst e; rw [mOpen_1]; simp (disch := omega) only [sC_at, sI_at, eq_f, ↓reduceIte]
        · rw [mOpen_o (by omega)]; simp (disch := omega) only [sC_at, sI_at, eq_f, e, ↓reduceIte, g0]; exact a4 k hk (hU k hv' e)
      · by_cases e : k = i
        · subst e; rw [mOpen_2]; simp (disch := omega) only [sC_at, sI_at, eq_f, ↓reduceIte]
        · rw [mOpen_o (by omega)]; simp (disch := omega) only [sC_at, sI_at, eq_f, e, ↓reduceIte, g0]; exact a5 k hk (hU k hv' e)
      · by_cases e : k = i
        · subst e; rw [mOpen_n (by omega) (by omega) (by omega) (by omega), hz 3 (by omega)]; simp (disch := omega) only [sC_at, sI_at, eq_f, ↓reduceIte]
        · rw [mOpen_o (by omega)]; simp (disch := omega) only [sC_at, sI_at, eq_f, e, ↓reduceIte, g0]; exact a6 k hk (hU k hv' e)
      · by_cases e : k = i
        · subst e; rw [mOpen_n (by omega) (by omega) (by omega) (by omega), hz 4 (by omega)]; simp (disch := omega) only [sC_at, sI_at, eq_f, ↓reduceIte]
        · rw [mOpen_o (by omega)]; simp (disch := omega) only [sC_at, sI_at, eq_f, e, ↓reduceIte, g0]; exact a7 k hk (hU k hv' e)
      · by_cases e : k = i
        · subst e; rw [mOpen_n (by omega) (by omega) (by omega) (by omega), hz 5 (by omega)]; simp (disch := omega) only [sC_at, sI_at, eq_f, ↓reduceIte]
        · rw [mOpen_o (by omega)]; simp (disch := omega) only [sC_at, sI_at, eq_f, e, ↓reduceIte, g0]; exact a8 k hk (hU k hv' e)
      · by_cases e : k = i
        · subst e; rw [mOpen_n (by omega) (by omega) (by omega) (by omega), hz 6 (by omega)]; simp (disch := omega) only [sC_at, sI_at, eq_f, ↓reduceIte]
        · rw [mOpen_o (by omega)]; simp (disch := omega) only [sC_at, sI_at, eq_f, e, ↓reduceIte, g0]; exact a9 k hk (hU k hv' e)
      · by_cases e : k = i
        · subst e; rw [mOpen_n (by omega) (by omega) (by omega) (by omega), hz 8 (by omega)]; simp (disch := omega) only [sC_at, sI_at, eq_f, ↓reduceIte]
        · rw [mOpen_o (by omega)]; simp (disch := omega) only [sC_at, sI_at, eq_f, e, ↓reduceIte, g0]; exact a10 k hk (hU k hv' e)
      · by_cases e : k = i
        · subst e; rw [mOpen_n (by omega) (by omega) (by omega) (by omega), hz 9 (by omega)]; simp (disch := omega) only [sC_at, sI_at, eq_f, ↓reduceIte]
        · rw [mOpen_o (by omega)]; simp (disch := omega) only [sC_at, sI_at, eq_f, e, ↓reduceIte, g0]; exact a11 k hk (hU k hv' e)
      · have e7 : mOpen f i (nI c) x (74 + 21 * k + 7) = f (74 + 21 * k + 7) := by
          by_cases e : k = i
          · subst e; rw [mOpen_n (by omega) (by omega) (by omega) (by omega)]
          · rw [mOpen_o (by omega)]
        rw [e7]; simp (disch := omega) only [sC_at, sI_at, eq_f, ↓reduceIte, g0]; exact a12 k hk
      · have e7 : ∀ o, o < 8 → mOpen f i (nI c) x (74 + 21 * o + 7) = f (74 + 21 * o + 7) := by
          intro o ho
          by_cases e : o = i
          · subst e; rw [mOpen_n (by omega) (by omega) (by omega) (by omega)]
          · rw [mOpen_o (by omega)]
        rw [sIn_c e7]; simp (disch := omega) only [sC_at, sI_at, eq_f, ↓reduceIte, g0]; exact a13 k hk
      · by_cases e : k = i
        · subst e
          rw [mOpen_s hl]
          simp (disch := omega) only [sC_at, sI_at, eq_f, ↓reduceIte, g0]
          rw [if_pos (by omega), show 0 + (10 * k + l - k * 10) = l by omega]
          exact hver l hl
        · rw [mOpen_o (by omega)]
          simp (disch := omega) only [sC_at, sI_at, eq_f, ↓reduceIte, g0]
          rw [if_neg (by omega)]
          exact a14 k hk (hU k hv' e) l hl
      · have F0 : Fz z s s0 := ⟨fun b hb => g0 b (by omega), g1⟩
        exact Fz_t (Fz_t (Fz_t (Fz_t (Fz_t (Fz_t (Fz_t (Fz_t (Fz_t F0 (Fz_I (by omega) (by omega))) (Fz_I (by omega) (by omega))) (Fz_I (by omega) (by omega))) (Fz_I (by omega) (by omega))) (Fz_I (by omega) (by omega))) (Fz_I (by omega) (by omega))) (Fz_I (by omega) (by omega))) (Fz_I (by omega) (by omega))) (Fz_C (by omega) (by omega))
  unfold q78
  cases ho : decide (f (49 + 5 * c + 2) = nI 1) with
  | false =>
    rw [ho] at key
    simp (disch := omega) only [b2_f, nI_lit, nI_add, pk_mul, nI_clp, nI_eqv, nI_lev, nI_ltv, nI_neg, nI_neg', nI_subv, Nat.add_zero, Nat.zero_add, Nat.mul_zero, bN_rv, bM_ru, bV_rv, bV_rx, bU_ru, bU_rx, bN_ite, bM_ite, bV_ite, bU_ite, bx_e, sp_e, gA_ok, gZ_n, gB_0, gB_1, gB_i, and_true, and_false, true_and, false_and, decide_true, decide_false, ↓reduceIte, not_true_eq_false, not_false_eq_true, Bool.false_eq_true, Bool.true_eq_false, Bool.and_true, Bool.and_false, Bool.true_and, Bool.false_and, Bool.or_true, Bool.or_false, Bool.true_or, Bool.false_or, Bool.not_true, Bool.not_false, le_f, le_t, lt_f, lt_t, eq_f, ↓reduceIte, not_true_eq_false, not_false_eq_true, ite_10, bt_0, bt_1]
    refine key _ (fun b hb => sI_fn hb) (Eq.trans rfl rfl) (fun k => ?_) ?_ (fun k => ?_) ?_
    · simp (disch := omega) only [sI_at, eq_f, ↓reduceIte]; rw [bt_or1 (by omega)]
    · simp (disch := omega) only [sI_at, eq_f, ↓reduceIte]
    · simp (disch := omega) only [sI_at, eq_f, and_true, and_false, true_and, false_and, decide_true, decide_false, ↓reduceIte, not_true_eq_false, not_false_eq_true, Bool.false_eq_true, Bool.true_eq_false, Bool.and_true, Bool.and_false, Bool.true_and, Bool.false_and, Bool.or_true, Bool.or_false, Bool.true_or, Bool.false_or, Bool.not_true, Bool.not_false]
    · simp (disch := omega) only [sI_at, eq_f, ↓reduceIte]
  | true =>
    rw [ho] at key
    simp (disch := omega) only [b2_t, nI_lit, nI_add, pk_mul, nI_clp, nI_eqv, nI_lev, nI_ltv, nI_neg, nI_neg', nI_subv, Nat.add_zero, Nat.zero_add, Nat.mul_zero, bN_rv, bM_ru, bV_rv, bV_rx, bU_ru, bU_rx, bN_ite, bM_ite, bV_ite, bU_ite, bx_e, sp_e, gA_ok, gZ_n, gB_0, gB_1, gB_i, and_true, and_false, true_and, false_and, decide_true, decide_false, ↓reduceIte, not_true_eq_false, not_false_eq_true, Bool.false_eq_true, Bool.true_eq_false, Bool.and_true, Bool.and_false, Bool.true_and, Bool.false_and, Bool.or_true, Bool.or_false, Bool.true_or, Bool.false_or, Bool.not_true, Bool.not_false, le_f, le_t, lt_f, lt_t, eq_f, ↓reduceIte, not_true_eq_false, not_false_eq_true, ite_10, bt_0, bt_1]
    refine key _ (fun b hb => (sI_fn hb).trans (sI_fn hb)) (Eq.trans rfl rfl) (fun k => ?_) ?_ (fun k => ?_) ?_
    · simp (disch := omega) only [sI_at, eq_f, ↓reduceIte]; rw [bt_or1 (by omega)]
    · simp (disch := omega) only [sI_at, eq_f, ↓reduceIte]
    · simp (disch := omega) only [sI_at, eq_f, ↓reduceIte]; rw [bt_or1 (by omega), Bool.and_true]
    · simp (disch := omega) only [sI_at, eq_f, ↓reduceIte]
theorem RS_spo {s : mS} {z : Nat} {f : Nat → Int32} (h : RS s z f) (hw : IW f) {i : Nat} (hi : i < 8) : RS (sI s z 3 (s.1 z 3 ||| shlI (nI 1) (nI i))) z (upd f (74 + 21 * i + 10) (nI 1)) := by
  obtain ⟨a0, a1, a2, a3, a4, a5, a6, a7, a8, a9, a10, a11, a12, a13, a14⟩ := h
  refine ⟨fun j => ?_, fun j => ?_, fun j => ?_, fun j => ?_, fun j hj hu => ?_, fun j hj hu => ?_, fun j hj hu => ?_, fun j hj hu => ?_, fun j hj hu => ?_, fun j hj hu => ?_, fun j hj hu => ?_, fun j hj hu => ?_, fun j hj => ?_, fun j hj => ?_, fun j hj hu k hk => ?_⟩
  · simp (disch := omega) only [sI_at, eq_f, ↓reduceIte, sR_u]; exact a0 j
  · simp (disch := omega) only [sI_at, eq_f, ↓reduceIte, sF_u]; exact a1 j
  · simp (disch := omega) only [sI_at, eq_f, ↓reduceIte]
    rw [a2 j]
    by_cases hj : j < 8
    · have := (hw j hj).2
      rw [sU_u (by omega), sOn_u (by omega) (by omega)]
    · simp only [hj, and_true, and_false, true_and, false_and, decide_true, decide_false, ↓reduceIte, not_true_eq_false, not_false_eq_true, Bool.false_eq_true, Bool.true_eq_false, Bool.and_true, Bool.and_false, Bool.true_and, Bool.false_and, Bool.or_true, Bool.or_false, Bool.true_or, Bool.false_or, Bool.not_true, Bool.not_false]
  · simp (disch := omega) only [sI_at, eq_f, ↓reduceIte]; rw [bt_or1 (by omega), a3 j]
    by_cases e : j = i
    · subst e; rw [ud_e rfl]; simp only [hi, and_true, and_false, true_and, false_and, decide_true, decide_false, ↓reduceIte, not_true_eq_false, not_false_eq_true, Bool.false_eq_true, Bool.true_eq_false, Bool.and_true, Bool.and_false, Bool.true_and, Bool.false_and, Bool.or_true, Bool.or_false, Bool.true_or, Bool.false_or, Bool.not_true, Bool.not_false]
    · rw [ud_n (by omega)]; simp only [e, and_true, and_false, true_and, false_and, decide_true, decide_false, ↓reduceIte, not_true_eq_false, not_false_eq_true, Bool.false_eq_true, Bool.true_eq_false, Bool.and_true, Bool.and_false, Bool.true_and, Bool.false_and, Bool.or_true, Bool.or_false, Bool.true_or, Bool.false_or, Bool.not_true, Bool.not_false]
  · rw [sU_u (by omega)] at hu; simp (disch := omega) only [sI_at, eq_f, ↓reduceIte, ud_n]; exact a4 j hj hu
  · rw [sU_u (by omega)] at hu; simp (disch := omega) only [sI_at, eq_f, ↓reduceIte, ud_n]; exact a5 j hj hu
  · rw [sU_u (by omega)] at hu; simp (disch := omega) only [sI_at, eq_f, ↓reduceIte, ud_n]; exact a6 j hj hu
  · rw [sU_u (by omega)] at hu; simp (disch := omega) only [sI_at, eq_f, ↓reduceIte, ud_n]; exact a7 j hj hu
  · rw [sU_u (by omega)] at hu; simp (disch := omega) only [sI_at, eq_f, ↓reduceIte, ud_n]; exact a8 j hj hu
  · rw [sU_u (by omega)] at hu; simp (disch := omega) only [sI_at, eq_f, ↓reduceIte, ud_n]; exact a9 j hj hu
  · rw [sU_u (by omega)] at hu; simp (disch := omega) only [sI_at, eq_f, ↓reduceIte, ud_n]; exact a10 j hj hu
  · rw [sU_u (by omega)] at hu; simp (disch := omega) only [sI_at, eq_f, ↓reduceIte, ud_n]; exact a11 j hj hu
  · simp (disch := omega) only [sI_at, eq_f, ↓reduceIte, ud_n]; exact a12 j hj
  · simp (disch := omega) only [sI_at, eq_f, ↓reduceIte]; rw [sIn_c (fun o ho => ud_n (by omega))]; exact a13 j hj
  · rw [sU_u (by omega)] at hu; simp (disch := omega) only [sI_at, eq_f, ↓reduceIte, ud_n]; exact a14 j hj hu k hk
theorem IS_spo {f : Nat → Int32} (h : IS f) {i : Nat} (hi : i < 8) (hu : sU f i = true) : IS (upd f (74 + 21 * i + 10) (nI 1)) := by
  obtain ⟨i0, i1, i2, i3, i4, i5, i6⟩ := h
  refine ⟨IW_c i0 (fun j hj => ud_n (by omega)), fun j hj => ?_, fun j hj hz w' hw' => ?_, fun j l hj hb => ?_, fun j hj => ?_, fun j l hj hl ha hb hc => ?_, fun j l k hj hl hk ha hb hc hd => ?_⟩
  · rw [ud_n (by omega)]; exact i1 j hj
  · rw [ud_n (by omega)] at hz
    have hji : j ≠ i := by
      intro e; subst e
      unfold sU at hu
      rw [hz] at hu
      exact absurd hu (by decide)
    rw [ud_n (by omega)]; exact i2 j hj hz w' hw'
  · rw [ud_n (by omega)] at hb
    obtain ⟨q1, q2⟩ := i3 j l hj hb
    exact ⟨q1, by rw [sU_u (by omega)]; exact q2⟩
  · by_cases e : j = i
    · subst e; rw [ud_e rfl]; exact Or.inr rfl
    · rw [ud_n (by omega)]; exact i4 j hj
  · rw [sR_u (by omega)] at ha hb
    rw [ud_n (by omega), ud_n (by omega)] at hc
    exact i5 j l hj hl ha hb hc
  · rw [sR_u (by omega)] at ha hb
    rw [ud_n (by omega)] at hc hd
    exact i6 j l k hj hl hk ha hb hc hd
def mSpG (x : Int32) (i o : Nat) (f : Nat → Int32) : Nat → Int32 := if (sR f o && sOn f o && !(decide (f (74 + 21 * o + 2) ≤ x)) && !(decide (f (74 + 21 * o + 2) ≤ f (74 + 21 * i + 2)))) = true then upd f (74 + 21 * o + 10) (nI 1) else f
def mSp (f : Nat → Int32) (x : Int32) (i : Nat) : Nat → Int32 := fo (fun o f => mSpG x i o f) 8 0 f
theorem mSp_n {f : Nat → Int32} {x : Int32} {i j : Nat} (h : ∀ o, o < 8 → j ≠ 74 + 21 * o + 10) : mSp f x i j = f j := by
  unfold mSp
  refine fo_pres (P := fun (g : Nat → Int32) => g j = f j) (fun o b _ ho hb => ?_) rfl
  unfold mSpG
  split
  · rw [ud_n (h o (by omega))]; exact hb
  · exact hb
