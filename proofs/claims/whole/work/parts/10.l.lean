/-! HOT, RESTS -/
section LOOK
variable {B : Nat} {s : mS}
def hk_ (f : Nat → Int32) (n k : Nat) : Nat := cnt (fun c => bt (clU f c) k) n 0
theorem bt_a (x b : Int32) {k : Nat} (hk : k < 32) : b + (shrI x (nI k) &&& nI 1) = if bt x k = true then b + nI 1 else b := by
  rw [bt_b x hk]
  cases bt x k
  · simp only [and_true, and_false, true_and, false_and, decide_true, decide_false, ↓reduceIte, not_true_eq_false, not_false_eq_true, Bool.false_eq_true, Bool.true_eq_false, Bool.and_true, Bool.and_false, Bool.true_and, Bool.false_and, Bool.or_true, Bool.or_false, Bool.true_or, Bool.false_or, Bool.not_true, Bool.not_false]; rw [nI_0, Int32.add_zero]
  · simp only [and_true, and_false, true_and, false_and, decide_true, decide_false, ↓reduceIte, not_true_eq_false, not_false_eq_true, Bool.false_eq_true, Bool.true_eq_false, Bool.and_true, Bool.and_false, Bool.true_and, Bool.false_and, Bool.or_true, Bool.or_false, Bool.true_or, Bool.false_or, Bool.not_true, Bool.not_false]
theorem cnt_le {p : Nat → Bool} : ∀ m i, cnt p m i ≤ m := by
  intro m
  induction m with
  | zero => intro i; exact Nat.le_refl _
  | succ m ih => intro i; rw [cnt]; have := ih (i + 1); split <;> omega
def htG (f : Nat → Int32) (n k : Nat) (b : Nat × Nat) : Nat × Nat := if hk_ f n k ≤ b.2 then b else (k, hk_ f n k)
theorem z_hot (hG : G B s) : ZN B q162 q330 s := by
  have hG0 := hG
  obtain ⟨⟨hR, hL, T, hT, hA⟩, -⟩ := hG0
  obtain ⟨n, hn, f0, y0, -, y1, y2, -, -⟩ := hR.2.1
  simp only [Nat.reduceAdd] at y0
  have h5 : ∀ k, hk_ (s.1 513) n k ≤ 5 := fun k => Nat.le_trans (cnt_le n 0) hn
  have hg5 : ∀ m i (b : Nat × Nat), b.1 ≤ 10 → b.2 ≤ 5 → i + m = 10 → (fo (htG (s.1 513) n) m i b).1 ≤ 10 ∧ (fo (htG (s.1 513) n) m i b).2 ≤ 5 := by
    intro m
    induction m with
    | zero => intro i b h1 h2 _; exact ⟨h1, h2⟩
    | succ m ih =>
      intro i b h1 h2 hi
      rw [fo]
      unfold htG
      split
      · exact ih (i + 1) b h1 h2 (by omega)
      · exact ih (i + 1) _ (show i ≤ 10 by omega) (h5 i) (by omega)
  refine ZN_0 (v := nI (fo (htG (s.1 513) n) 10 0 (0, 0)).1) hG ?_ (fun t ht => ?_)
  · have inner : ∀ K v1 v2 k, k < 10 → q10_18 K 27 10000 v1 v2 (nI k) (nI 0) (nI 0) s = K v1 v2 (nI k) (nI (hk_ (s.1 513) n k)) s := fun K v1 v2 k hk10 => by
      have e0 := fo_cnt (p := fun c => bt (clU (s.1 513) c) k) n 0 0
      rw [Nat.zero_add] at e0
      unfold hk_
      rw [← e0]
      refine lp_fo (Q := fun m b i => q10_18 K 27 m v1 v2 (nI k) b i s) (out := fun b => K v1 v2 (nI k) b s) (fun m b => ?_) (fun m i b hi => ?_) (nI 0) 10000 (by omega)
      · simp (disch := omega) only [q10_18, y0, nI_lit, nI_add, pk_mul, nI_clp, nI_eqv, nI_lev, nI_ltv, nI_neg, nI_neg', nI_subv, Nat.add_zero, Nat.zero_add, Nat.mul_zero, Nat.reduceAdd, bN_rv, bM_ru, bV_rv, bV_rx, bU_ru, bU_rx, bN_ite, bM_ite, bV_ite, bU_ite, ↓bx_e, ↓sp_e, gA_ok, gZ_n, gB_0, gB_1, gB_i, and_true, and_false, true_and, false_and, decide_true, decide_false, ↓reduceIte, not_true_eq_false, not_false_eq_true, Bool.false_eq_true, Bool.true_eq_false, Bool.and_true, Bool.and_false, Bool.true_and, Bool.false_and, Bool.or_true, Bool.or_false, Bool.true_or, Bool.false_or, Bool.not_true, Bool.not_false, le_f, le_t, lt_f, lt_t, eq_f, ↓reduceIte, not_true_eq_false, not_false_eq_true, ite_10, bt_0, bt_1]
      · have c4 := p4 (s := s) (n := 0) (y := 26 + 1) (c := i) (f := s.1 513) (by omega) y1 y2
        simp only [Nat.reduceAdd] at c4
        simp (disch := omega) only [q10_18, y0, c4, bt_a, nI_lit, nI_add, pk_mul, nI_clp, nI_eqv, nI_lev, nI_ltv, nI_neg, nI_neg', nI_subv, Nat.add_zero, Nat.zero_add, Nat.mul_zero, Nat.reduceAdd, bN_rv, bM_ru, bV_rv, bV_rx, bU_ru, bU_rx, bN_ite, bM_ite, bV_ite, bU_ite, ↓bx_e, ↓sp_e, gA_ok, gZ_n, gB_0, gB_1, gB_i, and_true, and_false, true_and, false_and, decide_true, decide_false, ↓reduceIte, not_true_eq_false, not_false_eq_true, Bool.false_eq_true, Bool.true_eq_false, Bool.and_true, Bool.and_false, Bool.true_and, Bool.false_and, Bool.or_true, Bool.or_false, Bool.true_or, Bool.false_or, Bool.not_true, Bool.not_false, le_f, le_t, lt_f, lt_t, eq_f, ↓reduceIte, not_true_eq_false, not_false_eq_true, ite_10, bt_0, bt_1]
    have outer : ∀ m i k (b : Nat × Nat), i + m = 10 → b.1 ≤ 10 → b.2 ≤ 5 → m < k → q10_6 27 k (nI b.1) (nI b.2) (nI i) s = rv (nI (fo (htG (s.1 513) n) m i b).1) s := by
      intro m
      induction m with
      | zero =>
        intro i k b hi _ _ hk
        cases k with
        | zero => omega
        | succ k =>
          have : i = 10 := by omega
          subst this
          simp (disch := omega) only [q10_6, fo, nI_lit, nI_add, pk_mul, nI_clp, nI_eqv, nI_lev, nI_ltv, nI_neg, nI_neg', nI_subv, Nat.add_zero, Nat.zero_add, Nat.mul_zero, Nat.reduceAdd, bN_rv, bM_ru, bV_rv, bV_rx, bU_ru, bU_rx, bN_ite, bM_ite, bV_ite, bU_ite, ↓bx_e, ↓sp_e, gA_ok, gZ_n, gB_0, gB_1, gB_i, and_true, and_false, true_and, false_and, decide_true, decide_false, ↓reduceIte, not_true_eq_false, not_false_eq_true, Bool.false_eq_true, Bool.true_eq_false, Bool.and_true, Bool.and_false, Bool.true_and, Bool.false_and, Bool.or_true, Bool.or_false, Bool.true_or, Bool.false_or, Bool.not_true, Bool.not_false, le_f, le_t, lt_f, lt_t, eq_f, ↓reduceIte, not_true_eq_false, not_false_eq_true, ite_10, bt_0, bt_1]
      | succ m ih =>
        intro i k b hi hb1 hb2 hk
        cases k with
        | zero => omega
        | succ k =>
          rw [fo]
          rw [q10_6]
          have hle : ¬ nI 10 ≤ nI i := by rw [nI_lev (by omega) (by omega)]; omega
          simp only [nI_lit, hle, ↓reduceIte]
          rw [inner _ _ _ i (by omega)]
          unfold q10_48 q10_59
          have hq := h5 i
          unfold htG
          by_cases q : hk_ (s.1 513) n i ≤ b.2
          · rw [if_pos (by rw [nI_lev (by omega) (by omega)]; exact q), if_pos q, bx_e, nI_lit, nI_add]
            exact ih (i + 1) k b (by omega) hb1 hb2 (by omega)
          · rw [if_neg (by rw [nI_lev (by omega) (by omega)]; exact q), if_neg q, bx_e, nI_lit, nI_add]
            exact ih (i + 1) k (i, hk_ (s.1 513) n i) (by omega) (show i ≤ 10 by omega) (h5 i) (by omega)
    unfold q162 q10
    simp only [Nat.reduceAdd]
    rw [nI_lit, outer 10 0 10000 (0, 0) (by omega) (by omega) (by omega) (by omega), bN_rv]
  · have e5 : (sI t 512 0 (nI 0)).1 513 = s.1 513 := by rw [t0_513, ht]
    have f0' : (sI t 512 0 (nI 0)).1 513 0 = nI n := by rw [e5]; exact f0
    unfold q330
    rw [nI_lit]; simp only [sp_e]
    generalize sI t 512 0 (nI 0) = u at *
    have m329 : ∀ k, k < 10 → q329 (nI k) u = rv (nI (hk_ (s.1 513) n k)) u := fun k hk10 => by
      have e0 := fo_cnt (p := fun c => bt (clU (s.1 513) c) k) n 0 0
      rw [Nat.zero_add] at e0
      unfold hk_ q329
      rw [← e0, nI_lit]
      refine lp_fo (Q := fun m b i => q329_4 m (nI k) b i u) (out := fun b => rv b u) (fun m b => ?_) (fun m i b hi => ?_) (nI 0) 10000 (by omega)
      · simp (disch := omega) only [q329_4, f0', nI_lit, nI_add, pk_mul, nI_clp, nI_eqv, nI_lev, nI_ltv, nI_neg, nI_neg', nI_subv, Nat.add_zero, Nat.zero_add, Nat.mul_zero, Nat.reduceAdd, bN_rv, bM_ru, bV_rv, bV_rx, bU_ru, bU_rx, bN_ite, bM_ite, bV_ite, bU_ite, ↓bx_e, ↓sp_e, gA_ok, gZ_n, gB_0, gB_1, gB_i, and_true, and_false, true_and, false_and, decide_true, decide_false, ↓reduceIte, not_true_eq_false, not_false_eq_true, Bool.false_eq_true, Bool.true_eq_false, Bool.and_true, Bool.and_false, Bool.true_and, Bool.false_and, Bool.or_true, Bool.or_false, Bool.true_or, Bool.false_or, Bool.not_true, Bool.not_false, le_f, le_t, lt_f, lt_t, eq_f, ↓reduceIte, not_true_eq_false, not_false_eq_true, ite_10, bt_0, bt_1, q198, q199, q200, q201, q202, q203, q204, m190, m205, m206, b2_0, q189, q187]
      · simp (disch := omega) only [q329_4, f0', m301, e5, bt_a, nI_lit, nI_add, pk_mul, nI_clp, nI_eqv, nI_lev, nI_ltv, nI_neg, nI_neg', nI_subv, Nat.add_zero, Nat.zero_add, Nat.mul_zero, Nat.reduceAdd, bN_rv, bM_ru, bV_rv, bV_rx, bU_ru, bU_rx, bN_ite, bM_ite, bV_ite, bU_ite, ↓bx_e, ↓sp_e, gA_ok, gZ_n, gB_0, gB_1, gB_i, and_true, and_false, true_and, false_and, decide_true, decide_false, ↓reduceIte, not_true_eq_false, not_false_eq_true, Bool.false_eq_true, Bool.true_eq_false, Bool.and_true, Bool.and_false, Bool.true_and, Bool.false_and, Bool.or_true, Bool.or_false, Bool.true_or, Bool.false_or, Bool.not_true, Bool.not_false, le_f, le_t, lt_f, lt_t, eq_f, ↓reduceIte, not_true_eq_false, not_false_eq_true, ite_10, bt_0, bt_1, q198, q199, q200, q201, q202, q203, q204, m190, m205, m206, b2_0, q189, q187]
    have outer : ∀ m i k c, i + m = 10 → c < 10 → m < k → q330_9 k (nI c) (nI i) u = rv (nI (fo (htG (s.1 513) n) m i (c, hk_ (s.1 513) n c)).1) u := by
      intro m
      induction m with
      | zero =>
        intro i k c hi hc hk
        cases k with
        | zero => omega
        | succ k =>
          have : i = 10 := by omega
          subst this
          simp (disch := omega) only [q330_9, fo, nI_lit, nI_add, pk_mul, nI_clp, nI_eqv, nI_lev, nI_ltv, nI_neg, nI_neg', nI_subv, Nat.add_zero, Nat.zero_add, Nat.mul_zero, Nat.reduceAdd, bN_rv, bM_ru, bV_rv, bV_rx, bU_ru, bU_rx, bN_ite, bM_ite, bV_ite, bU_ite, ↓bx_e, ↓sp_e, gA_ok, gZ_n, gB_0, gB_1, gB_i, and_true, and_false, true_and, false_and, decide_true, decide_false, ↓reduceIte, not_true_eq_false, not_false_eq_true, Bool.false_eq_true, Bool.true_eq_false, Bool.and_true, Bool.and_false, Bool.true_and, Bool.false_and, Bool.or_true, Bool.or_false, Bool.true_or, Bool.false_or, Bool.not_true, Bool.not_false, le_f, le_t, lt_f, lt_t, eq_f, ↓reduceIte, not_true_eq_false, not_false_eq_true, ite_10, bt_0, bt_1]
      | succ m ih =>
        intro i k c hi hc hk
        cases k with
        | zero => omega
        | succ k =>
          rw [fo]
          have hq := h5 i
          have hq2 := h5 c
          have m1 := m329 i (by omega)
          have m2 := m329 c hc
          unfold htG
          by_cases q : hk_ (s.1 513) n i ≤ hk_ (s.1 513) n c
          · rw [if_pos q]
            refine Eq.trans ?_ (ih (i + 1) k c (by omega) hc (by omega))
            simp (disch := omega) only [q330_9, q330_33, m1, m2, q, nI_lit, nI_add, pk_mul, nI_clp, nI_eqv, nI_lev, nI_ltv, nI_neg, nI_neg', nI_subv, Nat.add_zero, Nat.zero_add, Nat.mul_zero, Nat.reduceAdd, bN_rv, bM_ru, bV_rv, bV_rx, bU_ru, bU_rx, bN_ite, bM_ite, bV_ite, bU_ite, ↓bx_e, ↓sp_e, gA_ok, gZ_n, gB_0, gB_1, gB_i, and_true, and_false, true_and, false_and, decide_true, decide_false, ↓reduceIte, not_true_eq_false, not_false_eq_true, Bool.false_eq_true, Bool.true_eq_false, Bool.and_true, Bool.and_false, Bool.true_and, Bool.false_and, Bool.or_true, Bool.or_false, Bool.true_or, Bool.false_or, Bool.not_true, Bool.not_false, le_f, le_t, lt_f, lt_t, eq_f, ↓reduceIte, not_true_eq_false, not_false_eq_true, ite_10, bt_0, bt_1]
          · rw [if_neg q]
            refine Eq.trans ?_ (ih (i + 1) k i (by omega) (by omega) (by omega))
            simp (disch := omega) only [q330_9, q330_33, m1, m2, q, nI_lit, nI_add, pk_mul, nI_clp, nI_eqv, nI_lev, nI_ltv, nI_neg, nI_neg', nI_subv, Nat.add_zero, Nat.zero_add, Nat.mul_zero, Nat.reduceAdd, bN_rv, bM_ru, bV_rv, bV_rx, bU_ru, bU_rx, bN_ite, bM_ite, bV_ite, bU_ite, ↓bx_e, ↓sp_e, gA_ok, gZ_n, gB_0, gB_1, gB_i, and_true, and_false, true_and, false_and, decide_true, decide_false, ↓reduceIte, not_true_eq_false, not_false_eq_true, Bool.false_eq_true, Bool.true_eq_false, Bool.and_true, Bool.and_false, Bool.true_and, Bool.false_and, Bool.or_true, Bool.or_false, Bool.true_or, Bool.false_or, Bool.not_true, Bool.not_false, le_f, le_t, lt_f, lt_t, eq_f, ↓reduceIte, not_true_eq_false, not_false_eq_true, ite_10, bt_0, bt_1]
    rw [nI_lit, outer 9 1 10000 0 (by omega) (by omega) (by omega)]
    have e1 : fo (htG (s.1 513) n) 10 0 (0, 0) = fo (htG (s.1 513) n) 9 1 (htG (s.1 513) n 0 (0, 0)) := rfl
    have e2 : htG (s.1 513) n 0 (0, 0) = (0, hk_ (s.1 513) n 0) := by
      unfold htG
      split
      · rename_i h0
        have : hk_ (s.1 513) n 0 = 0 := Nat.le_zero.mp h0
        rw [this]
      · rfl
    rw [e1, e2]
end LOOK
