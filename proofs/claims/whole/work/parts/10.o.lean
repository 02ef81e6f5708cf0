/-! COVER -/
section LOOK
variable {B : Nat} {s : mS}
def cvC (f : Nat → Int32) (v : Int32) (c : Nat) : Bool := decide (clU f c = nI 0) || !(decide (clU f c &&& v = nI 0))
def cvA (f : Nat → Int32) (n : Nat) (v : Int32) : Bool := al (cvC f v) n 0
theorem p56 {n : Nat} {f : Nat → Int32} (hn : n ≤ 5) (y0 : s.1 27 0 = nI n) (h1 : ∀ c, c < 5 → s.1 (27 + 1) c = f (49 + 5 * c)) (h2 : ∀ c, c < 5 → s.1 (27 + 2) c = f (49 + 5 * c + 1)) (v : Int32) : q56 v s = rv (b2 (cvA f n v)) s := by
  unfold q56
  rw [nI_lit]
  have := lp_fs (Q := fun m i => q56_2 m v i s) (p := fun c => !(cvC f v c)) (e := n) (no := rv (nI 1) s) (yes := fun _ => rv (nI 0) s) (fun m => by simp (disch := omega) only [q56_2, y0, nI_lit, nI_add, pk_mul, nI_clp, nI_eqv, nI_lev, nI_ltv, nI_neg, nI_neg', nI_subv, Nat.add_zero, Nat.zero_add, Nat.mul_zero, Nat.reduceAdd, bN_rv, bM_ru, bV_rv, bV_rx, bU_ru, bU_rx, bN_ite, bM_ite, bV_ite, bU_ite, ↓bx_e, ↓sp_e, gA_ok, gZ_n, gB_0, gB_1, gB_i, and_true, and_false, true_and, false_and, decide_true, decide_false, ↓reduceIte, not_true_eq_false, not_false_eq_true, Bool.false_eq_true, Bool.true_eq_false, Bool.and_true, Bool.and_false, Bool.true_and, Bool.false_and, Bool.or_true, Bool.or_false, Bool.true_or, Bool.false_or, Bool.not_true, Bool.not_false, le_f, le_t, lt_f, lt_t, eq_f, ↓reduceIte, not_true_eq_false, not_false_eq_true, ite_10, bt_0, bt_1]) (fun m i hi => by
    have k4 := p4 (s := s) (n := 0) (y := 27) (c := i) (f := f) (by omega) h1 h2
    unfold cvC
    simp (disch := omega) only [q56_2, q56_34, y0, k4, nI_lit, nI_add, pk_mul, nI_clp, nI_eqv, nI_lev, nI_ltv, nI_neg, nI_neg', nI_subv, Nat.add_zero, Nat.zero_add, Nat.mul_zero, Nat.reduceAdd, bN_rv, bM_ru, bV_rv, bV_rx, bU_ru, bU_rx, bN_ite, bM_ite, bV_ite, bU_ite, ↓bx_e, ↓sp_e, gA_ok, gZ_n, gB_0, gB_1, gB_i, and_true, and_false, true_and, false_and, decide_true, decide_false, ↓reduceIte, not_true_eq_false, not_false_eq_true, Bool.false_eq_true, Bool.true_eq_false, Bool.and_true, Bool.and_false, Bool.true_and, Bool.false_and, Bool.or_true, Bool.or_false, Bool.true_or, Bool.false_or, Bool.not_true, Bool.not_false, le_f, le_t, lt_f, lt_t, eq_f, ↓reduceIte, not_true_eq_false, not_false_eq_true, ite_10, bt_0, bt_1]
    by_cases q : clU f i = nI 0
    · simp only [q, and_true, and_false, true_and, false_and, decide_true, decide_false, ↓reduceIte, not_true_eq_false, not_false_eq_true, Bool.false_eq_true, Bool.true_eq_false, Bool.and_true, Bool.and_false, Bool.true_and, Bool.false_and, Bool.or_true, Bool.or_false, Bool.true_or, Bool.false_or, Bool.not_true, Bool.not_false]
    · by_cases q2 : clU f i &&& v = nI 0 <;> simp only [q, q2, and_true, and_false, true_and, false_and, decide_true, decide_false, ↓reduceIte, not_true_eq_false, not_false_eq_true, Bool.false_eq_true, Bool.true_eq_false, Bool.and_true, Bool.and_false, Bool.true_and, Bool.false_and, Bool.or_true, Bool.or_false, Bool.true_or, Bool.false_or, Bool.not_true, Bool.not_false]) n 0 10000 (by omega) (by omega)
  refine this.trans ((fs_al (x := rv (nI 1) s) (y := rv (nI 0) s) n 0).trans ?_)
  unfold cvA
  simp only [Bool.not_not]
  cases h : al (cvC f v) n 0 <;> simp only [show (fun k => cvC f v k) = cvC f v from rfl, h, b2_t, b2_f, and_true, and_false, true_and, false_and, decide_true, decide_false, ↓reduceIte, not_true_eq_false, not_false_eq_true, Bool.false_eq_true, Bool.true_eq_false, Bool.and_true, Bool.and_false, Bool.true_and, Bool.false_and, Bool.or_true, Bool.or_false, Bool.true_or, Bool.false_or, Bool.not_true, Bool.not_false]
theorem m310 {t : mS} {n : Nat} (hn : n ≤ 5) (f0 : t.1 513 0 = nI n) (v : Int32) : q310 v t = rv (b2 (cvA (t.1 513) n v)) t := by
  unfold q310
  rw [nI_lit, nI_lit]
  have : ∀ m i k, i + m = n → m + 1 < k → q310_4 k v (nI 1) (nI i) t = rv (b2 (al (cvC (t.1 513) v) m i)) t := by
    intro m
    induction m with
    | zero =>
      intro i k hi hk
      cases k with
      | zero => omega
      | succ k =>
        have : i = n := by omega
        subst this
        simp (disch := omega) only [q310_4, f0, al, b2_t, nI_lit, nI_add, pk_mul, nI_clp, nI_eqv, nI_lev, nI_ltv, nI_neg, nI_neg', nI_subv, Nat.add_zero, Nat.zero_add, Nat.mul_zero, Nat.reduceAdd, bN_rv, bM_ru, bV_rv, bV_rx, bU_ru, bU_rx, bN_ite, bM_ite, bV_ite, bU_ite, ↓bx_e, ↓sp_e, gA_ok, gZ_n, gB_0, gB_1, gB_i, and_true, and_false, true_and, false_and, decide_true, decide_false, ↓reduceIte, not_true_eq_false, not_false_eq_true, Bool.false_eq_true, Bool.true_eq_false, Bool.and_true, Bool.and_false, Bool.true_and, Bool.false_and, Bool.or_true, Bool.or_false, Bool.true_or, Bool.false_or, Bool.not_true, Bool.not_false, le_f, le_t, lt_f, lt_t, eq_f, ↓reduceIte, not_true_eq_false, not_false_eq_true, ite_10, bt_0, bt_1, q198, q199, q200, q201, q202, q203, q204, m190, m205, m206, b2_0, q189, q187]
    | succ m ih =>
      intro i k hi hk
      cases k with
      | zero => omega
      | succ k =>
        rw [al]
        cases hc : cvC (t.1 513) v i
        · rw [Bool.false_and]
          unfold cvC at hc
          rw [Bool.or_eq_false_iff] at hc
          have q1 : ¬ clU (t.1 513) i = nI 0 := of_decide_eq_false hc.1
          have q2 : clU (t.1 513) i &&& v = nI 0 := by
            have := hc.2
            rw [Bool.not_eq_false'] at this
            exact of_decide_eq_true this
          cases k with
          | zero => omega
          | succ k =>
            by_cases hl : n ≤ i + 1
            · simp (disch := omega) only [q310_4, q310_39, f0, m301, q1, q2, b2_f, nI_lit, nI_add, pk_mul, nI_clp, nI_eqv, nI_lev, nI_ltv, nI_neg, nI_neg', nI_subv, Nat.add_zero, Nat.zero_add, Nat.mul_zero, Nat.reduceAdd, bN_rv, bM_ru, bV_rv, bV_rx, bU_ru, bU_rx, bN_ite, bM_ite, bV_ite, bU_ite, ↓bx_e, ↓sp_e, gA_ok, gZ_n, gB_0, gB_1, gB_i, and_true, and_false, true_and, false_and, decide_true, decide_false, ↓reduceIte, not_true_eq_false, not_false_eq_true, Bool.false_eq_true, Bool.true_eq_false, Bool.and_true, Bool.and_false, Bool.true_and, Bool.false_and, Bool.or_true, Bool.or_false, Bool.true_or, Bool.false_or, Bool.not_true, Bool.not_false, le_f, le_t, lt_f, lt_t, eq_f, ↓reduceIte, not_true_eq_false, not_false_eq_true, ite_10, bt_0, bt_1, q198, q199, q200, q201, q202, q203, q204, m190, m205, m206, b2_0, q189, q187]
            · simp (disch := omega) only [q310_4, q310_39, f0, m301, q1, q2, b2_f, nI_lit, nI_add, pk_mul, nI_clp, nI_eqv, nI_lev, nI_ltv, nI_neg, nI_neg', nI_subv, Nat.add_zero, Nat.zero_add, Nat.mul_zero, Nat.reduceAdd, bN_rv, bM_ru, bV_rv, bV_rx, bU_ru, bU_rx, bN_ite, bM_ite, bV_ite, bU_ite, ↓bx_e, ↓sp_e, gA_ok, gZ_n, gB_0, gB_1, gB_i, and_true, and_false, true_and, false_and, decide_true, decide_false, ↓reduceIte, not_true_eq_false, not_false_eq_true, Bool.false_eq_true, Bool.true_eq_false, Bool.and_true, Bool.and_false, Bool.true_and, Bool.false_and, Bool.or_true, Bool.or_false, Bool.true_or, Bool.false_or, Bool.not_true, Bool.not_false, le_f, le_t, lt_f, lt_t, eq_f, ↓reduceIte, not_true_eq_false, not_false_eq_true, ite_10, bt_0, bt_1, q198, q199, q200, q201, q202, q203, q204, m190, m205, m206, b2_0, q189, q187]
        · rw [Bool.true_and, ← ih (i + 1) k (by omega) (by omega)]
          unfold cvC at hc
          by_cases q1 : clU (t.1 513) i = nI 0
          · simp (disch := omega) only [q310_4, q310_34, q310_39, f0, m301, q1, nI_lit, nI_add, pk_mul, nI_clp, nI_eqv, nI_lev, nI_ltv, nI_neg, nI_neg', nI_subv, Nat.add_zero, Nat.zero_add, Nat.mul_zero, Nat.reduceAdd, bN_rv, bM_ru, bV_rv, bV_rx, bU_ru, bU_rx, bN_ite, bM_ite, bV_ite, bU_ite, ↓bx_e, ↓sp_e, gA_ok, gZ_n, gB_0, gB_1, gB_i, and_true, and_false, true_and, false_and, decide_true, decide_false, ↓reduceIte, not_true_eq_false, not_false_eq_true, Bool.false_eq_true, Bool.true_eq_false, Bool.and_true, Bool.and_false, Bool.true_and, Bool.false_and, Bool.or_true, Bool.or_false, Bool.true_or, Bool.false_or, Bool.not_true, Bool.not_false, le_f, le_t, lt_f, lt_t, eq_f, ↓reduceIte, not_true_eq_false, not_false_eq_true, ite_10, bt_0, bt_1, q198, q199, q200, q201, q202, q203, q204, m190, m205, m206, b2_0, q189, q187]
          · have q2 : ¬ clU (t.1 513) i &&& v = nI 0 := fun q2 => by
              rw [decide_eq_false q1, decide_eq_true q2] at hc; cases hc
            simp (disch := omega) only [q310_4, q310_34, q310_39, f0, m301, q1, q2, nI_lit, nI_add, pk_mul, nI_clp, nI_eqv, nI_lev, nI_ltv, nI_neg, nI_neg', nI_subv, Nat.add_zero, Nat.zero_add, Nat.mul_zero, Nat.reduceAdd, bN_rv, bM_ru, bV_rv, bV_rx, bU_ru, bU_rx, bN_ite, bM_ite, bV_ite, bU_ite, ↓bx_e, ↓sp_e, gA_ok, gZ_n, gB_0, gB_1, gB_i, and_true, and_false, true_and, false_and, decide_true, decide_false, ↓reduceIte, not_true_eq_false, not_false_eq_true, Bool.false_eq_true, Bool.true_eq_false, Bool.and_true, Bool.and_false, Bool.true_and, Bool.false_and, Bool.or_true, Bool.or_false, Bool.true_or, Bool.false_or, Bool.not_true, Bool.not_false, le_f, le_t, lt_f, lt_t, eq_f, ↓reduceIte, not_true_eq_false, not_false_eq_true, ite_10, bt_0, bt_1, q198, q199, q200, q201, q202, q203, q204, m190, m205, m206, b2_0, q189, q187]
  exact this n 0 10000 (by omega) (by omega)
theorem bc10 : ∀ v, v < 1023 → ¬ bc (nI 1023) ≤ bc (nI v) := by decide +kernel
theorem bc10' : ∀ v, v < 1024 → bc (nI v) ≤ bc (nI 1023) := by decide +kernel
def cvG (f : Nat → Int32) (n v : Nat) (b : Int32) : Int32 := if bc b ≤ bc (nI v) then b else if cvA f n (nI v) = true then nI v else b
theorem cvG_k {f : Nat → Int32} {n v : Nat} {b : Int32} (h : bc b ≤ bc (nI v)) : cvG f n v b = b := if_pos h
theorem cvG_t {f : Nat → Int32} {n v : Nat} {b : Int32} (h : ¬ bc b ≤ bc (nI v)) (hc : cvA f n (nI v) = true) : cvG f n v b = nI v := by unfold cvG; rw [if_neg h, if_pos hc]
theorem cvG_f {f : Nat → Int32} {n v : Nat} {b : Int32} (h : ¬ bc b ≤ bc (nI v)) (hc : cvA f n (nI v) = false) : cvG f n v b = b := by unfold cvG; rw [if_neg h, hc]; rfl
theorem b_1023 : ∀ i, i < 32 → bt (nI 1023) i = decide (i < 10) := by decide
theorem z_cover (hG : G B s) : ZN B q157 q311 s := by
  have hG0 := hG
  obtain ⟨⟨hR, hL, T, hT, hA⟩, -⟩ := hG0
  have hA2 := hA.1.2.1
  obtain ⟨n, hn, f0, y0, -, y1, y2, -, -⟩ := hR.2.1
  have k56 := fun v => p56 (s := s) hn y0 y1 y2 v
  simp only [Nat.reduceAdd] at y0
  refine ZN_0 (v := fo (cvG (s.1 513) n) 1024 0 (nI 1023)) hG ?_ (fun t ht => ?_)
  · unfold q157 q55
    rw [nI_lit, nI_lit]
    have := lp_fo (Q := fun k b v => q55_6 k b v s) (g := cvG (s.1 513) n) (e := 1024) (out := fun b => rv b s) (fun k b => by
      simp (disch := omega) only [q55_6, nI_lit, nI_add, pk_mul, nI_clp, nI_eqv, nI_lev, nI_ltv, nI_neg, nI_neg', nI_subv, Nat.add_zero, Nat.zero_add, Nat.mul_zero, Nat.reduceAdd, bN_rv, bM_ru, bV_rv, bV_rx, bU_ru, bU_rx, bN_ite, bM_ite, bV_ite, bU_ite, ↓bx_e, ↓sp_e, gA_ok, gZ_n, gB_0, gB_1, gB_i, and_true, and_false, true_and, false_and, decide_true, decide_false, ↓reduceIte, not_true_eq_false, not_false_eq_true, Bool.false_eq_true, Bool.true_eq_false, Bool.and_true, Bool.and_false, Bool.true_and, Bool.false_and, Bool.or_true, Bool.or_false, Bool.true_or, Bool.false_or, Bool.not_true, Bool.not_false, le_f, le_t, lt_f, lt_t, eq_f, ↓reduceIte, not_true_eq_false, not_false_eq_true, ite_10, bt_0, bt_1]) (fun k v b hv => by
      unfold cvG
      simp (disch := omega) only [q55_6, q55_34, q343_e, k56, b2_0, nI_lit, nI_add, pk_mul, nI_clp, nI_eqv, nI_lev, nI_ltv, nI_neg, nI_neg', nI_subv, Nat.add_zero, Nat.zero_add, Nat.mul_zero, Nat.reduceAdd, bN_rv, bM_ru, bV_rv, bV_rx, bU_ru, bU_rx, bN_ite, bM_ite, bV_ite, bU_ite, ↓bx_e, ↓sp_e, gA_ok, gZ_n, gB_0, gB_1, gB_i, and_true, and_false, true_and, false_and, decide_true, decide_false, ↓reduceIte, not_true_eq_false, not_false_eq_true, Bool.false_eq_true, Bool.true_eq_false, Bool.and_true, Bool.and_false, Bool.true_and, Bool.false_and, Bool.or_true, Bool.or_false, Bool.true_or, Bool.false_or, Bool.not_true, Bool.not_false, le_f, le_t, lt_f, lt_t, eq_f, ↓reduceIte, not_true_eq_false, not_false_eq_true, ite_10, bt_0, bt_1]
      by_cases q : bc b ≤ bc (nI v)
      · simp only [q, and_true, and_false, true_and, false_and, decide_true, decide_false, ↓reduceIte, not_true_eq_false, not_false_eq_true, Bool.false_eq_true, Bool.true_eq_false, Bool.and_true, Bool.and_false, Bool.true_and, Bool.false_and, Bool.or_true, Bool.or_false, Bool.true_or, Bool.false_or, Bool.not_true, Bool.not_false]
      · simp only [q, and_true, and_false, true_and, false_and, decide_true, decide_false, ↓reduceIte, not_true_eq_false, not_false_eq_true, Bool.false_eq_true, Bool.true_eq_false, Bool.and_true, Bool.and_false, Bool.true_and, Bool.false_and, Bool.or_true, Bool.or_false, Bool.true_or, Bool.false_or, Bool.not_true, Bool.not_false]
        cases cvA (s.1 513) n (nI v) <;> simp only [and_true, and_false, true_and, false_and, decide_true, decide_false, ↓reduceIte, not_true_eq_false, not_false_eq_true, Bool.false_eq_true, Bool.true_eq_false, Bool.and_true, Bool.and_false, Bool.true_and, Bool.false_and, Bool.or_true, Bool.or_false, Bool.true_or, Bool.false_or, Bool.not_true, Bool.not_false]) (nI 1023) 10000 (by omega)
    rw [this, bN_rv]
  · have e5 : (sI t 512 0 (nI 0)).1 513 = s.1 513 := by rw [t0_513, ht]
    have f0' : (sI t 512 0 (nI 0)).1 513 0 = nI n := by rw [e5]; exact f0
    unfold q311
    rw [nI_lit, nI_lit]; simp only [sp_e]
    generalize sI t 512 0 (nI 0) = u at *
    have k310 := fun v => m310 (t := u) hn f0' v
    rw [e5] at k310
    have full : cvA (s.1 513) n (nI 1023) = true := by
      unfold cvA
      rw [al_iff]
      intro c _ hc
      unfold cvC
      obtain ⟨_, _, _, _, _, hb, _⟩ := hA2
      have : clU (s.1 513) c &&& nI 1023 = clU (s.1 513) c := b_ext fun i hi => by
        rw [b_and, b_1023 i hi]
        by_cases h10 : i < 10
        · rw [decide_eq_true h10, Bool.and_true]
        · have := hb c i (by omega) (by omega)
          unfold clU
          rw [b_or, this.1, this.2]; rfl
      rw [this]
      cases decide (clU (s.1 513) c = nI 0) <;> rfl
    have key : ∀ m i k (a b : Int32), i + m = 1024 → ((i < 1024 ∧ a = -nI 1 ∧ b = nI 1023) ∨ ∃ j, j < 1024 ∧ a = nI j ∧ b = nI j) → m < k → q311_9 k a (nI i) u = rv (fo (cvG (s.1 513) n) m i b) u := by
      intro m
      induction m with
      | zero =>
        intro i k a b hi hab hk
        cases k with
        | zero => omega
        | succ k =>
          have : i = 1024 := by omega
          subst this
          rcases hab with ⟨h, _⟩ | ⟨j, hj, e1, e2⟩
          · omega
          · subst e1; subst e2
            simp (disch := omega) only [q311_9, fo, nI_lit, nI_add, pk_mul, nI_clp, nI_eqv, nI_lev, nI_ltv, nI_neg, nI_neg', nI_subv, Nat.add_zero, Nat.zero_add, Nat.mul_zero, Nat.reduceAdd, bN_rv, bM_ru, bV_rv, bV_rx, bU_ru, bU_rx, bN_ite, bM_ite, bV_ite, bU_ite, ↓bx_e, ↓sp_e, gA_ok, gZ_n, gB_0, gB_1, gB_i, and_true, and_false, true_and, false_and, decide_true, decide_false, ↓reduceIte, not_true_eq_false, not_false_eq_true, Bool.false_eq_true, Bool.true_eq_false, Bool.and_true, Bool.and_false, Bool.true_and, Bool.false_and, Bool.or_true, Bool.or_false, Bool.true_or, Bool.false_or, Bool.not_true, Bool.not_false, le_f, le_t, lt_f, lt_t, eq_f, ↓reduceIte, not_true_eq_false, not_false_eq_true, ite_10, bt_0, bt_1]
      | succ m ih =>
        intro i k a b hi hab hk
        cases k with
        | zero => omega
        | succ k =>
          rw [fo]
          rcases hab with ⟨h, e1, e2⟩ | ⟨j, hj, e1, e2⟩
          · subst e1; subst e2
            have hne : (-nI 1 = -nI 1) = True := eq_self _
            by_cases hl : i = 1023
            · subst hl
              have hg : cvG (s.1 513) n 1023 (nI 1023) = nI 1023 := by
                unfold cvG; rw [if_pos (Int32.le_refl _)]
              rw [hg, ← ih 1024 k (nI 1023) (nI 1023) (by omega) (Or.inr ⟨1023, by omega, rfl, rfl⟩) (by omega)]
              simp (disch := omega) only [q311_9, q311_32, q311_45, k310, full, b2_0, nI_lit, nI_add, pk_mul, nI_clp, nI_eqv, nI_lev, nI_ltv, nI_neg, nI_neg', nI_subv, Nat.add_zero, Nat.zero_add, Nat.mul_zero, Nat.reduceAdd, bN_rv, bM_ru, bV_rv, bV_rx, bU_ru, bU_rx, bN_ite, bM_ite, bV_ite, bU_ite, ↓bx_e, ↓sp_e, gA_ok, gZ_n, gB_0, gB_1, gB_i, and_true, and_false, true_and, false_and, decide_true, decide_false, ↓reduceIte, not_true_eq_false, not_false_eq_true, Bool.false_eq_true, Bool.true_eq_false, Bool.and_true, Bool.and_false, Bool.true_and, Bool.false_and, Bool.or_true, Bool.or_false, Bool.true_or, Bool.false_or, Bool.not_true, Bool.not_false, le_f, le_t, lt_f, lt_t, eq_f, ↓reduceIte, not_true_eq_false, not_false_eq_true, ite_10, bt_0, bt_1]
            · have q := bc10 i (by omega)
              cases hc : cvA (s.1 513) n (nI i)
              · rw [cvG_f q hc, ← ih (i + 1) k (-nI 1) (nI 1023) (by omega) (Or.inl ⟨by omega, rfl, rfl⟩) (by omega)]
                simp (disch := omega) only [q311_9, q311_32, q311_44, q311_45, k310, hc, b2_0, nI_lit, nI_add, pk_mul, nI_clp, nI_eqv, nI_lev, nI_ltv, nI_neg, nI_neg', nI_subv, Nat.add_zero, Nat.zero_add, Nat.mul_zero, Nat.reduceAdd, bN_rv, bM_ru, bV_rv, bV_rx, bU_ru, bU_rx, bN_ite, bM_ite, bV_ite, bU_ite, ↓bx_e, ↓sp_e, gA_ok, gZ_n, gB_0, gB_1, gB_i, and_true, and_false, true_and, false_and, decide_true, decide_false, ↓reduceIte, not_true_eq_false, not_false_eq_true, Bool.false_eq_true, Bool.true_eq_false, Bool.and_true, Bool.and_false, Bool.true_and, Bool.false_and, Bool.or_true, Bool.or_false, Bool.true_or, Bool.false_or, Bool.not_true, Bool.not_false, le_f, le_t, lt_f, lt_t, eq_f, ↓reduceIte, not_true_eq_false, not_false_eq_true, ite_10, bt_0, bt_1]
              · rw [cvG_t q hc, ← ih (i + 1) k (nI i) (nI i) (by omega) (Or.inr ⟨i, by omega, rfl, rfl⟩) (by omega)]
                simp (disch := omega) only [q311_9, q311_32, q311_44, q311_45, k310, hc, b2_0, nI_lit, nI_add, pk_mul, nI_clp, nI_eqv, nI_lev, nI_ltv, nI_neg, nI_neg', nI_subv, Nat.add_zero, Nat.zero_add, Nat.mul_zero, Nat.reduceAdd, bN_rv, bM_ru, bV_rv, bV_rx, bU_ru, bU_rx, bN_ite, bM_ite, bV_ite, bU_ite, ↓bx_e, ↓sp_e, gA_ok, gZ_n, gB_0, gB_1, gB_i, and_true, and_false, true_and, false_and, decide_true, decide_false, ↓reduceIte, not_true_eq_false, not_false_eq_true, Bool.false_eq_true, Bool.true_eq_false, Bool.and_true, Bool.and_false, Bool.true_and, Bool.false_and, Bool.or_true, Bool.or_false, Bool.true_or, Bool.false_or, Bool.not_true, Bool.not_false, le_f, le_t, lt_f, lt_t, eq_f, ↓reduceIte, not_true_eq_false, not_false_eq_true, ite_10, bt_0, bt_1]
          · subst e1; subst e2
            by_cases q : bc (nI j) ≤ bc (nI i)
            · rw [cvG_k q, ← ih (i + 1) k (nI j) (nI j) (by omega) (Or.inr ⟨j, hj, rfl, rfl⟩) (by omega)]
              simp (disch := omega) only [q311_9, q311_32, q311_44, q311_45, q343_e, q, nI_lit, nI_add, pk_mul, nI_clp, nI_eqv, nI_lev, nI_ltv, nI_neg, nI_neg', nI_subv, Nat.add_zero, Nat.zero_add, Nat.mul_zero, Nat.reduceAdd, bN_rv, bM_ru, bV_rv, bV_rx, bU_ru, bU_rx, bN_ite, bM_ite, bV_ite, bU_ite, ↓bx_e, ↓sp_e, gA_ok, gZ_n, gB_0, gB_1, gB_i, and_true, and_false, true_and, false_and, decide_true, decide_false, ↓reduceIte, not_true_eq_false, not_false_eq_true, Bool.false_eq_true, Bool.true_eq_false, Bool.and_true, Bool.and_false, Bool.true_and, Bool.false_and, Bool.or_true, Bool.or_false, Bool.true_or, Bool.false_or, Bool.not_true, Bool.not_false, le_f, le_t, lt_f, lt_t, eq_f, ↓reduceIte, not_true_eq_false, not_false_eq_true, ite_10, bt_0, bt_1]
            · cases hc : cvA (s.1 513) n (nI i)
              · rw [cvG_f q hc, ← ih (i + 1) k (nI j) (nI j) (by omega) (Or.inr ⟨j, hj, rfl, rfl⟩) (by omega)]
                simp (disch := omega) only [q311_9, q311_32, q311_44, q311_45, q343_e, q, k310, hc, b2_0, nI_lit, nI_add, pk_mul, nI_clp, nI_eqv, nI_lev, nI_ltv, nI_neg, nI_neg', nI_subv, Nat.add_zero, Nat.zero_add, Nat.mul_zero, Nat.reduceAdd, bN_rv, bM_ru, bV_rv, bV_rx, bU_ru, bU_rx, bN_ite, bM_ite, bV_ite, bU_ite, ↓bx_e, ↓sp_e, gA_ok, gZ_n, gB_0, gB_1, gB_i, and_true, and_false, true_and, false_and, decide_true, decide_false, ↓reduceIte, not_true_eq_false, not_false_eq_true, Bool.false_eq_true, Bool.true_eq_false, Bool.and_true, Bool.and_false, Bool.true_and, Bool.false_and, Bool.or_true, Bool.or_false, Bool.true_or, Bool.false_or, Bool.not_true, Bool.not_false, le_f, le_t, lt_f, lt_t, eq_f, ↓reduceIte, not_true_eq_false, not_false_eq_true, ite_10, bt_0, bt_1]
              · rw [cvG_t q hc, ← ih (i + 1) k (nI i) (nI i) (by omega) (Or.inr ⟨i, by omega, rfl, rfl⟩) (by omega)]
                simp (disch := omega) only [q311_9, q311_32, q311_44, q311_45, q343_e, q, k310, hc, b2_0, nI_lit, nI_add, pk_mul, nI_clp, nI_eqv, nI_lev, nI_ltv, nI_neg, nI_neg', nI_subv, Nat.add_zero, Nat.zero_add, Nat.mul_zero, Nat.reduceAdd, bN_rv, bM_ru, bV_rv, bV_rx, bU_ru, bU_rx, bN_ite, bM_ite, bV_ite, bU_ite, ↓bx_e, ↓sp_e, gA_ok, gZ_n, gB_0, gB_1, gB_i, and_true, and_false, true_and, false_and, decide_true, decide_false, ↓reduceIte, not_true_eq_false, not_false_eq_true, Bool.false_eq_true, Bool.true_eq_false, Bool.and_true, Bool.and_false, Bool.true_and, Bool.false_and, Bool.or_true, Bool.or_false, Bool.true_or, Bool.false_or, Bool.not_true, Bool.not_false, le_f, le_t, lt_f, lt_t, eq_f, ↓reduceIte, not_true_eq_false, not_false_eq_true, ite_10, bt_0, bt_1]
    exact key 1024 0 10000 (-nI 1) (nI 1023) (by omega) (Or.inl ⟨by omega, rfl, rfl⟩) (by omega)
end LOOK
