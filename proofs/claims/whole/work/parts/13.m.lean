/-! THE LAW'S TEXT: all lines -/
section RLN
variable {b : Nat → Nat} {L : Nat}
theorem m238 {t : mS} {p c n : Nat} (h : TB b L t) (hp : t.1 512 10 = nI (lw b L p)) (hg : t.1 512 12 = nI p) (h16 : t.1 512 16 = nI c) (hpL : p ≤ L) (hc : c ≤ p) (hn : n < 12) : LQ b L t n c (q238 (nI n) t) (lineS b L p) := by
  have k9 := m218 (tx := 9) h hp hg hpL (by omega) (by omega) (by omega)
  have k10 := m218 (tx := 10) h hp hg hpL (by omega) (by omega) (by omega)
  have k11 := m218 (tx := 11) h hp hg hpL (by omega) (by omega) (by omega)
  have yes : ∀ k, kindS b L p = some k → q238 (nI n) t = q238_53 (nI (1620 + 4 * n)) (nI (1620 + 4 * n)) (nI k) t → LQ b L t n c (q238 (nI n) t) (lineS b L p) := fun k hk e => by
    obtain ⟨x1, x2, x3⟩ := kind_l hpL hk
    have := m238_53 (k := k) h hp h16 hpL x1 hc hn x3
    unfold lineS
    rw [hk, e]
    exact this
  cases e9 : wd b L 9 p with
  | true =>
    rw [e9, b2_t] at k9
    refine yes 0 (by unfold kindS; rw [e9]; rfl) ?_
    unfold q238
    simp (disch := omega) only [k9, nI_lit, nI_add, pk_mul, nI_clp, nI_eqv, nI_lev, nI_ltv, nI_neg, nI_neg', nI_subv, Nat.add_zero, Nat.zero_add, Nat.mul_zero, Nat.reduceAdd, bN_rv, bM_ru, bV_rv, bV_rx, bU_ru, bU_rx, bN_ite, bM_ite, bV_ite, bU_ite, ↓bx_e, ↓sp_e, gA_ok, gZ_n, gB_0, gB_1, gB_i, and_true, and_false, true_and, false_and, decide_true, decide_false, ↓reduceIte, not_true_eq_false, not_false_eq_true, Bool.false_eq_true, Bool.true_eq_false, Bool.and_true, Bool.and_false, Bool.true_and, Bool.false_and, Bool.or_true, Bool.or_false, Bool.true_or, Bool.false_or, Bool.not_true, Bool.not_false, le_f, le_t, lt_f, lt_t, eq_f, ↓reduceIte, not_true_eq_false, not_false_eq_true, ite_10, bt_0, bt_1]
  | false =>
    rw [e9, b2_f] at k9
    cases e10 : wd b L 10 p with
    | true =>
      rw [e10, b2_t] at k10
      refine yes 1 (by unfold kindS; rw [e9, e10]; rfl) ?_
      unfold q238
      simp (disch := omega) only [k9, k10, nI_lit, nI_add, pk_mul, nI_clp, nI_eqv, nI_lev, nI_ltv, nI_neg, nI_neg', nI_subv, Nat.add_zero, Nat.zero_add, Nat.mul_zero, Nat.reduceAdd, bN_rv, bM_ru, bV_rv, bV_rx, bU_ru, bU_rx, bN_ite, bM_ite, bV_ite, bU_ite, ↓bx_e, ↓sp_e, gA_ok, gZ_n, gB_0, gB_1, gB_i, and_true, and_false, true_and, false_and, decide_true, decide_false, ↓reduceIte, not_true_eq_false, not_false_eq_true, Bool.false_eq_true, Bool.true_eq_false, Bool.and_true, Bool.and_false, Bool.true_and, Bool.false_and, Bool.or_true, Bool.or_false, Bool.true_or, Bool.false_or, Bool.not_true, Bool.not_false, le_f, le_t, lt_f, lt_t, eq_f, ↓reduceIte, not_true_eq_false, not_false_eq_true, ite_10, bt_0, bt_1]
    | false =>
      rw [e10, b2_f] at k10
      cases e11 : wd b L 11 p with
      | true =>
        rw [e11, b2_t] at k11
        refine yes 2 (by unfold kindS; rw [e9, e10, e11]; rfl) ?_
        unfold q238
        simp (disch := omega) only [k9, k10, k11, nI_lit, nI_add, pk_mul, nI_clp, nI_eqv, nI_lev, nI_ltv, nI_neg, nI_neg', nI_subv, Nat.add_zero, Nat.zero_add, Nat.mul_zero, Nat.reduceAdd, bN_rv, bM_ru, bV_rv, bV_rx, bU_ru, bU_rx, bN_ite, bM_ite, bV_ite, bU_ite, ↓bx_e, ↓sp_e, gA_ok, gZ_n, gB_0, gB_1, gB_i, and_true, and_false, true_and, false_and, decide_true, decide_false, ↓reduceIte, not_true_eq_false, not_false_eq_true, Bool.false_eq_true, Bool.true_eq_false, Bool.and_true, Bool.and_false, Bool.true_and, Bool.false_and, Bool.or_true, Bool.or_false, Bool.true_or, Bool.false_or, Bool.not_true, Bool.not_false, le_f, le_t, lt_f, lt_t, eq_f, ↓reduceIte, not_true_eq_false, not_false_eq_true, ite_10, bt_0, bt_1]
      | false =>
        rw [e11, b2_f] at k11
        have hk : kindS b L p = none := by unfold kindS; rw [e9, e10, e11]; rfl
        unfold lineS
        rw [hk]
        have e0 : (sI t 513 (1620 + 4 * n) (-nI 1)).1 513 (1620 + 4 * n) = -nI 1 := by rw [sI_sm, ud_e rfl]
        have m0 : (nI 0 ≤ -nI 1) = False := eq_false (by decide)
        refine ⟨sI t 513 (1620 + 4 * n) (-nI 1), ?_, FL_I (by omega), by rw [sI_fn (by omega)]; exact hg⟩
        unfold q238 q238_53
        simp (disch := omega) only [k9, k10, k11, e0, m0, nI_lit, nI_add, pk_mul, nI_clp, nI_eqv, nI_lev, nI_ltv, nI_neg, nI_neg', nI_subv, Nat.add_zero, Nat.zero_add, Nat.mul_zero, Nat.reduceAdd, bN_rv, bM_ru, bV_rv, bV_rx, bU_ru, bU_rx, bN_ite, bM_ite, bV_ite, bU_ite, ↓bx_e, ↓sp_e, gA_ok, gZ_n, gB_0, gB_1, gB_i, and_true, and_false, true_and, false_and, decide_true, decide_false, ↓reduceIte, not_true_eq_false, not_false_eq_true, Bool.false_eq_true, Bool.true_eq_false, Bool.and_true, Bool.and_false, Bool.true_and, Bool.false_and, Bool.or_true, Bool.or_false, Bool.true_or, Bool.false_or, Bool.not_true, Bool.not_false, le_f, le_t, lt_f, lt_t, eq_f, ↓reduceIte, not_true_eq_false, not_false_eq_true, ite_10, bt_0, bt_1]
theorem m239 {t : mS} {p c n : Nat} (h : TB b L t) (hp : AtP b L t p) (h16 : t.1 512 16 = nI c) (hc : c ≤ p) (hn : n < 12) : LQ b L t n c (q239 (nI 0) (nI n) t) (lineS b L p) := by
  obtain ⟨pL, ps⟩ := AtP_l hp
  obtain ⟨q, q1, q2, q3⟩ := hp
  have k := m217 h q2 q1
  rw [q3] at k
  have k2 := m238 (p := p) (n := n) (tB_T (p := lw b L p) (g := p) h) tB_p tB_g (by rw [tB_j (by omega)]; exact h16) pL hc hn
  have eg : ∀ j, gD (tB t (lw b L p) p) j = gD t j := fun j => by unfold gD; rw [tB_n (by omega)]
  cases e : lineS b L p with
  | inl f =>
    rw [e] at k2
    obtain ⟨t', a1, a2, a3⟩ := k2
    refine ⟨t', ?_, FL_t (FL_D FD_B) a2, a3⟩
    unfold q239 q239_16
    simp (disch := omega) only [k, a1, nI_lit, nI_add, pk_mul, nI_clp, nI_eqv, nI_lev, nI_ltv, nI_neg, nI_neg', nI_subv, Nat.add_zero, Nat.zero_add, Nat.mul_zero, Nat.reduceAdd, bN_rv, bM_ru, bV_rv, bV_rx, bU_ru, bU_rx, bN_ite, bM_ite, bV_ite, bU_ite, ↓bx_e, ↓sp_e, gA_ok, gZ_n, gB_0, gB_1, gB_i, and_true, and_false, true_and, false_and, decide_true, decide_false, ↓reduceIte, not_true_eq_false, not_false_eq_true, Bool.false_eq_true, Bool.true_eq_false, Bool.and_true, Bool.and_false, Bool.true_and, Bool.false_and, Bool.or_true, Bool.or_false, Bool.true_or, Bool.false_or, Bool.not_true, Bool.not_false, le_f, le_t, lt_f, lt_t, eq_f, ↓reduceIte, not_true_eq_false, not_false_eq_true, ite_10, bt_0, bt_1]
  | inr x =>
    rw [e] at k2
    obtain ⟨t', a1, a2, a3, a4, a5, a6, a7⟩ := k2
    refine ⟨t', ?_, FL_t (FL_D FD_B) a2, a3, a4, a5, fun j x y => by rw [a6 j x y, eg], fun j x y => by rw [a7 j x y, eg]⟩
    unfold q239 q239_16 q239_41
    simp (disch := omega) only [k, a1, nI_lit, nI_add, pk_mul, nI_clp, nI_eqv, nI_lev, nI_ltv, nI_neg, nI_neg', nI_subv, Nat.add_zero, Nat.zero_add, Nat.mul_zero, Nat.reduceAdd, bN_rv, bM_ru, bV_rv, bV_rx, bU_ru, bU_rx, bN_ite, bM_ite, bV_ite, bU_ite, ↓bx_e, ↓sp_e, gA_ok, gZ_n, gB_0, gB_1, gB_i, and_true, and_false, true_and, false_and, decide_true, decide_false, ↓reduceIte, not_true_eq_false, not_false_eq_true, Bool.false_eq_true, Bool.true_eq_false, Bool.and_true, Bool.and_false, Bool.true_and, Bool.false_and, Bool.or_true, Bool.or_false, Bool.true_or, Bool.false_or, Bool.not_true, Bool.not_false, le_f, le_t, lt_f, lt_t, eq_f, ↓reduceIte, not_true_eq_false, not_false_eq_true, ite_10, bt_0, bt_1]
theorem m239_x {t : mS} {p : Nat} (h : TB b L t) (hp : AtP b L t p) : ∃ t', q239 (nI 0) (nI 12) t = rv (nI 0) t' ∧ FL t t' ∧ t'.1 512 12 = nI p := by
  obtain ⟨q, q1, q2, q3⟩ := hp
  have k := m217 h q2 q1
  rw [q3] at k
  refine ⟨tB t (lw b L p) p, ?_, FL_D FD_B, tB_g⟩
  unfold q239 q239_16
  simp (disch := omega) only [k, nI_lit, nI_add, pk_mul, nI_clp, nI_eqv, nI_lev, nI_ltv, nI_neg, nI_neg', nI_subv, Nat.add_zero, Nat.zero_add, Nat.mul_zero, Nat.reduceAdd, bN_rv, bM_ru, bV_rv, bV_rx, bU_ru, bU_rx, bN_ite, bM_ite, bV_ite, bU_ite, ↓bx_e, ↓sp_e, gA_ok, gZ_n, gB_0, gB_1, gB_i, and_true, and_false, true_and, false_and, decide_true, decide_false, ↓reduceIte, not_true_eq_false, not_false_eq_true, Bool.false_eq_true, Bool.true_eq_false, Bool.and_true, Bool.and_false, Bool.true_and, Bool.false_and, Bool.or_true, Bool.or_false, Bool.true_or, Bool.false_or, Bool.not_true, Bool.not_false, le_f, le_t, lt_f, lt_t, eq_f, ↓reduceIte, not_true_eq_false, not_false_eq_true, ite_10, bt_0, bt_1]
theorem m240_28 {K : Int32 → mS → Option mQ} : ∀ m n p ls t N, m + n = 12 → m < N → TB b L t → AtP b L t p → t.1 512 16 = nI (tot ls) → ls.length = n → tot ls ≤ p → LF (gD t) 0 0 ls → (∀ x, x ∈ ls → OKn x) → (match lawR b L m p ls with
    | .inl f => ∃ t', q240_28 K N (nI 0) (nI n) t = rv (-nI 1) t' ∧ FL t t' ∧ t'.1 512 12 = nI f
    | .inr ls' => ∃ t', q240_28 K N (nI 0) (nI n) t = K (nI (ls'.length - 1)) t' ∧ FL t t' ∧ LF (gD t') 0 0 ls' ∧ ls'.length ≤ 12 ∧ 1 ≤ ls'.length ∧ tot ls' ≤ 400 ∧ ∀ x, x ∈ ls' → OKn x) := by
  intro m
  induction m with
  | zero =>
    intro n p ls t N hmn hN hT hA h16 hl ht hF hO
    obtain ⟨N, rfl⟩ : ∃ N', N = N' + 1 := ⟨N - 1, by omega⟩
    have : n = 12 := by omega
    subst this
    obtain ⟨t', a1, a2, a3⟩ := m239_x hT hA
    rw [lawR]
    refine ⟨t', ?_, a2, a3⟩
    rw [q240_28]
    simp (disch := omega) only [a1, nI_lit, nI_add, pk_mul, nI_clp, nI_eqv, nI_lev, nI_ltv, nI_neg, nI_neg', nI_subv, Nat.add_zero, Nat.zero_add, Nat.mul_zero, Nat.reduceAdd, bN_rv, bM_ru, bV_rv, bV_rx, bU_ru, bU_rx, bN_ite, bM_ite, bV_ite, bU_ite, ↓bx_e, ↓sp_e, gA_ok, gZ_n, gB_0, gB_1, gB_i, and_true, and_false, true_and, false_and, decide_true, decide_false, ↓reduceIte, not_true_eq_false, not_false_eq_true, Bool.false_eq_true, Bool.true_eq_false, Bool.and_true, Bool.and_false, Bool.true_and, Bool.false_and, Bool.or_true, Bool.or_false, Bool.true_or, Bool.false_or, Bool.not_true, Bool.not_false, le_f, le_t, lt_f, lt_t, eq_f, ↓reduceIte, not_true_eq_false, not_false_eq_true, ite_10, bt_0, bt_1]
  | succ m ih =>
    intro n p ls t N hmn hN hT hA h16 hl ht hF hO
    obtain ⟨N, rfl⟩ : ∃ N', N = N' + 1 := ⟨N - 1, by omega⟩
    obtain ⟨pL, ps⟩ := AtP_l hA
    have hL := hT.1
    have k := m239 (n := n) hT hA h16 ht (by omega)
    have kk := line_k (b := b) pL ps
    rw [lawR]
    cases e : lineS b L p with
    | inl f =>
      rw [e] at k
      obtain ⟨t', a1, a2, a3⟩ := k
      refine ⟨t', ?_, a2, a3⟩
      rw [q240_28]
      simp (disch := omega) only [a1, nI_lit, nI_add, pk_mul, nI_clp, nI_eqv, nI_lev, nI_ltv, nI_neg, nI_neg', nI_subv, Nat.add_zero, Nat.zero_add, Nat.mul_zero, Nat.reduceAdd, bN_rv, bM_ru, bV_rv, bV_rx, bU_ru, bU_rx, bN_ite, bM_ite, bV_ite, bU_ite, ↓bx_e, ↓sp_e, gA_ok, gZ_n, gB_0, gB_1, gB_i, and_true, and_false, true_and, false_and, decide_true, decide_false, ↓reduceIte, not_true_eq_false, not_false_eq_true, Bool.false_eq_true, Bool.true_eq_false, Bool.and_true, Bool.and_false, Bool.true_and, Bool.false_and, Bool.or_true, Bool.or_false, Bool.true_or, Bool.false_or, Bool.not_true, Bool.not_false, le_f, le_t, lt_f, lt_t, eq_f, ↓reduceIte, not_true_eq_false, not_false_eq_true, ite_10, bt_0, bt_1]
    | inr y =>
      rw [e] at k kk
      obtain ⟨t1, a1, a2, a3, a4, a5, a6, a7⟩ := k
      obtain ⟨o1, o2, o3, o4⟩ := kk
      have hT1 := TB_L hT a2
      obtain ⟨q, q1, q2, q3⟩ := a3
      have k16 := m216 hT1 q2 q1
      rw [q3] at k16
      have e11 : (tB t1 y.1 y.1).1 512 11 = nI L := (tB_T hT1).2.2.1
      have hF1 : LF (gD t1) 0 0 (ls ++ [y.2]) := LF_a ls 0 0 (LF_c ls 0 0 hF (by omega) (fun j u v => a6 j u (by omega)) (fun j u v => a7 j u (by omega))) (by rw [Nat.zero_add, Nat.zero_add, hl]; exact a5)
      have hO1 : ∀ x, x ∈ ls ++ [y.2] → OKn x := fun x hx => by
        rcases List.mem_append.mp hx with q | q
        · exact hO x q
        · simp only [List.mem_singleton] at q; subst q; exact o4
      have eg : ∀ z g, gD (tB t1 z g) = gD t1 := fun z g => by funext j; unfold gD; rw [tB_n (by omega)]
      dsimp only
      by_cases eL : y.1 = L
      · rw [if_pos eL]
        refine ⟨tB t1 y.1 y.1, ?_, FL_t a2 (FL_D FD_B), by rw [eg]; exact hF1, by rw [List.length_append, hl]; show n + 1 ≤ 12; omega, by rw [List.length_append]; show 1 ≤ _ + 1; omega, by rw [tot_a]; omega, hO1⟩
        rw [List.length_append, hl, show n + [y.2].length - 1 = n from rfl, q240_28]
        rw [eL] at e11
        simp (disch := omega) only [a1, k16, tB_p, e11, eL, nI_lit, nI_add, pk_mul, nI_clp, nI_eqv, nI_lev, nI_ltv, nI_neg, nI_neg', nI_subv, Nat.add_zero, Nat.zero_add, Nat.mul_zero, Nat.reduceAdd, bN_rv, bM_ru, bV_rv, bV_rx, bU_ru, bU_rx, bN_ite, bM_ite, bV_ite, bU_ite, ↓bx_e, ↓sp_e, gA_ok, gZ_n, gB_0, gB_1, gB_i, and_true, and_false, true_and, false_and, decide_true, decide_false, ↓reduceIte, not_true_eq_false, not_false_eq_true, Bool.false_eq_true, Bool.true_eq_false, Bool.and_true, Bool.and_false, Bool.true_and, Bool.false_and, Bool.or_true, Bool.or_false, Bool.true_or, Bool.false_or, Bool.not_true, Bool.not_false, le_f, le_t, lt_f, lt_t, eq_f, ↓reduceIte, not_true_eq_false, not_false_eq_true, ite_10, bt_0, bt_1]
      · rw [if_neg eL]
        have k59 := m215 (lo := 59) (hi := 59) (tB_T (p := y.1) (g := y.1) hT1) tB_p o2 (by omega) (by omega)
        cases e59 : isB b L 59 59 y.1 with
        | false =>
          rw [e59, b2_f] at k59
          rw [if_neg (show ¬ (false = true) by decide)]
          refine ⟨tB t1 y.1 y.1, ?_, FL_t a2 (FL_D FD_B), tB_g⟩
          rw [q240_28]
          simp (disch := omega) only [a1, k16, tB_p, e11, eL, k59, nI_lit, nI_add, pk_mul, nI_clp, nI_eqv, nI_lev, nI_ltv, nI_neg, nI_neg', nI_subv, Nat.add_zero, Nat.zero_add, Nat.mul_zero, Nat.reduceAdd, bN_rv, bM_ru, bV_rv, bV_rx, bU_ru, bU_rx, bN_ite, bM_ite, bV_ite, bU_ite, ↓bx_e, ↓sp_e, gA_ok, gZ_n, gB_0, gB_1, gB_i, and_true, and_false, true_and, false_and, decide_true, decide_false, ↓reduceIte, not_true_eq_false, not_false_eq_true, Bool.false_eq_true, Bool.true_eq_false, Bool.and_true, Bool.and_false, Bool.true_and, Bool.false_and, Bool.or_true, Bool.or_false, Bool.true_or, Bool.false_or, Bool.not_true, Bool.not_false, le_f, le_t, lt_f, lt_t, eq_f, ↓reduceIte, not_true_eq_false, not_false_eq_true, ite_10, bt_0, bt_1]
        | true =>
          have hq := isB_t e59
          rw [e59, b2_t] at k59
          rw [if_pos rfl]
          obtain ⟨s1, s2, s3, s4⟩ := sk_p (b := b) (show y.1 + 1 ≤ L by omega)
          have i1 := ih (n + 1) (sk b L (y.1 + 1)) (ls ++ [y.2]) (tB t1 (y.1 + 1) y.1) N (by omega) (by omega) (tB_T hT1) (AtP_B (by omega)) (by rw [tB_j (by omega), tot_a]; exact a4) (by rw [List.length_append, hl]; rfl) (by rw [tot_a]; omega) (by rw [eg]; exact hF1) hO1
          have eq : q240_28 K (N + 1) (nI 0) (nI n) t = q240_28 K N (nI 0) (nI (n + 1)) (tB t1 (y.1 + 1) y.1) := by
            rw [q240_28]
            simp (disch := omega) only [a1, k16, tB_p, tB_M, e11, eL, k59, nI_lit, nI_add, pk_mul, nI_clp, nI_eqv, nI_lev, nI_ltv, nI_neg, nI_neg', nI_subv, Nat.add_zero, Nat.zero_add, Nat.mul_zero, Nat.reduceAdd, bN_rv, bM_ru, bV_rv, bV_rx, bU_ru, bU_rx, bN_ite, bM_ite, bV_ite, bU_ite, ↓bx_e, ↓sp_e, gA_ok, gZ_n, gB_0, gB_1, gB_i, and_true, and_false, true_and, false_and, decide_true, decide_false, ↓reduceIte, not_true_eq_false, not_false_eq_true, Bool.false_eq_true, Bool.true_eq_false, Bool.and_true, Bool.and_false, Bool.true_and, Bool.false_and, Bool.or_true, Bool.or_false, Bool.true_or, Bool.false_or, Bool.not_true, Bool.not_false, le_f, le_t, lt_f, lt_t, eq_f, ↓reduceIte, not_true_eq_false, not_false_eq_true, ite_10, bt_0, bt_1]
          rw [eq]
          cases e2 : lawR b L m (sk b L (y.1 + 1)) (ls ++ [y.2]) with
          | inl f =>
            rw [e2] at i1
            obtain ⟨t', g1, g2, g3⟩ := i1
            exact ⟨t', g1, FL_t a2 (FL_t (FL_D FD_B) g2), g3⟩
          | inr ls' =>
            rw [e2] at i1
            obtain ⟨t', g1, g2, g3⟩ := i1
            exact ⟨t', g1, FL_t a2 (FL_t (FL_D FD_B) g2), g3⟩
end RLN
section CLN
variable {b : Nat → Nat} {L : Nat}
def FM (s s' : mS) : Prop := (∀ x, x ≠ 1 → ¬ (17 ≤ x ∧ x < 26) → s'.1 x = s.1 x) ∧ (∀ j, j ≠ 2 → s'.1 1 j = s.1 1 j) ∧ s'.2 = s.2
theorem FM_r {s : mS} : FM s s := ⟨fun _ _ _ => rfl, fun _ _ => rfl, rfl⟩
theorem FM_t {s s' s'' : mS} (h : FM s s') (h2 : FM s' s'') : FM s s'' := ⟨fun x a b => (h2.1 x a b).trans (h.1 x a b), fun j a => (h2.2.1 j a).trans (h.2.1 j a), h2.2.2.trans h.2.2⟩
theorem FM_E {s s' : mS} (h : FE s s') : FM s s' := ⟨fun x a b => h.1 x a (by omega) (by omega) (by omega) (by omega), h.2.1, h.2.2.2.2⟩
theorem CP_M {s s' : mS} (h : CP b L s) (hf : FM s s') : CP b L s' := ⟨h.1, h.2.1, by rw [hf.2.1 1 (by omega)]; exact h.2.2.1, fun i hi => by rw [hf.1 2 (by omega) (by omega)]; exact h.2.2.2 i hi⟩
theorem p29 {s : mS} {p : Nat} (h : CP b L s) (hp : s.1 1 2 = nI p) (hpL : p ≤ L) : q29 s = rv (oI (kindS b L p)) (cAt s (atF b L p (kindS b L p))) := by
  have k : ∀ tx, tx < 22 → tx ≠ 7 → tx ≠ 8 → q105 tx s = rv (b2 (wd b L tx p)) (cAt s (if wd b L tx p = true then sk b L (lw b L p) else p)) := fun tx a1 a2 a3 => by
    have := p105 (tx := tx) h hp hpL a1 a2 a3
    rw [this]
    cases e : wd b L tx p with
    | false => rfl
    | true => rw [if_pos rfl, if_pos rfl, wd_l e]
  have cs : cAt s p = s := cAt_i hp
  have k3 := k 9 (by omega) (by omega) (by omega)
  have k14 := k 10 (by omega) (by omega) (by omega)
  have k15 := k 11 (by omega) (by omega) (by omega)
  unfold q29 kindS
  rw [k3, bN_rv]
  cases wd b L 9 p with
  | true => rw [b2_t, if_neg (show ¬ nI 1 = 0 by decide), if_pos rfl, if_pos rfl]; rfl
  | false =>
  rw [b2_f, if_pos (show nI 0 = 0 from rfl), if_neg (show ¬ (false = true) by decide), if_neg (show ¬ (false = true) by decide), cs, k14, bN_rv]
  cases wd b L 10 p with
  | true => rw [b2_t, if_neg (show ¬ nI 1 = 0 by decide), if_pos rfl, if_pos rfl]; rfl
  | false =>
  rw [b2_f, if_pos (show nI 0 = 0 from rfl), if_neg (show ¬ (false = true) by decide), if_neg (show ¬ (false = true) by decide), cs, k15, bN_rv]
  cases wd b L 11 p with
  | true => rw [b2_t, if_neg (show ¬ nI 1 = 0 by decide), if_pos rfl, if_pos rfl]; rfl
  | false =>
  rw [b2_f, if_pos (show nI 0 = 0 from rfl), if_neg (show ¬ (false = true) by decide), if_neg (show ¬ (false = true) by decide), cs]
  show rv (-1) s = rv (-1) (cAt s p)
  rw [cs]
/-- a line is ended -/
def elS (s : mS) (i k v c : Nat) : mS := sI (sI (sI (sI s 19 i (nI k)) 20 i (nI v)) 21 i (nI c)) 18 0 (nI (i + 1))
theorem p24 {s : mS} {i k v c : Nat} (h0 : s.1 18 0 = nI i) (h1 : s.1 18 1 = nI c) (hi : i < 12) : q24 18 (nI k) (nI v) s = ru (elS s i k v c) := by
  have l : (nI i < nI 0) = False := lt0 (by omega)
  have e1 : (sI s 19 i (nI k)).1 18 0 = nI i := by rw [sI_fn (by omega)]; exact h0
  have e2 : (sI (sI s 19 i (nI k)) 20 i (nI v)).1 18 0 = nI i := by rw [sI_fn (by omega)]; exact e1
  have e2' : (sI (sI s 19 i (nI k)) 20 i (nI v)).1 18 1 = nI c := by rw [sI_fn (by omega), sI_fn (by omega)]; exact h1
  have e3 : (sI (sI (sI s 19 i (nI k)) 20 i (nI v)) 21 i (nI c)).1 18 0 = nI i := by rw [sI_fn (by omega)]; exact e2
  unfold q24 elS
  simp (disch := omega) only [h0, l, e1, e2, e2', e3, Nat.reduceAdd, nI_lit, nI_add, pk_mul, nI_clp, nI_eqv, nI_lev, nI_ltv, nI_neg, nI_neg', nI_subv, Nat.add_zero, Nat.zero_add, Nat.mul_zero, Nat.reduceAdd, bN_rv, bM_ru, bV_rv, bV_rx, bU_ru, bU_rx, bN_ite, bM_ite, bV_ite, bU_ite, ↓bx_e, ↓sp_e, gA_ok, gZ_n, gB_0, gB_1, gB_i, and_true, and_false, true_and, false_and, decide_true, decide_false, ↓reduceIte, not_true_eq_false, not_false_eq_true, Bool.false_eq_true, Bool.true_eq_false, Bool.and_true, Bool.and_false, Bool.true_and, Bool.false_and, Bool.or_true, Bool.or_false, Bool.true_or, Bool.false_or, Bool.not_true, Bool.not_false, le_f, le_t, lt_f, lt_t, eq_f, ↓reduceIte, not_true_eq_false, not_false_eq_true, ite_10, bt_0, bt_1]
/-- a line of the class, up to its end -/
def lnE (k28 : Int32 → mS → Option mQ) (v1 : Int32) (s : mS) : Option mQ := bN (q29 s) fun x12 s11 => if ¬ x12 = (-nI 1 : Int32) then (bN (q108 (nI 40) s11) fun x14 s13 => q28_57 k28 v1 x12 x14 s13) else (q28_57 k28 v1 x12 (-nI 1) s11)
theorem p28_e {n : Nat} {v1 : Int32} {s : mS} : q28_28 (n + 1) v1 s = if nI 12 ≤ v1 then rv (nI 0) s else lnE (q28_28 n) v1 s := rfl
theorem p28_l {s : mS} {p c : Nat} {k28 : Int32 → mS → Option mQ} {v1 : Int32} (h : CP b L s) (hp : s.1 1 2 = nI p) (hpL : p ≤ L) (hs : sk b L p = p) (h18 : s.1 18 1 = nI c) (hc : c ≤ p) : match lineS b L p with
    | .inl f => ∃ s', lnE k28 v1 s = rv (nI 0) s' ∧ FE s s' ∧ s'.1 1 2 = nI f
    | .inr (p', x) => ∃ s', lnE k28 v1 s = q28_84 k28 v1 (nI x.1) (nI x.2.1) s' ∧ FE s s' ∧ s'.1 1 2 = nI p' ∧ s'.1 18 1 = nI (c + x.2.2.length) ∧ DC s' c x.2.2 ∧ ∀ j, j < c → s'.1 22 j = s.1 22 j := by
  have hL := h.1
  have cs : cAt s p = s := cAt_i hp
  have k29 := p29 h hp hpL
  unfold lineS lnE
  cases e : kindS b L p with
  | none =>
    rw [e] at k29
    have k29 : q29 s = rv (-nI 1) s := k29.trans (by show rv (-nI 1) (cAt s p) = _; rw [cs])
    refine ⟨s, ?_, FE_r, hp⟩
    unfold q28_57
    simp (disch := omega) only [k29, nI_lit, nI_add, pk_mul, nI_clp, nI_eqv, nI_lev, nI_ltv, nI_neg, nI_neg', nI_subv, Nat.add_zero, Nat.zero_add, Nat.mul_zero, Nat.reduceAdd, bN_rv, bM_ru, bV_rv, bV_rx, bU_ru, bU_rx, bN_ite, bM_ite, bV_ite, bU_ite, ↓bx_e, ↓sp_e, gA_ok, gZ_n, gB_0, gB_1, gB_i, and_true, and_false, true_and, false_and, decide_true, decide_false, ↓reduceIte, not_true_eq_false, not_false_eq_true, Bool.false_eq_true, Bool.true_eq_false, Bool.and_true, Bool.and_false, Bool.true_and, Bool.false_and, Bool.or_true, Bool.or_false, Bool.true_or, Bool.false_or, Bool.not_true, Bool.not_false, le_f, le_t, lt_f, lt_t, eq_f, ↓reduceIte, not_true_eq_false, not_false_eq_true, ite_10, bt_0, bt_1]
  | some k =>
    obtain ⟨x1, x2, x3⟩ := kind_l hpL e
    obtain ⟨s1, s2, s3, s4⟩ := sk_p (b := b) x2
    rw [e] at k29
    have k29 : q29 s = rv (nI k) (cAt s (sk b L (lw b L p))) := k29
    generalize sk b L (lw b L p) = p1 at *
    have k8 := p108 (hi := 40) (cAt_C (p := p1) h) cAt_p s2 (by omega)
    dsimp only
    cases en : nm b L 40 p1 with
    | none =>
      rw [en, show oI none = -nI 1 from rfl, if_neg (show ¬ (none : Option Nat).isSome = true by decide), cAt_2] at k8
      refine ⟨cAt s p1, ?_, FE_A, cAt_p⟩
      unfold q28_57
      simp (disch := omega) only [k29, k8, nI_lit, nI_add, pk_mul, nI_clp, nI_eqv, nI_lev, nI_ltv, nI_neg, nI_neg', nI_subv, Nat.add_zero, Nat.zero_add, Nat.mul_zero, Nat.reduceAdd, bN_rv, bM_ru, bV_rv, bV_rx, bU_ru, bU_rx, bN_ite, bM_ite, bV_ite, bU_ite, ↓bx_e, ↓sp_e, gA_ok, gZ_n, gB_0, gB_1, gB_i, and_true, and_false, true_and, false_and, decide_true, decide_false, ↓reduceIte, not_true_eq_false, not_false_eq_true, Bool.false_eq_true, Bool.true_eq_false, Bool.and_true, Bool.and_false, Bool.true_and, Bool.false_and, Bool.or_true, Bool.or_false, Bool.true_or, Bool.false_or, Bool.not_true, Bool.not_false, le_f, le_t, lt_f, lt_t, eq_f, ↓reduceIte, not_true_eq_false, not_false_eq_true, ite_10, bt_0, bt_1]
    | some v =>
      have hv := nm_p en
      obtain ⟨d1, d2, -, -⟩ := dg_p (b := b) s2
      obtain ⟨r1, r2, r3, r4⟩ := sk_p (b := b) d2
      rw [en, show oI (some v) = nI v from rfl, if_pos (show (some v).isSome = true from rfl), cAt_2] at k8
      generalize sk b L (dg b L p1) = p2 at *
      have k12 := p105 (tx := 12) (cAt_C (p := p2) h) cAt_p r2 (by omega) (by omega) (by omega)
      dsimp only
      unfold tailS
      cases ew : wd b L 12 p2 with
      | false =>
        rw [ew, b2_f, if_neg (show ¬ (false = true) by decide), cAt_2] at k12
        rw [if_neg (show ¬ (false = true) by decide)]
        refine ⟨cAt s p2, ?_, FE_A, cAt_p, by rw [cAt_n (by omega)]; exact h18, trivial, fun j _ => by rw [cAt_n (by omega)]⟩
        unfold q28_57
        simp (disch := omega) only [k29, k8, k12, nI_lit, nI_add, pk_mul, nI_clp, nI_eqv, nI_lev, nI_ltv, nI_neg, nI_neg', nI_subv, Nat.add_zero, Nat.zero_add, Nat.mul_zero, Nat.reduceAdd, bN_rv, bM_ru, bV_rv, bV_rx, bU_ru, bU_rx, bN_ite, bM_ite, bV_ite, bU_ite, ↓bx_e, ↓sp_e, gA_ok, gZ_n, gB_0, gB_1, gB_i, and_true, and_false, true_and, false_and, decide_true, decide_false, ↓reduceIte, not_true_eq_false, not_false_eq_true, Bool.false_eq_true, Bool.true_eq_false, Bool.and_true, Bool.and_false, Bool.true_and, Bool.false_and, Bool.or_true, Bool.or_false, Bool.true_or, Bool.false_or, Bool.not_true, Bool.not_false, le_f, le_t, lt_f, lt_t, eq_f, ↓reduceIte, not_true_eq_false, not_false_eq_true, ite_10, bt_0, bt_1]
      | true =>
        have hq := wd_p r2 ew
        rw [tl_12] at hq
        rw [ew, b2_t, if_pos rfl, cAt_2, tl_12] at k12
        rw [if_pos rfl, tl_12]
        obtain ⟨w1, w2, w3, w4⟩ := sk_p (b := b) (show p2 + 2 ≤ L by omega)
        have kc := p30 (c := c) (cAt_C (p := sk b L (p2 + 2)) h) cAt_p w2 w4 (by rw [cAt_n (by omega)]; exact h18) (by omega)
        cases ec : condF b L (atomS b L 6) (sk b L (p2 + 2)) with
        | inl f =>
          rw [ec] at kc
          obtain ⟨s5, g1, g2, g3⟩ := kc
          refine ⟨s5, ?_, FE_t FE_A g2, g3⟩
          unfold q28_57
          simp (disch := omega) only [k29, k8, k12, g1, nI_lit, nI_add, pk_mul, nI_clp, nI_eqv, nI_lev, nI_ltv, nI_neg, nI_neg', nI_subv, Nat.add_zero, Nat.zero_add, Nat.mul_zero, Nat.reduceAdd, bN_rv, bM_ru, bV_rv, bV_rx, bU_ru, bU_rx, bN_ite, bM_ite, bV_ite, bU_ite, ↓bx_e, ↓sp_e, gA_ok, gZ_n, gB_0, gB_1, gB_i, and_true, and_false, true_and, false_and, decide_true, decide_false, ↓reduceIte, not_true_eq_false, not_false_eq_true, Bool.false_eq_true, Bool.true_eq_false, Bool.and_true, Bool.and_false, Bool.true_and, Bool.false_and, Bool.or_true, Bool.or_false, Bool.true_or, Bool.false_or, Bool.not_true, Bool.not_false, le_f, le_t, lt_f, lt_t, eq_f, ↓reduceIte, not_true_eq_false, not_false_eq_true, ite_10, bt_0, bt_1]
        | inr x =>
          rw [ec] at kc
          obtain ⟨s5, g1, g2, g3, g4, g5, g6⟩ := kc
          refine ⟨s5, ?_, FE_t FE_A g2, g3, g4, g5, fun j hj => by rw [g6 j hj, cAt_n (by omega)]⟩
          unfold q28_57
          simp (disch := omega) only [k29, k8, k12, g1, nI_lit, nI_add, pk_mul, nI_clp, nI_eqv, nI_lev, nI_ltv, nI_neg, nI_neg', nI_subv, Nat.add_zero, Nat.zero_add, Nat.mul_zero, Nat.reduceAdd, bN_rv, bM_ru, bV_rv, bV_rx, bU_ru, bU_rx, bN_ite, bM_ite, bV_ite, bU_ite, ↓bx_e, ↓sp_e, gA_ok, gZ_n, gB_0, gB_1, gB_i, and_true, and_false, true_and, false_and, decide_true, decide_false, ↓reduceIte, not_true_eq_false, not_false_eq_true, Bool.false_eq_true, Bool.true_eq_false, Bool.and_true, Bool.and_false, Bool.true_and, Bool.false_and, Bool.or_true, Bool.or_false, Bool.true_or, Bool.false_or, Bool.not_true, Bool.not_false, le_f, le_t, lt_f, lt_t, eq_f, ↓reduceIte, not_true_eq_false, not_false_eq_true, ite_10, bt_0, bt_1]
theorem p28_28 : ∀ m i p ls s N, m + i = 12 → m < N → CP b L s → s.1 1 2 = nI p → p ≤ L → sk b L p = p → s.1 18 0 = nI i → s.1 18 1 = nI (tot ls) → ls.length = i → tot ls ≤ p → LC s 0 0 ls → (match lawR b L m p ls with
    | .inl f => ∃ s', q28_28 N (nI i) s = rv (nI 0) s' ∧ FM s s' ∧ s'.1 1 2 = nI f
    | .inr ls' => ∃ s', q28_28 N (nI i) s = rv (nI 1) s' ∧ FM s s' ∧ s'.1 18 0 = nI ls'.length ∧ LC s' 0 0 ls') := by
  intro m
  induction m with
  | zero =>
    intro i p ls s N hmi hN h hp hpL hs h0 h1 hl ht hC
    obtain ⟨N, rfl⟩ : ∃ N', N = N' + 1 := ⟨N - 1, by omega⟩
    rw [lawR]
    refine ⟨s, ?_, FM_r, hp⟩
    rw [p28_e, if_pos (by rw [nI_lev (by omega) (by omega)]; omega)]
  | succ m ih =>
    intro i p ls s N hmi hN h hp hpL hs h0 h1 hl ht hC
    obtain ⟨N, rfl⟩ : ∃ N', N = N' + 1 := ⟨N - 1, by omega⟩
    have hL := h.1
    have k := p28_l (k28 := q28_28 N) (v1 := nI i) h hp hpL hs h1 ht
    have kk := line_k (b := b) hpL hs
    rw [lawR, p28_e, if_neg (by rw [nI_lev (by omega) (by omega)]; omega)]
    cases e : lineS b L p with
    | inl f =>
      rw [e] at k
      obtain ⟨s', a1, a2, a3⟩ := k
      exact ⟨s', a1, FM_E a2, a3⟩
    | inr y =>
      rw [e] at k kk
      obtain ⟨s1, a1, a2, a3, a4, a5, a6⟩ := k
      obtain ⟨o1, o2, o3, o4⟩ := kk
      have e0 : s1.1 18 0 = nI i := by rw [a2.2.2.2.1 0 (by omega)]; exact h0
      have k24 := p24 (k := y.2.1) (v := y.2.2.1) e0 a4 (by omega)
      have hE : FM s1 (elS s1 i y.2.1 y.2.2.1 (tot ls + y.2.2.2.length)) := by
        unfold elS
        exact ⟨fun x u v => by rw [sI_fn (by omega), sI_fn (by omega), sI_fn (by omega), sI_fn (by omega)], fun j _ => by rw [sI_fn (by omega), sI_fn (by omega), sI_fn (by omega), sI_fn (by omega)], Eq.trans rfl rfl⟩
      have g0 : (elS s1 i y.2.1 y.2.2.1 (tot ls + y.2.2.2.length)).1 18 0 = nI (i + 1) := by unfold elS; rw [sI_sm, ud_e rfl]
      have g1 : (elS s1 i y.2.1 y.2.2.1 (tot ls + y.2.2.2.length)).1 18 1 = nI (tot ls + y.2.2.2.length) := by unfold elS; rw [sI_sm, ud_n (by omega), sI_fn (by omega), sI_fn (by omega), sI_fn (by omega)]; exact a4
      have gp : (elS s1 i y.2.1 y.2.2.1 (tot ls + y.2.2.2.length)).1 1 2 = nI y.1 := by unfold elS; rw [sI_fn (by omega), sI_fn (by omega), sI_fn (by omega), sI_fn (by omega)]; exact a3
      have g22 : (elS s1 i y.2.1 y.2.2.1 (tot ls + y.2.2.2.length)).1 22 = s1.1 22 := by unfold elS; rw [sI_fn (by omega), sI_fn (by omega), sI_fn (by omega), sI_fn (by omega)]
      have hC1 : LC (elS s1 i y.2.1 y.2.2.1 (tot ls + y.2.2.2.length)) 0 0 (ls ++ [y.2]) := by
        refine LC_a ls 0 0 (LC_c ls 0 0 hC (fun j hj => ?_) (fun j hj => ?_)) ?_
        · unfold elS
          refine ⟨?_, ?_, ?_⟩
          · rw [sI_fn (by omega), sI_fn (by omega), sI_fn (by omega), sI_sm, ud_n (by omega), a2.1 19 (by omega) (by omega) (by omega) (by omega) (by omega)]
          · rw [sI_fn (by omega), sI_fn (by omega), sI_sm, ud_n (by omega), sI_fn (by omega), a2.1 20 (by omega) (by omega) (by omega) (by omega) (by omega)]
          · rw [sI_fn (by omega), sI_sm, ud_n (by omega), sI_fn (by omega), sI_fn (by omega), a2.1 21 (by omega) (by omega) (by omega) (by omega) (by omega)]
        · rw [g22, a6 j (by omega)]
        · rw [Nat.zero_add, Nat.zero_add, hl]
          refine ⟨?_, ?_, ?_, DC_c a5 (fun j _ => by rw [g22]), trivial⟩
          · unfold elS; rw [sI_fn (by omega), sI_fn (by omega), sI_fn (by omega), sI_sm, ud_e rfl]
          · unfold elS; rw [sI_fn (by omega), sI_fn (by omega), sI_sm, ud_e rfl]
          · unfold elS; rw [sI_fn (by omega), sI_sm, ud_e rfl]
      have hC0 : CP b L (elS s1 i y.2.1 y.2.2.1 (tot ls + y.2.2.2.length)) := CP_M (CP_E h a2) hE
      generalize hs2 : elS s1 i y.2.1 y.2.2.1 (tot ls + y.2.2.2.length) = s2 at *
      have k101 := p101 hC0 gp o2
      rw [a1]
      dsimp only
      by_cases eL : y.1 = L
      · rw [decide_eq_true eL, b2_t] at k101
        rw [if_pos eL]
        refine ⟨s2, ?_, FM_t (FM_E a2) hE, by rw [List.length_append, hl]; exact g0, hC1⟩
        unfold q28_84
        simp (disch := omega) only [k24, k101, nI_lit, nI_add, pk_mul, nI_clp, nI_eqv, nI_lev, nI_ltv, nI_neg, nI_neg', nI_subv, Nat.add_zero, Nat.zero_add, Nat.mul_zero, Nat.reduceAdd, bN_rv, bM_ru, bV_rv, bV_rx, bU_ru, bU_rx, bN_ite, bM_ite, bV_ite, bU_ite, ↓bx_e, ↓sp_e, gA_ok, gZ_n, gB_0, gB_1, gB_i, and_true, and_false, true_and, false_and, decide_true, decide_false, ↓reduceIte, not_true_eq_false, not_false_eq_true, Bool.false_eq_true, Bool.true_eq_false, Bool.and_true, Bool.and_false, Bool.true_and, Bool.false_and, Bool.or_true, Bool.or_false, Bool.true_or, Bool.false_or, Bool.not_true, Bool.not_false, le_f, le_t, lt_f, lt_t, eq_f, ↓reduceIte, not_true_eq_false, not_false_eq_true, ite_10, bt_0, bt_1]
      · rw [decide_eq_false eL, b2_f] at k101
        rw [if_neg eL]
        have k59 := p104 (c := 59) hC0 gp o2 (by omega)
        cases e59 : isB b L 59 59 y.1 with
        | false =>
          rw [e59, b2_f, if_neg (show ¬ (false = true) by decide), cAt_i gp] at k59
          rw [if_neg (show ¬ (false = true) by decide)]
          refine ⟨s2, ?_, FM_t (FM_E a2) hE, gp⟩
          unfold q28_84
          simp (disch := omega) only [k24, k101, k59, nI_lit, nI_add, pk_mul, nI_clp, nI_eqv, nI_lev, nI_ltv, nI_neg, nI_neg', nI_subv, Nat.add_zero, Nat.zero_add, Nat.mul_zero, Nat.reduceAdd, bN_rv, bM_ru, bV_rv, bV_rx, bU_ru, bU_rx, bN_ite, bM_ite, bV_ite, bU_ite, ↓bx_e, ↓sp_e, gA_ok, gZ_n, gB_0, gB_1, gB_i, and_true, and_false, true_and, false_and, decide_true, decide_false, ↓reduceIte, not_true_eq_false, not_false_eq_true, Bool.false_eq_true, Bool.true_eq_false, Bool.and_true, Bool.and_false, Bool.true_and, Bool.false_and, Bool.or_true, Bool.or_false, Bool.true_or, Bool.false_or, Bool.not_true, Bool.not_false, le_f, le_t, lt_f, lt_t, eq_f, ↓reduceIte, not_true_eq_false, not_false_eq_true, ite_10, bt_0, bt_1]
        | true =>
          have hq := isB_t e59
          rw [e59, b2_t, if_pos rfl] at k59
          rw [if_pos rfl]
          obtain ⟨u1, u2, u3, u4⟩ := sk_p (b := b) (show y.1 + 1 ≤ L by omega)
          have i1 := ih (i + 1) (sk b L (y.1 + 1)) (ls ++ [y.2]) (cAt s2 (sk b L (y.1 + 1))) N (by omega) (by omega) (cAt_C hC0) cAt_p u2 u4 (by rw [cAt_n (by omega)]; exact g0) (by rw [cAt_n (by omega), tot_a]; exact g1) (by rw [List.length_append, hl]; rfl) (by rw [tot_a]; omega) (LC_c _ 0 0 hC1 (fun j _ => by rw [cAt_n (by omega), cAt_n (by omega), cAt_n (by omega)]; exact ⟨rfl, rfl, rfl⟩) (fun j _ => by rw [cAt_n (by omega)]))
          have eq : q28_84 (q28_28 N) (nI i) (nI y.2.1) (nI y.2.2.1) s1 = q28_28 N (nI (i + 1)) (cAt s2 (sk b L (y.1 + 1))) := by
            unfold q28_84
            simp (disch := omega) only [k24, k101, k59, nI_lit, nI_add, pk_mul, nI_clp, nI_eqv, nI_lev, nI_ltv, nI_neg, nI_neg', nI_subv, Nat.add_zero, Nat.zero_add, Nat.mul_zero, Nat.reduceAdd, bN_rv, bM_ru, bV_rv, bV_rx, bU_ru, bU_rx, bN_ite, bM_ite, bV_ite, bU_ite, ↓bx_e, ↓sp_e, gA_ok, gZ_n, gB_0, gB_1, gB_i, and_true, and_false, true_and, false_and, decide_true, decide_false, ↓reduceIte, not_true_eq_false, not_false_eq_true, Bool.false_eq_true, Bool.true_eq_false, Bool.and_true, Bool.and_false, Bool.true_and, Bool.false_and, Bool.or_true, Bool.or_false, Bool.true_or, Bool.false_or, Bool.not_true, Bool.not_false, le_f, le_t, lt_f, lt_t, eq_f, ↓reduceIte, not_true_eq_false, not_false_eq_true, ite_10, bt_0, bt_1]
          rw [eq]
          have hFA : FM s (cAt s2 (sk b L (y.1 + 1))) := FM_t (FM_E a2) (FM_t hE (FM_E FE_A))
          cases e2 : lawR b L m (sk b L (y.1 + 1)) (ls ++ [y.2]) with
          | inl f =>
            rw [e2] at i1
            obtain ⟨t', g1, g2, g3⟩ := i1
            exact ⟨t', g1, FM_t hFA g2, g3⟩
          | inr ls' =>
            rw [e2] at i1
            obtain ⟨t', g1, g2, g3⟩ := i1
            exact ⟨t', g1, FM_t hFA g2, g3⟩
end CLN
