/-! THE LAW'S TEXT: sums, atoms and what joins them, in the reference -/
section RL
variable {b : Nat → Nat} {L : Nat}
/-- a sign is looked for -/
theorem m220_P {t : mS} {p o : Nat} (h : TB b L t) (hp : AtP b L t p) (ho : o < 128) : q220 (nI o) t = rv (b2 (isB b L o o p)) (tB t (if isB b L o o p = true then p + 1 else p) p) := by
  obtain ⟨q, q1, q2, q3⟩ := hp
  have := m220 h q2 q1 ho
  rw [q3] at this
  exact this
theorem m219_P {t : mS} {p tx : Nat} (h : TB b L t) (hp : AtP b L t p) (h1 : tx < 22) (h7 : tx ≠ 7) (h8 : tx ≠ 8) : q219 tx t = rv (b2 (wd b L tx p)) (tB t (if wd b L tx p = true then p + tln tx else p) p) := by
  obtain ⟨q, q1, q2, q3⟩ := hp
  have := m219 h q2 q1 h1 h7 h8
  rw [q3] at this
  exact this
theorem AtP_B {t : mS} {q g : Nat} (hq : q ≤ L) : AtP b L (tB t q g) (sk b L q) := ⟨q, hq, tB_p, rfl⟩
theorem AtP_s {t : mS} {p g : Nat} (hp : p ≤ L) (hs : sk b L p = p) : AtP b L (tB t p g) p := ⟨p, hp, tB_p, hs⟩
theorem SS_s {t : mS} {p g c : Nat} (hp : p ≤ L) (hs : sk b L p = p) (h16 : t.1 512 16 = nI c) : SS b L t (tB t p g) c [] p := by
  have := SS_B (b := b) (g := g) hp h16
  rw [hs] at this
  exact this
theorem SS_1 {t t1 : mS} {c p : Nat} {l : List (Nat × Nat)} (h : SS b L t t1 c l p) {g : Nat} : SS b L t (tB t1 p g) c l p := by
  obtain ⟨pL, ps⟩ := AtP_l h.2.1
  have := SS_t h (SS_s (g := g) pL ps h.2.2.2.1)
  rw [List.append_nil] at this
  exact this
theorem SS_m {t t1 : mS} {c p q : Nat} {l : List (Nat × Nat)} (h : SS b L t t1 c l p) (hq : q ≤ L) {g : Nat} : SS b L t (tB t1 q g) c l (sk b L q) := by
  have := SS_t h (SS_B (b := b) (g := g) hq h.2.2.2.1)
  rw [List.append_nil] at this
  exact this
theorem SS_e {t t1 : mS} {c p o v : Nat} {l : List (Nat × Nat)} (h : SS b L t t1 c l p) : SS b L t (emX t1 (c + l.length) (nI o) (nI v)) c (l ++ [(o, v)]) p := SS_t h (em_SS h.2.1)
theorem m233_9 {t0 : mS} {c : Nat} (h0 : TB b L t0) : ∀ m p l t N, SS b L t0 t c l p → c + l.length < p → L ≤ p + m → m < N → RQ b L t0 c (q233_9 N t) (sumR b L m p l) := by
  intro m
  induction m with
  | zero =>
    intro p l t N hS hc hm hN
    obtain ⟨pL, ps⟩ := AtP_l hS.2.1
    cases N with
    | zero => omega
    | succ N =>
      have k := m220_P (o := 43) (TB_D h0 hS.1) hS.2.1 (by omega)
      rw [isB_L (by omega), b2_f, if_neg (show ¬ (false = true) by decide)] at k
      rw [sumR]
      refine ⟨tB t p p, ?_, SS_1 hS⟩
      rw [q233_9]
      simp (disch := omega) only [k, nI_lit, nI_add, pk_mul, nI_clp, nI_eqv, nI_lev, nI_ltv, nI_neg, nI_neg', nI_subv, Nat.add_zero, Nat.zero_add, Nat.mul_zero, Nat.reduceAdd, bN_rv, bM_ru, bV_rv, bV_rx, bU_ru, bU_rx, bN_ite, bM_ite, bV_ite, bU_ite, ↓bx_e, ↓sp_e, gA_ok, gZ_n, gB_0, gB_1, gB_i, and_true, and_false, true_and, false_and, decide_true, decide_false, ↓reduceIte, not_true_eq_false, not_false_eq_true, Bool.false_eq_true, Bool.true_eq_false, Bool.and_true, Bool.and_false, Bool.true_and, Bool.false_and, Bool.or_true, Bool.or_false, Bool.true_or, Bool.false_or, Bool.not_true, Bool.not_false, le_f, le_t, lt_f, lt_t, eq_f, ↓reduceIte, not_true_eq_false, not_false_eq_true, ite_10, bt_0, bt_1]
  | succ m ih =>
    intro p l t N hS hc hm hN
    obtain ⟨pL, ps⟩ := AtP_l hS.2.1
    have hL := h0.1
    cases N with
    | zero => omega
    | succ N =>
      have k := m220_P (o := 43) (TB_D h0 hS.1) hS.2.1 (by omega)
      rw [sumR]
      cases e : isB b L 43 43 p with
      | false =>
        rw [e, b2_f, if_neg (show ¬ (false = true) by decide)] at k
        rw [if_neg (show ¬ (false = true) by decide)]
        refine ⟨tB t p p, ?_, SS_1 hS⟩
        rw [q233_9]
        simp (disch := omega) only [k, nI_lit, nI_add, pk_mul, nI_clp, nI_eqv, nI_lev, nI_ltv, nI_neg, nI_neg', nI_subv, Nat.add_zero, Nat.zero_add, Nat.mul_zero, Nat.reduceAdd, bN_rv, bM_ru, bV_rv, bV_rx, bU_ru, bU_rx, bN_ite, bM_ite, bV_ite, bU_ite, ↓bx_e, ↓sp_e, gA_ok, gZ_n, gB_0, gB_1, gB_i, and_true, and_false, true_and, false_and, decide_true, decide_false, ↓reduceIte, not_true_eq_false, not_false_eq_true, Bool.false_eq_true, Bool.true_eq_false, Bool.and_true, Bool.and_false, Bool.true_and, Bool.false_and, Bool.or_true, Bool.or_false, Bool.true_or, Bool.false_or, Bool.not_true, Bool.not_false, le_f, le_t, lt_f, lt_t, eq_f, ↓reduceIte, not_true_eq_false, not_false_eq_true, ite_10, bt_0, bt_1]
      | true =>
        have hq := isB_t e
        rw [e, b2_t, if_pos rfl] at k
        rw [if_pos rfl]
        have hS2 := SS_m hS (q := p + 1) (g := p) (by omega)
        obtain ⟨s1, s2, -, s4⟩ := sk_p (b := b) (show p + 1 ≤ L by omega)
        have k2 := m232 (SS_in hS2 h0 (by omega))
        have kk := part_k s2 s4
        cases e2 : partS b L (sk b L (p + 1)) with
        | inl f =>
          rw [e2] at k2
          obtain ⟨t3, a1, a2⟩ := k2
          refine ⟨t3, ?_, SF_t hS2.1 a2⟩
          rw [q233_9]
          simp (disch := omega) only [k, a1, nI_lit, nI_add, pk_mul, nI_clp, nI_eqv, nI_lev, nI_ltv, nI_neg, nI_neg', nI_subv, Nat.add_zero, Nat.zero_add, Nat.mul_zero, Nat.reduceAdd, bN_rv, bM_ru, bV_rv, bV_rx, bU_ru, bU_rx, bN_ite, bM_ite, bV_ite, bU_ite, ↓bx_e, ↓sp_e, gA_ok, gZ_n, gB_0, gB_1, gB_i, and_true, and_false, true_and, false_and, decide_true, decide_false, ↓reduceIte, not_true_eq_false, not_false_eq_true, Bool.false_eq_true, Bool.true_eq_false, Bool.and_true, Bool.and_false, Bool.true_and, Bool.false_and, Bool.or_true, Bool.or_false, Bool.true_or, Bool.false_or, Bool.not_true, Bool.not_false, le_f, le_t, lt_f, lt_t, eq_f, ↓reduceIte, not_true_eq_false, not_false_eq_true, ite_10, bt_0, bt_1]
        | inr x =>
          rw [e2] at k2 kk
          obtain ⟨t3, a1, a2⟩ := k2
          obtain ⟨k1, k2', k3, k4, k5⟩ := kk
          have hS3 := SS_t hS2 a2
          have hS4 := SS_e (o := 11) (v := 0) hS3
          have k3 := m230 (x := nI 11) (y := nI 0) hS3.2.2.2.1 (by rw [List.length_append]; omega)
          rw [List.append_assoc] at hS4
          have i1 := ih x.1 _ _ N hS4 (by simp only [List.length_append, List.length_cons, List.length_nil]; omega) (by omega) (by omega)
          rw [q233_9]
          simp (disch := omega) only [k, a1, k3, nI_lit, nI_add, pk_mul, nI_clp, nI_eqv, nI_lev, nI_ltv, nI_neg, nI_neg', nI_subv, Nat.add_zero, Nat.zero_add, Nat.mul_zero, Nat.reduceAdd, bN_rv, bM_ru, bV_rv, bV_rx, bU_ru, bU_rx, bN_ite, bM_ite, bV_ite, bU_ite, ↓bx_e, ↓sp_e, gA_ok, gZ_n, gB_0, gB_1, gB_i, and_true, and_false, true_and, false_and, decide_true, decide_false, ↓reduceIte, not_true_eq_false, not_false_eq_true, Bool.false_eq_true, Bool.true_eq_false, Bool.and_true, Bool.and_false, Bool.true_and, Bool.false_and, Bool.or_true, Bool.or_false, Bool.true_or, Bool.false_or, Bool.not_true, Bool.not_false, le_f, le_t, lt_f, lt_t, eq_f, ↓reduceIte, not_true_eq_false, not_false_eq_true, ite_10, bt_0, bt_1]
          exact i1
theorem RQ_SS {t0 t : mS} {c p : Nat} {l : List (Nat × Nat)} {q : Option mQ} {r : LR} (h : RQ b L t (c + l.length) q r) (hS : SS b L t0 t c l p) : RQ b L t0 c q (match r with
    | .inl f => .inl f
    | .inr (p', l') => .inr (p', l ++ l')) := by
  cases r with
  | inl f => obtain ⟨t', a1, a2⟩ := h; exact ⟨t', a1, SF_t hS.1 a2⟩
  | inr x => obtain ⟨t', a1, a2⟩ := h; exact ⟨t', a1, SS_t hS a2⟩
theorem m233 {t : mS} {p c : Nat} (h : IN b L t p c) : RQ b L t c (q233 t) (sumS b L p) := by
  have k := m232 h
  obtain ⟨pL, ps⟩ := AtP_l h.2.1
  have kk := part_k (b := b) pL ps
  have hL := h.1.1
  have hc := h.2.2.2
  unfold sumS q233
  cases e : partS b L p with
  | inl f =>
    rw [e] at k
    obtain ⟨t3, a1, a2⟩ := k
    refine ⟨t3, ?_, a2⟩
    simp (disch := omega) only [a1, nI_lit, nI_add, pk_mul, nI_clp, nI_eqv, nI_lev, nI_ltv, nI_neg, nI_neg', nI_subv, Nat.add_zero, Nat.zero_add, Nat.mul_zero, Nat.reduceAdd, bN_rv, bM_ru, bV_rv, bV_rx, bU_ru, bU_rx, bN_ite, bM_ite, bV_ite, bU_ite, ↓bx_e, ↓sp_e, gA_ok, gZ_n, gB_0, gB_1, gB_i, and_true, and_false, true_and, false_and, decide_true, decide_false, ↓reduceIte, not_true_eq_false, not_false_eq_true, Bool.false_eq_true, Bool.true_eq_false, Bool.and_true, Bool.and_false, Bool.true_and, Bool.false_and, Bool.or_true, Bool.or_false, Bool.true_or, Bool.false_or, Bool.not_true, Bool.not_false, le_f, le_t, lt_f, lt_t, eq_f, ↓reduceIte, not_true_eq_false, not_false_eq_true, ite_10, bt_0, bt_1]
  | inr x =>
    rw [e] at k kk
    obtain ⟨t3, a1, a2⟩ := k
    obtain ⟨k1, k2, k3, k4, k5⟩ := kk
    have i1 := m233_9 h.1 L x.1 x.2 t3 10000 a2 (by omega) (by omega) (by omega)
    simp (disch := omega) only [a1, nI_lit, nI_add, pk_mul, nI_clp, nI_eqv, nI_lev, nI_ltv, nI_neg, nI_neg', nI_subv, Nat.add_zero, Nat.zero_add, Nat.mul_zero, Nat.reduceAdd, bN_rv, bM_ru, bV_rv, bV_rx, bU_ru, bU_rx, bN_ite, bM_ite, bV_ite, bU_ite, ↓bx_e, ↓sp_e, gA_ok, gZ_n, gB_0, gB_1, gB_i, and_true, and_false, true_and, false_and, decide_true, decide_false, ↓reduceIte, not_true_eq_false, not_false_eq_true, Bool.false_eq_true, Bool.true_eq_false, Bool.and_true, Bool.and_false, Bool.true_and, Bool.false_and, Bool.or_true, Bool.or_false, Bool.true_or, Bool.false_or, Bool.not_true, Bool.not_false, le_f, le_t, lt_f, lt_t, eq_f, ↓reduceIte, not_true_eq_false, not_false_eq_true, ite_10, bt_0, bt_1]
    exact i1
theorem m234 {t : mS} {p c : Nat} (h : IN b L t p c) : ∃ t', (tagS b L p = none → q234 t = rv (nI 0) t' ∧ SS b L t t' c [] p) ∧ ∀ j, tagS b L p = some j → q234 t = rv (nI 1) t' ∧ SS b L t t' c [(j, 0)] (sk b L (lw b L p)) := by
  obtain ⟨h1, h2, h3, h4⟩ := h
  obtain ⟨pL, ps⟩ := AtP_l h2
  obtain ⟨q, q1, q2, q3⟩ := h2
  have hL := h1.1
  obtain ⟨l1, l2, l3, l4⟩ := lw_p (b := b) pL
  have k := m217 h1 q2 q1
  rw [q3] at k
  have hB := tB_T (p := lw b L p) (g := p) h1
  have k3 := m218 (tx := 3) hB tB_p tB_g pL (by omega) (by omega) (by omega)
  have k14 := m218 (tx := 14) hB tB_p tB_g pL (by omega) (by omega) (by omega)
  have k15 := m218 (tx := 15) hB tB_p tB_g pL (by omega) (by omega) (by omega)
  have e16 : (tB t (lw b L p) p).1 512 16 = nI c := by rw [tB_j (by omega)]; exact h3
  have yes : ∀ j, j < 20 → q234 t = q234_47 (nI j) (tB t (lw b L p) p) → q234 t = rv (nI 1) (emX (tB t (lw b L p) p) c (nI j) (nI 0)) ∧ SS b L t (emX (tB t (lw b L p) p) c (nI j) (nI 0)) c [(j, 0)] (sk b L (lw b L p)) := fun j hj e => by
    refine ⟨?_, SS_t (l1 := []) (SS_B l2 h3) (em_SS ⟨_, l2, tB_p, rfl⟩)⟩
    rw [e]
    have l0 : (nI j < nI 0) = False := lt0 (by omega)
    have k2 := m230 (x := nI j) (y := nI 0) e16 (by omega)
    unfold q234_47 q234_69
    simp (disch := omega) only [l0, k2, nI_lit, nI_add, pk_mul, nI_clp, nI_eqv, nI_lev, nI_ltv, nI_neg, nI_neg', nI_subv, Nat.add_zero, Nat.zero_add, Nat.mul_zero, Nat.reduceAdd, bN_rv, bM_ru, bV_rv, bV_rx, bU_ru, bU_rx, bN_ite, bM_ite, bV_ite, bU_ite, ↓bx_e, ↓sp_e, gA_ok, gZ_n, gB_0, gB_1, gB_i, and_true, and_false, true_and, false_and, decide_true, decide_false, ↓reduceIte, not_true_eq_false, not_false_eq_true, Bool.false_eq_true, Bool.true_eq_false, Bool.and_true, Bool.and_false, Bool.true_and, Bool.false_and, Bool.or_true, Bool.or_false, Bool.true_or, Bool.false_or, Bool.not_true, Bool.not_false, le_f, le_t, lt_f, lt_t, eq_f, ↓reduceIte, not_true_eq_false, not_false_eq_true, ite_10, bt_0, bt_1]
  cases e : tagS b L p with
  | none =>
    refine ⟨tB t p p, fun _ => ⟨?_, SS_s pL ps h3⟩, fun j hj => by cases hj⟩
    unfold tagS at e
    split at e
    · cases e
    rename_i w3
    split at e
    · cases e
    rename_i w14
    split at e
    · cases e
    rename_i w15
    rw [Bool.eq_false_iff.mpr w3, b2_f] at k3
    rw [Bool.eq_false_iff.mpr w14, b2_f] at k14
    rw [Bool.eq_false_iff.mpr w15, b2_f] at k15
    unfold q234 q234_47 q234_69
    simp (disch := omega) only [k, k3, k14, k15, neg1_lt, tB_g, tB_M, nI_lit, nI_add, pk_mul, nI_clp, nI_eqv, nI_lev, nI_ltv, nI_neg, nI_neg', nI_subv, Nat.add_zero, Nat.zero_add, Nat.mul_zero, Nat.reduceAdd, bN_rv, bM_ru, bV_rv, bV_rx, bU_ru, bU_rx, bN_ite, bM_ite, bV_ite, bU_ite, ↓bx_e, ↓sp_e, gA_ok, gZ_n, gB_0, gB_1, gB_i, and_true, and_false, true_and, false_and, decide_true, decide_false, ↓reduceIte, not_true_eq_false, not_false_eq_true, Bool.false_eq_true, Bool.true_eq_false, Bool.and_true, Bool.and_false, Bool.true_and, Bool.false_and, Bool.or_true, Bool.or_false, Bool.true_or, Bool.false_or, Bool.not_true, Bool.not_false, le_f, le_t, lt_f, lt_t, eq_f, ↓reduceIte, not_true_eq_false, not_false_eq_true, ite_10, bt_0, bt_1]
  | some j =>
    have hj := tag_l pL e
    refine ⟨emX (tB t (lw b L p) p) c (nI j) (nI 0), fun q => by (cases q), fun j' hj' => ?_⟩
    injection hj' with hj'
    subst hj'
    refine yes j (by omega) ?_
    unfold tagS at e
    split at e
    · rename_i w3
      injection e with e
      subst e
      rw [w3, b2_t] at k3
      unfold q234
      simp (disch := omega) only [k, k3, nI_lit, nI_add, pk_mul, nI_clp, nI_eqv, nI_lev, nI_ltv, nI_neg, nI_neg', nI_subv, Nat.add_zero, Nat.zero_add, Nat.mul_zero, Nat.reduceAdd, bN_rv, bM_ru, bV_rv, bV_rx, bU_ru, bU_rx, bN_ite, bM_ite, bV_ite, bU_ite, ↓bx_e, ↓sp_e, gA_ok, gZ_n, gB_0, gB_1, gB_i, and_true, and_false, true_and, false_and, decide_true, decide_false, ↓reduceIte, not_true_eq_false, not_false_eq_true, Bool.false_eq_true, Bool.true_eq_false, Bool.and_true, Bool.and_false, Bool.true_and, Bool.false_and, Bool.or_true, Bool.or_false, Bool.true_or, Bool.false_or, Bool.not_true, Bool.not_false, le_f, le_t, lt_f, lt_t, eq_f, ↓reduceIte, not_true_eq_false, not_false_eq_true, ite_10, bt_0, bt_1]
    rename_i w3
    rw [Bool.eq_false_iff.mpr w3, b2_f] at k3
    split at e
    · rename_i w14
      injection e with e
      subst e
      rw [w14, b2_t] at k14
      unfold q234
      simp (disch := omega) only [k, k3, k14, nI_lit, nI_add, pk_mul, nI_clp, nI_eqv, nI_lev, nI_ltv, nI_neg, nI_neg', nI_subv, Nat.add_zero, Nat.zero_add, Nat.mul_zero, Nat.reduceAdd, bN_rv, bM_ru, bV_rv, bV_rx, bU_ru, bU_rx, bN_ite, bM_ite, bV_ite, bU_ite, ↓bx_e, ↓sp_e, gA_ok, gZ_n, gB_0, gB_1, gB_i, and_true, and_false, true_and, false_and, decide_true, decide_false, ↓reduceIte, not_true_eq_false, not_false_eq_true, Bool.false_eq_true, Bool.true_eq_false, Bool.and_true, Bool.and_false, Bool.true_and, Bool.false_and, Bool.or_true, Bool.or_false, Bool.true_or, Bool.false_or, Bool.not_true, Bool.not_false, le_f, le_t, lt_f, lt_t, eq_f, ↓reduceIte, not_true_eq_false, not_false_eq_true, ite_10, bt_0, bt_1]
    rename_i w14
    rw [Bool.eq_false_iff.mpr w14, b2_f] at k14
    split at e
    · rename_i w15
      injection e with e
      subst e
      rw [w15, b2_t] at k15
      unfold q234
      simp (disch := omega) only [k, k3, k14, k15, nI_lit, nI_add, pk_mul, nI_clp, nI_eqv, nI_lev, nI_ltv, nI_neg, nI_neg', nI_subv, Nat.add_zero, Nat.zero_add, Nat.mul_zero, Nat.reduceAdd, bN_rv, bM_ru, bV_rv, bV_rx, bU_ru, bU_rx, bN_ite, bM_ite, bV_ite, bU_ite, ↓bx_e, ↓sp_e, gA_ok, gZ_n, gB_0, gB_1, gB_i, and_true, and_false, true_and, false_and, decide_true, decide_false, ↓reduceIte, not_true_eq_false, not_false_eq_true, Bool.false_eq_true, Bool.true_eq_false, Bool.and_true, Bool.and_false, Bool.true_and, Bool.false_and, Bool.or_true, Bool.or_false, Bool.true_or, Bool.false_or, Bool.not_true, Bool.not_false, le_f, le_t, lt_f, lt_t, eq_f, ↓reduceIte, not_true_eq_false, not_false_eq_true, ite_10, bt_0, bt_1]
    · cases e
def HA (b : Nat → Nat) (L : Nat) (R : mS → Option mQ) (A : Nat → LR) (d : Nat) : Prop := ∀ t p c, IN b L t p c → t.1 512 13 = nI d → RQ b L t c (R t) (A p)
theorem m236 {R : mS → Option mQ} {A : Nat → LR} {d : Nat} (hR : HA b L R A d) (hA : ∀ p, p ≤ L → sk b L p = p → LRk L b p (A p)) : HA b L (q236F R) (allF b L A) d := by
  intro t p c h hd
  have hL := h.1.1
  have loop : ∀ m p l t1 N, SS b L t t1 c l p → c + l.length < p → L ≤ p + m → m < N → RQ b L t c (q236_9 R N t1) (allR b L A m p l) := by
    intro m
    induction m with
    | zero =>
      intro p l t1 N hS hc hm hN
      obtain ⟨pL, ps⟩ := AtP_l hS.2.1
      cases N with
      | zero => omega
      | succ N =>
        have k := m219_P (tx := 20) (TB_D h.1 hS.1) hS.2.1 (by omega) (by omega) (by omega)
        have hw : wd b L 20 p = false := by
          cases e : wd b L 20 p with
          | false => rfl
          | true => have := wd_p pL e; rw [tl_20] at this; omega
        rw [hw, b2_f, if_neg (show ¬ (false = true) by decide)] at k
        rw [allR]
        refine ⟨tB t1 p p, ?_, SS_1 hS⟩
        rw [q236_9]
        simp (disch := omega) only [k, nI_lit, nI_add, pk_mul, nI_clp, nI_eqv, nI_lev, nI_ltv, nI_neg, nI_neg', nI_subv, Nat.add_zero, Nat.zero_add, Nat.mul_zero, Nat.reduceAdd, bN_rv, bM_ru, bV_rv, bV_rx, bU_ru, bU_rx, bN_ite, bM_ite, bV_ite, bU_ite, ↓bx_e, ↓sp_e, gA_ok, gZ_n, gB_0, gB_1, gB_i, and_true, and_false, true_and, false_and, decide_true, decide_false, ↓reduceIte, not_true_eq_false, not_false_eq_true, Bool.false_eq_true, Bool.true_eq_false, Bool.and_true, Bool.and_false, Bool.true_and, Bool.false_and, Bool.or_true, Bool.or_false, Bool.true_or, Bool.false_or, Bool.not_true, Bool.not_false, le_f, le_t, lt_f, lt_t, eq_f, ↓reduceIte, not_true_eq_false, not_false_eq_true, ite_10, bt_0, bt_1]
    | succ m ih =>
      intro p l t1 N hS hc hm hN
      obtain ⟨pL, ps⟩ := AtP_l hS.2.1
      cases N with
      | zero => omega
      | succ N =>
        have k := m219_P (tx := 20) (TB_D h.1 hS.1) hS.2.1 (by omega) (by omega) (by omega)
        rw [allR]
        cases e : wd b L 20 p with
        | false =>
          rw [e, b2_f, if_neg (show ¬ (false = true) by decide)] at k
          rw [if_neg (show ¬ (false = true) by decide)]
          refine ⟨tB t1 p p, ?_, SS_1 hS⟩
          rw [q236_9]
          simp (disch := omega) only [k, nI_lit, nI_add, pk_mul, nI_clp, nI_eqv, nI_lev, nI_ltv, nI_neg, nI_neg', nI_subv, Nat.add_zero, Nat.zero_add, Nat.mul_zero, Nat.reduceAdd, bN_rv, bM_ru, bV_rv, bV_rx, bU_ru, bU_rx, bN_ite, bM_ite, bV_ite, bU_ite, ↓bx_e, ↓sp_e, gA_ok, gZ_n, gB_0, gB_1, gB_i, and_true, and_false, true_and, false_and, decide_true, decide_false, ↓reduceIte, not_true_eq_false, not_false_eq_true, Bool.false_eq_true, Bool.true_eq_false, Bool.and_true, Bool.and_false, Bool.true_and, Bool.false_and, Bool.or_true, Bool.or_false, Bool.true_or, Bool.false_or, Bool.not_true, Bool.not_false, le_f, le_t, lt_f, lt_t, eq_f, ↓reduceIte, not_true_eq_false, not_false_eq_true, ite_10, bt_0, bt_1]
        | true =>
          have hq := wd_p pL e
          rw [e, b2_t, if_pos rfl] at k
          rw [if_pos rfl]
          rw [tl_20] at hq k ⊢
          have hS2 := SS_m hS (q := p + 3) (g := p) (by omega)
          obtain ⟨s1, s2, -, s4⟩ := sk_p (b := b) (show p + 3 ≤ L by omega)
          have k2 := hR _ _ _ (SS_in hS2 h.1 (by omega)) (by rw [hS2.2.2.1]; exact hd)
          have kk := hA _ s2 s4
          cases e2 : A (sk b L (p + 3)) with
          | inl f =>
            rw [e2] at k2
            obtain ⟨t3, a1, a2⟩ := k2
            refine ⟨t3, ?_, SF_t hS2.1 a2⟩
            rw [q236_9]
            simp (disch := omega) only [k, a1, nI_lit, nI_add, pk_mul, nI_clp, nI_eqv, nI_lev, nI_ltv, nI_neg, nI_neg', nI_subv, Nat.add_zero, Nat.zero_add, Nat.mul_zero, Nat.reduceAdd, bN_rv, bM_ru, bV_rv, bV_rx, bU_ru, bU_rx, bN_ite, bM_ite, bV_ite, bU_ite, ↓bx_e, ↓sp_e, gA_ok, gZ_n, gB_0, gB_1, gB_i, and_true, and_false, true_and, false_and, decide_true, decide_false, ↓reduceIte, not_true_eq_false, not_false_eq_true, Bool.false_eq_true, Bool.true_eq_false, Bool.and_true, Bool.and_false, Bool.true_and, Bool.false_and, Bool.or_true, Bool.or_false, Bool.true_or, Bool.false_or, Bool.not_true, Bool.not_false, le_f, le_t, lt_f, lt_t, eq_f, ↓reduceIte, not_true_eq_false, not_false_eq_true, ite_10, bt_0, bt_1]
          | inr x =>
            rw [e2] at k2 kk
            obtain ⟨t3, a1, a2⟩ := k2
            obtain ⟨k1, k2', k3, k4, k5⟩ := kk
            have hS3 := SS_t hS2 a2
            have hS4 := SS_e (o := 15) (v := 0) hS3
            have k3 := m230 (x := nI 15) (y := nI 0) hS3.2.2.2.1 (by rw [List.length_append]; omega)
            rw [List.append_assoc] at hS4
            have i1 := ih x.1 _ _ N hS4 (by simp only [List.length_append, List.length_cons, List.length_nil]; omega) (by omega) (by omega)
            rw [q236_9]
            simp (disch := omega) only [k, a1, k3, nI_lit, nI_add, pk_mul, nI_clp, nI_eqv, nI_lev, nI_ltv, nI_neg, nI_neg', nI_subv, Nat.add_zero, Nat.zero_add, Nat.mul_zero, Nat.reduceAdd, bN_rv, bM_ru, bV_rv, bV_rx, bU_ru, bU_rx, bN_ite, bM_ite, bV_ite, bU_ite, ↓bx_e, ↓sp_e, gA_ok, gZ_n, gB_0, gB_1, gB_i, and_true, and_false, true_and, false_and, decide_true, decide_false, ↓reduceIte, not_true_eq_false, not_false_eq_true, Bool.false_eq_true, Bool.true_eq_false, Bool.and_true, Bool.and_false, Bool.true_and, Bool.false_and, Bool.or_true, Bool.or_false, Bool.true_or, Bool.false_or, Bool.not_true, Bool.not_false, le_f, le_t, lt_f, lt_t, eq_f, ↓reduceIte, not_true_eq_false, not_false_eq_true, ite_10, bt_0, bt_1]
            exact i1
  obtain ⟨pL, ps⟩ := AtP_l h.2.1
  have k := hR t p c h hd
  have kk := hA p pL ps
  have hc := h.2.2.2
  unfold allF q236F
  cases e : A p with
  | inl f =>
    rw [e] at k
    obtain ⟨t3, a1, a2⟩ := k
    refine ⟨t3, ?_, a2⟩
    simp (disch := omega) only [a1, nI_lit, nI_add, pk_mul, nI_clp, nI_eqv, nI_lev, nI_ltv, nI_neg, nI_neg', nI_subv, Nat.add_zero, Nat.zero_add, Nat.mul_zero, Nat.reduceAdd, bN_rv, bM_ru, bV_rv, bV_rx, bU_ru, bU_rx, bN_ite, bM_ite, bV_ite, bU_ite, ↓bx_e, ↓sp_e, gA_ok, gZ_n, gB_0, gB_1, gB_i, and_true, and_false, true_and, false_and, decide_true, decide_false, ↓reduceIte, not_true_eq_false, not_false_eq_true, Bool.false_eq_true, Bool.true_eq_false, Bool.and_true, Bool.and_false, Bool.true_and, Bool.false_and, Bool.or_true, Bool.or_false, Bool.true_or, Bool.false_or, Bool.not_true, Bool.not_false, le_f, le_t, lt_f, lt_t, eq_f, ↓reduceIte, not_true_eq_false, not_false_eq_true, ite_10, bt_0, bt_1]
  | inr x =>
    rw [e] at k kk
    obtain ⟨t3, a1, a2⟩ := k
    obtain ⟨k1, k2, k3, k4, k5⟩ := kk
    have i1 := loop L x.1 x.2 t3 10000 a2 (by omega) (by omega) (by omega)
    simp (disch := omega) only [a1, nI_lit, nI_add, pk_mul, nI_clp, nI_eqv, nI_lev, nI_ltv, nI_neg, nI_neg', nI_subv, Nat.add_zero, Nat.zero_add, Nat.mul_zero, Nat.reduceAdd, bN_rv, bM_ru, bV_rv, bV_rx, bU_ru, bU_rx, bN_ite, bM_ite, bV_ite, bU_ite, ↓bx_e, ↓sp_e, gA_ok, gZ_n, gB_0, gB_1, gB_i, and_true, and_false, true_and, false_and, decide_true, decide_false, ↓reduceIte, not_true_eq_false, not_false_eq_true, Bool.false_eq_true, Bool.true_eq_false, Bool.and_true, Bool.and_false, Bool.true_and, Bool.false_and, Bool.or_true, Bool.or_false, Bool.true_or, Bool.false_or, Bool.not_true, Bool.not_false, le_f, le_t, lt_f, lt_t, eq_f, ↓reduceIte, not_true_eq_false, not_false_eq_true, ite_10, bt_0, bt_1]
    exact i1
theorem m237 {R : mS → Option mQ} {A : Nat → LR} {d : Nat} (hR : HA b L R A d) (hA : ∀ p, p ≤ L → sk b L p = p → LRk L b p (A p)) : HA b L (q237F (q236F R)) (condF b L A) d := by
  have hR6 := m236 hR hA
  have hA6 : ∀ p, p ≤ L → sk b L p = p → LRk L b p (allF b L A p) := fun p x y => all_k hA x y
  intro t p c h hd
  have hL := h.1.1
  have loop : ∀ m p l t1 N, SS b L t t1 c l p → c + l.length < p → L ≤ p + m → m < N → RQ b L t c (q237_9 (q236F R) N t1) (condR b L A m p l) := by
    intro m
    induction m with
    | zero =>
      intro p l t1 N hS hc hm hN
      obtain ⟨pL, ps⟩ := AtP_l hS.2.1
      cases N with
      | zero => omega
      | succ N =>
        have k := m219_P (tx := 21) (TB_D h.1 hS.1) hS.2.1 (by omega) (by omega) (by omega)
        have hw : wd b L 21 p = false := by
          cases e : wd b L 21 p with
          | false => rfl
          | true => have := wd_p pL e; rw [tl_21] at this; omega
        rw [hw, b2_f, if_neg (show ¬ (false = true) by decide)] at k
        rw [condR]
        refine ⟨tB t1 p p, ?_, SS_1 hS⟩
        rw [q237_9]
        simp (disch := omega) only [k, nI_lit, nI_add, pk_mul, nI_clp, nI_eqv, nI_lev, nI_ltv, nI_neg, nI_neg', nI_subv, Nat.add_zero, Nat.zero_add, Nat.mul_zero, Nat.reduceAdd, bN_rv, bM_ru, bV_rv, bV_rx, bU_ru, bU_rx, bN_ite, bM_ite, bV_ite, bU_ite, ↓bx_e, ↓sp_e, gA_ok, gZ_n, gB_0, gB_1, gB_i, and_true, and_false, true_and, false_and, decide_true, decide_false, ↓reduceIte, not_true_eq_false, not_false_eq_true, Bool.false_eq_true, Bool.true_eq_false, Bool.and_true, Bool.and_false, Bool.true_and, Bool.false_and, Bool.or_true, Bool.or_false, Bool.true_or, Bool.false_or, Bool.not_true, Bool.not_false, le_f, le_t, lt_f, lt_t, eq_f, ↓reduceIte, not_true_eq_false, not_false_eq_true, ite_10, bt_0, bt_1]
    | succ m ih =>
      intro p l t1 N hS hc hm hN
      obtain ⟨pL, ps⟩ := AtP_l hS.2.1
      cases N with
      | zero => omega
      | succ N =>
        have k := m219_P (tx := 21) (TB_D h.1 hS.1) hS.2.1 (by omega) (by omega) (by omega)
        rw [condR]
        cases e : wd b L 21 p with
        | false =>
          rw [e, b2_f, if_neg (show ¬ (false = true) by decide)] at k
          rw [if_neg (show ¬ (false = true) by decide)]
          refine ⟨tB t1 p p, ?_, SS_1 hS⟩
          rw [q237_9]
          simp (disch := omega) only [k, nI_lit, nI_add, pk_mul, nI_clp, nI_eqv, nI_lev, nI_ltv, nI_neg, nI_neg', nI_subv, Nat.add_zero, Nat.zero_add, Nat.mul_zero, Nat.reduceAdd, bN_rv, bM_ru, bV_rv, bV_rx, bU_ru, bU_rx, bN_ite, bM_ite, bV_ite, bU_ite, ↓bx_e, ↓sp_e, gA_ok, gZ_n, gB_0, gB_1, gB_i, and_true, and_false, true_and, false_and, decide_true, decide_false, ↓reduceIte, not_true_eq_false, not_false_eq_true, Bool.false_eq_true, Bool.true_eq_false, Bool.and_true, Bool.and_false, Bool.true_and, Bool.false_and, Bool.or_true, Bool.or_false, Bool.true_or, Bool.false_or, Bool.not_true, Bool.not_false, le_f, le_t, lt_f, lt_t, eq_f, ↓reduceIte, not_true_eq_false, not_false_eq_true, ite_10, bt_0, bt_1]
        | true =>
          have hq := wd_p pL e
          rw [e, b2_t, if_pos rfl] at k
          rw [if_pos rfl]
          rw [tl_21] at hq k ⊢
          have hS2 := SS_m hS (q := p + 2) (g := p) (by omega)
          obtain ⟨s1, s2, -, s4⟩ := sk_p (b := b) (show p + 2 ≤ L by omega)
          have k2 := hR6 _ _ _ (SS_in hS2 h.1 (by omega)) (by rw [hS2.2.2.1]; exact hd)
          have kk := hA6 _ s2 s4
          cases e2 : allF b L A (sk b L (p + 2)) with
          | inl f =>
            rw [e2] at k2
            obtain ⟨t3, a1, a2⟩ := k2
            refine ⟨t3, ?_, SF_t hS2.1 a2⟩
            rw [q237_9]
            simp (disch := omega) only [k, a1, nI_lit, nI_add, pk_mul, nI_clp, nI_eqv, nI_lev, nI_ltv, nI_neg, nI_neg', nI_subv, Nat.add_zero, Nat.zero_add, Nat.mul_zero, Nat.reduceAdd, bN_rv, bM_ru, bV_rv, bV_rx, bU_ru, bU_rx, bN_ite, bM_ite, bV_ite, bU_ite, ↓bx_e, ↓sp_e, gA_ok, gZ_n, gB_0, gB_1, gB_i, and_true, and_false, true_and, false_and, decide_true, decide_false, ↓reduceIte, not_true_eq_false, not_false_eq_true, Bool.false_eq_true, Bool.true_eq_false, Bool.and_true, Bool.and_false, Bool.true_and, Bool.false_and, Bool.or_true, Bool.or_false, Bool.true_or, Bool.false_or, Bool.not_true, Bool.not_false, le_f, le_t, lt_f, lt_t, eq_f, ↓reduceIte, not_true_eq_false, not_false_eq_true, ite_10, bt_0, bt_1]
          | inr x =>
            rw [e2] at k2 kk
            obtain ⟨t3, a1, a2⟩ := k2
            obtain ⟨k1, k2', k3, k4, k5⟩ := kk
            have hS3 := SS_t hS2 a2
            have hS4 := SS_e (o := 16) (v := 0) hS3
            have k3 := m230 (x := nI 16) (y := nI 0) hS3.2.2.2.1 (by rw [List.length_append]; omega)
            rw [List.append_assoc] at hS4
            have i1 := ih x.1 _ _ N hS4 (by simp only [List.length_append, List.length_cons, List.length_nil]; omega) (by omega) (by omega)
            rw [q237_9]
            simp (disch := omega) only [k, a1, k3, nI_lit, nI_add, pk_mul, nI_clp, nI_eqv, nI_lev, nI_ltv, nI_neg, nI_neg', nI_subv, Nat.add_zero, Nat.zero_add, Nat.mul_zero, Nat.reduceAdd, bN_rv, bM_ru, bV_rv, bV_rx, bU_ru, bU_rx, bN_ite, bM_ite, bV_ite, bU_ite, ↓bx_e, ↓sp_e, gA_ok, gZ_n, gB_0, gB_1, gB_i, and_true, and_false, true_and, false_and, decide_true, decide_false, ↓reduceIte, not_true_eq_false, not_false_eq_true, Bool.false_eq_true, Bool.true_eq_false, Bool.and_true, Bool.and_false, Bool.true_and, Bool.false_and, Bool.or_true, Bool.or_false, Bool.true_or, Bool.false_or, Bool.not_true, Bool.not_false, le_f, le_t, lt_f, lt_t, eq_f, ↓reduceIte, not_true_eq_false, not_false_eq_true, ite_10, bt_0, bt_1]
            exact i1
  obtain ⟨pL, ps⟩ := AtP_l h.2.1
  have k := hR6 t p c h hd
  have kk := hA6 p pL ps
  have hc := h.2.2.2
  unfold condF
  rw [q237F]
  cases e : allF b L A p with
  | inl f =>
    rw [e] at k
    obtain ⟨t3, a1, a2⟩ := k
    refine ⟨t3, ?_, a2⟩
    simp (disch := omega) only [a1, nI_lit, nI_add, pk_mul, nI_clp, nI_eqv, nI_lev, nI_ltv, nI_neg, nI_neg', nI_subv, Nat.add_zero, Nat.zero_add, Nat.mul_zero, Nat.reduceAdd, bN_rv, bM_ru, bV_rv, bV_rx, bU_ru, bU_rx, bN_ite, bM_ite, bV_ite, bU_ite, ↓bx_e, ↓sp_e, gA_ok, gZ_n, gB_0, gB_1, gB_i, and_true, and_false, true_and, false_and, decide_true, decide_false, ↓reduceIte, not_true_eq_false, not_false_eq_true, Bool.false_eq_true, Bool.true_eq_false, Bool.and_true, Bool.and_false, Bool.true_and, Bool.false_and, Bool.or_true, Bool.or_false, Bool.true_or, Bool.false_or, Bool.not_true, Bool.not_false, le_f, le_t, lt_f, lt_t, eq_f, ↓reduceIte, not_true_eq_false, not_false_eq_true, ite_10, bt_0, bt_1]
  | inr x =>
    rw [e] at k kk
    obtain ⟨t3, a1, a2⟩ := k
    obtain ⟨k1, k2, k3, k4, k5⟩ := kk
    have i1 := loop L x.1 x.2 t3 10000 a2 (by omega) (by omega) (by omega)
    simp (disch := omega) only [a1, nI_lit, nI_add, pk_mul, nI_clp, nI_eqv, nI_lev, nI_ltv, nI_neg, nI_neg', nI_subv, Nat.add_zero, Nat.zero_add, Nat.mul_zero, Nat.reduceAdd, bN_rv, bM_ru, bV_rv, bV_rx, bU_ru, bU_rx, bN_ite, bM_ite, bV_ite, bU_ite, ↓bx_e, ↓sp_e, gA_ok, gZ_n, gB_0, gB_1, gB_i, and_true, and_false, true_and, false_and, decide_true, decide_false, ↓reduceIte, not_true_eq_false, not_false_eq_true, Bool.false_eq_true, Bool.true_eq_false, Bool.and_true, Bool.and_false, Bool.true_and, Bool.false_and, Bool.or_true, Bool.or_false, Bool.true_or, Bool.false_or, Bool.not_true, Bool.not_false, le_f, le_t, lt_f, lt_t, eq_f, ↓reduceIte, not_true_eq_false, not_false_eq_true, ite_10, bt_0, bt_1]
    exact i1
end RL
