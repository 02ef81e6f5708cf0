/-! THE LAW'S TEXT: atoms of the class, and what waits -/
section CL
variable {b : Nat → Nat} {L : Nat}
theorem atF_n {p : Nat} : atF b L p none = p := rfl
theorem p37_70 {s0 s : mS} {c p x o : Nat} {l : List (Nat × Nat)} (h0 : CP b L s0) (hS : SM s0 s c l p) (hpL : p ≤ L) (hs : sk b L p = p) (hc : c + l.length < p) (hx : nI x = cEnc o (nI 0)) (hx3 : x < 10000) : QC s0 c (q37_70 (nI x) s) (match sumS b L p with
      | .inl f => .inl f
      | .inr (p2, c2) => .inr (p2, l ++ (c2 ++ [(o, 0)]))) := by
  have hL := h0.1
  have k := p38 (CP_E h0 hS.1) hS.2.1 hpL hs hS.2.2.1 hc
  have kk := sum_k (b := b) hpL hs
  unfold q37_70
  cases e : sumS b L p with
  | inl f =>
    rw [e] at k
    obtain ⟨s2, a1, a2, a3⟩ := k
    refine ⟨s2, ?_, FE_t hS.1 a2, a3⟩
    simp (disch := omega) only [a1, nI_lit, nI_add, pk_mul, nI_clp, nI_eqv, nI_lev, nI_ltv, nI_neg, nI_neg', nI_subv, Nat.add_zero, Nat.zero_add, Nat.mul_zero, Nat.reduceAdd, bN_rv, bM_ru, bV_rv, bV_rx, bU_ru, bU_rx, bN_ite, bM_ite, bV_ite, bU_ite, ↓bx_e, ↓sp_e, gA_ok, gZ_n, gB_0, gB_1, gB_i, and_true, and_false, true_and, false_and, decide_true, decide_false, ↓reduceIte, not_true_eq_false, not_false_eq_true, Bool.false_eq_true, Bool.true_eq_false, Bool.and_true, Bool.and_false, Bool.true_and, Bool.false_and, Bool.or_true, Bool.or_false, Bool.true_or, Bool.false_or, Bool.not_true, Bool.not_false, le_f, le_t, lt_f, lt_t, eq_f, ↓reduceIte, not_true_eq_false, not_false_eq_true, ite_10, bt_0, bt_1]
  | inr y =>
    rw [e] at k kk
    obtain ⟨s2, a1, a2⟩ := k
    obtain ⟨o1, o2, o3, o4, o5⟩ := kk
    have hS2 := SM_t hS a2
    have hS3 := SM_e (o := o) (v := 0) hS2 hx
    have k3 := p23 (x := nI x) hS2.2.2.1 (by rw [List.length_append]; omega)
    rw [List.append_assoc] at hS3
    refine ⟨_, ?_, hS3⟩
    simp (disch := omega) only [a1, k3, nI_lit, nI_add, pk_mul, nI_clp, nI_eqv, nI_lev, nI_ltv, nI_neg, nI_neg', nI_subv, Nat.add_zero, Nat.zero_add, Nat.mul_zero, Nat.reduceAdd, bN_rv, bM_ru, bV_rv, bV_rx, bU_ru, bU_rx, bN_ite, bM_ite, bV_ite, bU_ite, ↓bx_e, ↓sp_e, gA_ok, gZ_n, gB_0, gB_1, gB_i, and_true, and_false, true_and, false_and, decide_true, decide_false, ↓reduceIte, not_true_eq_false, not_false_eq_true, Bool.false_eq_true, Bool.true_eq_false, Bool.and_true, Bool.and_false, Bool.true_and, Bool.false_and, Bool.or_true, Bool.or_false, Bool.true_or, Bool.false_or, Bool.not_true, Bool.not_false, le_f, le_t, lt_f, lt_t, eq_f, ↓reduceIte, not_true_eq_false, not_false_eq_true, ite_10, bt_0, bt_1]
theorem p37 {s : mS} {p c : Nat} (h : CP b L s) (hp : s.1 1 2 = nI p) (hpL : p ≤ L) (hs : sk b L p = p) (h18 : s.1 18 1 = nI c) (hc : c < p) : QC s c (q37 s) (leafS b L p) := by
  have hL := h.1
  have k39 := p39 h hp hpL
  have cs : cAt s p = s := cAt_i hp
  unfold leafS
  cases e : tagS b L p with
  | some j =>
    obtain ⟨j1, j2, j3, j4⟩ := tag_l hpL e
    rw [e, show oI (some j) = nI j from rfl] at k39
    have hS := SM_A (p := sk b L (lw b L p)) h18
    have hS2 := SM_e (o := j) (v := 0) (x := nI (1000 + j)) hS (cE_k (by omega)).symm
    have k3 := p23 (x := nI (1000 + j)) hS.2.2.1 (show c + 0 < 400 by omega)
    refine ⟨_, ?_, hS2⟩
    unfold q37
    have k39 : q39 s = rv (nI j) (cAt s (sk b L (lw b L p))) := k39
    simp (disch := omega) only [k39, k3, nI_lit, nI_add, pk_mul, nI_clp, nI_eqv, nI_lev, nI_ltv, nI_neg, nI_neg', nI_subv, Nat.add_zero, Nat.zero_add, Nat.mul_zero, Nat.reduceAdd, bN_rv, bM_ru, bV_rv, bV_rx, bU_ru, bU_rx, bN_ite, bM_ite, bV_ite, bU_ite, ↓bx_e, ↓sp_e, gA_ok, gZ_n, gB_0, gB_1, gB_i, and_true, and_false, true_and, false_and, decide_true, decide_false, ↓reduceIte, not_true_eq_false, not_false_eq_true, Bool.false_eq_true, Bool.true_eq_false, Bool.and_true, Bool.and_false, Bool.true_and, Bool.false_and, Bool.or_true, Bool.or_false, Bool.true_or, Bool.false_or, Bool.not_true, Bool.not_false, le_f, le_t, lt_f, lt_t, eq_f, ↓reduceIte, not_true_eq_false, not_false_eq_true, ite_10, bt_0, bt_1]
  | none =>
    rw [e] at k39
    have k39 : q39 s = rv (-nI 1) s := k39.trans (by show rv (-nI 1) (cAt s p) = _; rw [cs])
    have k := p38 h hp hpL hs h18 hc
    have kk := sum_k (b := b) hpL hs
    show QC s c (q37 s) (cmpS b L p)
    unfold cmpS q37
    cases e1 : sumS b L p with
    | inl f =>
      rw [e1] at k
      obtain ⟨s2, a1, a2, a3⟩ := k
      refine ⟨s2, ?_, a2, a3⟩
      simp (disch := omega) only [k39, a1, nI_lit, nI_add, pk_mul, nI_clp, nI_eqv, nI_lev, nI_ltv, nI_neg, nI_neg', nI_subv, Nat.add_zero, Nat.zero_add, Nat.mul_zero, Nat.reduceAdd, bN_rv, bM_ru, bV_rv, bV_rx, bU_ru, bU_rx, bN_ite, bM_ite, bV_ite, bU_ite, ↓bx_e, ↓sp_e, gA_ok, gZ_n, gB_0, gB_1, gB_i, and_true, and_false, true_and, false_and, decide_true, decide_false, ↓reduceIte, not_true_eq_false, not_false_eq_true, Bool.false_eq_true, Bool.true_eq_false, Bool.and_true, Bool.and_false, Bool.true_and, Bool.false_and, Bool.or_true, Bool.or_false, Bool.true_or, Bool.false_or, Bool.not_true, Bool.not_false, le_f, le_t, lt_f, lt_t, eq_f, ↓reduceIte, not_true_eq_false, not_false_eq_true, ite_10, bt_0, bt_1]
    | inr x =>
      rw [e1] at k kk
      obtain ⟨s2, a1, a2⟩ := k
      obtain ⟨o1, o2, o3, o4, o5⟩ := kk
      have k60 := p104 (c := 60) (CP_E h a2.1) a2.2.1 o2 (by omega)
      have cs2 : cAt s2 x.1 = s2 := cAt_i a2.2.1
      have k62 := p104 (c := 62) (CP_E h a2.1) a2.2.1 o2 (by omega)
      dsimp only
      cases e60 : isB b L 60 60 x.1 with
      | true =>
        have hq := isB_t e60
        rw [e60, b2_t, if_pos rfl] at k60
        rw [if_pos rfl]
        obtain ⟨s1, s2', -, s4⟩ := sk_p (b := b) (show x.1 + 1 ≤ L by omega)
        have k2 := p37_70 (x := 2004) (o := 12) h (SM_m (q := sk b L (x.1 + 1)) a2) s2' s4 (by omega) (by decide) (by omega)
        simp (disch := omega) only [k39, a1, k60, nI_lit, nI_add, pk_mul, nI_clp, nI_eqv, nI_lev, nI_ltv, nI_neg, nI_neg', nI_subv, Nat.add_zero, Nat.zero_add, Nat.mul_zero, Nat.reduceAdd, bN_rv, bM_ru, bV_rv, bV_rx, bU_ru, bU_rx, bN_ite, bM_ite, bV_ite, bU_ite, ↓bx_e, ↓sp_e, gA_ok, gZ_n, gB_0, gB_1, gB_i, and_true, and_false, true_and, false_and, decide_true, decide_false, ↓reduceIte, not_true_eq_false, not_false_eq_true, Bool.false_eq_true, Bool.true_eq_false, Bool.and_true, Bool.and_false, Bool.true_and, Bool.false_and, Bool.or_true, Bool.or_false, Bool.true_or, Bool.false_or, Bool.not_true, Bool.not_false, le_f, le_t, lt_f, lt_t, eq_f, ↓reduceIte, not_true_eq_false, not_false_eq_true, ite_10, bt_0, bt_1]
        exact k2
      | false =>
        rw [e60, b2_f, if_neg (show ¬ (false = true) by decide), cs2] at k60
        rw [if_neg (show ¬ (false = true) by decide)]
        cases e62 : isB b L 62 62 x.1 with
        | true =>
          have hq := isB_t e62
          rw [e62, b2_t, if_pos rfl] at k62
          rw [if_pos rfl]
          obtain ⟨s1, s2', -, s4⟩ := sk_p (b := b) (show x.1 + 1 ≤ L by omega)
          have k2 := p37_70 (x := 2005) (o := 13) h (SM_m (q := sk b L (x.1 + 1)) a2) s2' s4 (by omega) (by decide) (by omega)
          simp (disch := omega) only [k39, a1, k60, k62, nI_lit, nI_add, pk_mul, nI_clp, nI_eqv, nI_lev, nI_ltv, nI_neg, nI_neg', nI_subv, Nat.add_zero, Nat.zero_add, Nat.mul_zero, Nat.reduceAdd, bN_rv, bM_ru, bV_rv, bV_rx, bU_ru, bU_rx, bN_ite, bM_ite, bV_ite, bU_ite, ↓bx_e, ↓sp_e, gA_ok, gZ_n, gB_0, gB_1, gB_i, and_true, and_false, true_and, false_and, decide_true, decide_false, ↓reduceIte, not_true_eq_false, not_false_eq_true, Bool.false_eq_true, Bool.true_eq_false, Bool.and_true, Bool.and_false, Bool.true_and, Bool.false_and, Bool.or_true, Bool.or_false, Bool.true_or, Bool.false_or, Bool.not_true, Bool.not_false, le_f, le_t, lt_f, lt_t, eq_f, ↓reduceIte, not_true_eq_false, not_false_eq_true, ite_10, bt_0, bt_1]
          exact k2
        | false =>
          rw [e62, b2_f, if_neg (show ¬ (false = true) by decide), cs2] at k62
          rw [if_neg (show ¬ (false = true) by decide)]
          refine ⟨s2, ?_, a2.1, a2.2.1⟩
          simp (disch := omega) only [k39, a1, k60, k62, q37_70, nI_lit, nI_add, pk_mul, nI_clp, nI_eqv, nI_lev, nI_ltv, nI_neg, nI_neg', nI_subv, Nat.add_zero, Nat.zero_add, Nat.mul_zero, Nat.reduceAdd, bN_rv, bM_ru, bV_rv, bV_rx, bU_ru, bU_rx, bN_ite, bM_ite, bV_ite, bU_ite, ↓bx_e, ↓sp_e, gA_ok, gZ_n, gB_0, gB_1, gB_i, and_true, and_false, true_and, false_and, decide_true, decide_false, ↓reduceIte, not_true_eq_false, not_false_eq_true, Bool.false_eq_true, Bool.true_eq_false, Bool.and_true, Bool.and_false, Bool.true_and, Bool.false_and, Bool.or_true, Bool.or_false, Bool.true_or, Bool.false_or, Bool.not_true, Bool.not_false, le_f, le_t, lt_f, lt_t, eq_f, ↓reduceIte, not_true_eq_false, not_false_eq_true, ite_10, bt_0, bt_1]
/-- what waits, the last first -/
def PL (s : mS) : List Nat → Prop
  | [] => True
  | x :: l => s.1 25 l.length = nI x ∧ PL s l
theorem PL_u {s s' : mS} : ∀ {l : List Nat}, PL s l → (∀ j, j < l.length → s'.1 25 j = s.1 25 j) → PL s' l := by
  intro l
  induction l with
  | nil => intro _ _; trivial
  | cons x l ih =>
    intro h hc
    rw [List.length_cons] at hc
    exact ⟨by rw [hc _ (by omega)]; exact h.1, ih h.2 (fun j hj => hc j (by omega))⟩
def PN (s : mS) (P : List Nat) : Prop := s.1 17 3 = nI P.length ∧ PL s P ∧ (∀ x, x ∈ P → x ≤ 3000) ∧ P.length ≤ 24
def CS (b : Nat → Nat) (L : Nat) (s : mS) (p c d : Nat) (P : List Nat) : Prop := CP b L s ∧ s.1 1 2 = nI p ∧ s.1 18 1 = nI c ∧ s.1 17 4 = nI d ∧ PN s P
def puS (s : mS) (n x : Nat) : mS := sI (sI s 25 n (nI x)) 17 3 (nI (n + 1))
theorem p32 {s : mS} {n x : Nat} (h : s.1 17 3 = nI n) (hn : n < 24) : q32 (nI x) s = ru (puS s n x) := by
  have e : (sI s 25 n (nI x)).1 17 3 = nI n := by rw [sI_fn (by omega)]; exact h
  unfold q32 puS
  simp (disch := omega) only [h, e, nI_lit, nI_add, pk_mul, nI_clp, nI_eqv, nI_lev, nI_ltv, nI_neg, nI_neg', nI_subv, Nat.add_zero, Nat.zero_add, Nat.mul_zero, Nat.reduceAdd, bN_rv, bM_ru, bV_rv, bV_rx, bU_ru, bU_rx, bN_ite, bM_ite, bV_ite, bU_ite, ↓bx_e, ↓sp_e, gA_ok, gZ_n, gB_0, gB_1, gB_i, and_true, and_false, true_and, false_and, decide_true, decide_false, ↓reduceIte, not_true_eq_false, not_false_eq_true, Bool.false_eq_true, Bool.true_eq_false, Bool.and_true, Bool.and_false, Bool.true_and, Bool.false_and, Bool.or_true, Bool.or_false, Bool.true_or, Bool.false_or, Bool.not_true, Bool.not_false, le_f, le_t, lt_f, lt_t, eq_f, ↓reduceIte, not_true_eq_false, not_false_eq_true, ite_10, bt_0, bt_1]
theorem pu_E {s : mS} {n x : Nat} : FE s (puS s n x) := by
  unfold puS
  exact ⟨fun y _ a _ _ b => by rw [sI_fn a, sI_fn b], fun j _ => by rw [sI_fn (by omega), sI_fn (by omega)], fun j a _ => by rw [sI_sm, ud_n a, sI_fn (by omega)], fun j _ => by rw [sI_fn (by omega), sI_fn (by omega)], Eq.trans rfl rfl⟩
theorem pu_N {s : mS} {P : List Nat} {x : Nat} (h : PN s P) (hx : x ≤ 3000) (hP : P.length < 24) : PN (puS s P.length x) (x :: P) := by
  obtain ⟨h1, h2, h3, h4⟩ := h
  unfold puS
  refine ⟨by rw [sI_sm, ud_e rfl, List.length_cons], ⟨by rw [sI_fn (by omega), sI_sm, ud_e rfl], PL_u h2 (fun j hj => by rw [sI_fn (by omega), sI_sm, ud_n (by omega)])⟩, fun y hy => ?_, by rw [List.length_cons]; omega⟩
  rcases List.mem_cons.mp hy with e | e
  · omega
  · exact h3 y e
theorem pu_CS {s : mS} {p c d x : Nat} {P : List Nat} (h : CS b L s p c d P) (hx : x ≤ 3000) (hP : P.length < 24) : CS b L (puS s P.length x) p c d (x :: P) := by
  obtain ⟨h1, h2, h3, h4, h5⟩ := h
  refine ⟨CP_E h1 pu_E, ?_, ?_, ?_, pu_N h5 hx hP⟩
  · unfold puS; rw [sI_fn (by omega), sI_fn (by omega)]; exact h2
  · unfold puS; rw [sI_fn (by omega), sI_fn (by omega)]; exact h3
  · unfold puS; rw [sI_sm, ud_n (by omega), sI_fn (by omega)]; exact h4
theorem p33_e {s : mS} {lo hi : Nat} (h : PN s []) : q33 (nI lo) (nI hi) s = rv (nI 0) s := by
  have h1 : s.1 17 3 = nI 0 := h.1
  unfold q33
  simp (disch := omega) only [h1, nI_lit, nI_add, pk_mul, nI_clp, nI_eqv, nI_lev, nI_ltv, nI_neg, nI_neg', nI_subv, Nat.add_zero, Nat.zero_add, Nat.mul_zero, Nat.reduceAdd, bN_rv, bM_ru, bV_rv, bV_rx, bU_ru, bU_rx, bN_ite, bM_ite, bV_ite, bU_ite, ↓bx_e, ↓sp_e, gA_ok, gZ_n, gB_0, gB_1, gB_i, and_true, and_false, true_and, false_and, decide_true, decide_false, ↓reduceIte, not_true_eq_false, not_false_eq_true, Bool.false_eq_true, Bool.true_eq_false, Bool.and_true, Bool.and_false, Bool.true_and, Bool.false_and, Bool.or_true, Bool.or_false, Bool.true_or, Bool.false_or, Bool.not_true, Bool.not_false, le_f, le_t, lt_f, lt_t, eq_f, ↓reduceIte, not_true_eq_false, not_false_eq_true, ite_10, bt_0, bt_1]
theorem p33_c {s : mS} {lo hi x : Nat} {P : List Nat} (h : PN s (x :: P)) (hlo : lo < 10000) (hhi : hi < 10000) : q33 (nI lo) (nI hi) s = rv (b2 (decide (lo ≤ x) && decide (x ≤ hi))) s := by
  obtain ⟨h1, ⟨h2, -⟩, h3, h4⟩ := h
  rw [List.length_cons] at h1 h4
  have hx := h3 x List.mem_cons_self
  have e : nI (P.length + 1) - nI 1 = nI P.length := by rw [nI_subv (by omega), Nat.add_sub_cancel]
  unfold q33
  by_cases c1 : lo ≤ x
  · by_cases c2 : x ≤ hi
    · rw [decide_eq_true c1, decide_eq_true c2, Bool.true_and, b2_t]
      simp (disch := omega) only [h1, nI_lit, e, h2, nI_lit, nI_add, pk_mul, nI_clp, nI_eqv, nI_lev, nI_ltv, nI_neg, nI_neg', nI_subv, Nat.add_zero, Nat.zero_add, Nat.mul_zero, Nat.reduceAdd, bN_rv, bM_ru, bV_rv, bV_rx, bU_ru, bU_rx, bN_ite, bM_ite, bV_ite, bU_ite, ↓bx_e, ↓sp_e, gA_ok, gZ_n, gB_0, gB_1, gB_i, and_true, and_false, true_and, false_and, decide_true, decide_false, ↓reduceIte, not_true_eq_false, not_false_eq_true, Bool.false_eq_true, Bool.true_eq_false, Bool.and_true, Bool.and_false, Bool.true_and, Bool.false_and, Bool.or_true, Bool.or_false, Bool.true_or, Bool.false_or, Bool.not_true, Bool.not_false, le_f, le_t, lt_f, lt_t, eq_f, ↓reduceIte, not_true_eq_false, not_false_eq_true, ite_10, bt_0, bt_1]
    · rw [decide_eq_false c2, Bool.and_false, b2_f]
      simp (disch := omega) only [h1, nI_lit, e, h2, nI_lit, nI_add, pk_mul, nI_clp, nI_eqv, nI_lev, nI_ltv, nI_neg, nI_neg', nI_subv, Nat.add_zero, Nat.zero_add, Nat.mul_zero, Nat.reduceAdd, bN_rv, bM_ru, bV_rv, bV_rx, bU_ru, bU_rx, bN_ite, bM_ite, bV_ite, bU_ite, ↓bx_e, ↓sp_e, gA_ok, gZ_n, gB_0, gB_1, gB_i, and_true, and_false, true_and, false_and, decide_true, decide_false, ↓reduceIte, not_true_eq_false, not_false_eq_true, Bool.false_eq_true, Bool.true_eq_false, Bool.and_true, Bool.and_false, Bool.true_and, Bool.false_and, Bool.or_true, Bool.or_false, Bool.true_or, Bool.false_or, Bool.not_true, Bool.not_false, le_f, le_t, lt_f, lt_t, eq_f, ↓reduceIte, not_true_eq_false, not_false_eq_true, ite_10, bt_0, bt_1]
  · rw [decide_eq_false c1, Bool.false_and, b2_f]
    simp (disch := omega) only [h1, nI_lit, e, h2, nI_lit, nI_add, pk_mul, nI_clp, nI_eqv, nI_lev, nI_ltv, nI_neg, nI_neg', nI_subv, Nat.add_zero, Nat.zero_add, Nat.mul_zero, Nat.reduceAdd, bN_rv, bM_ru, bV_rv, bV_rx, bU_ru, bU_rx, bN_ite, bM_ite, bV_ite, bU_ite, ↓bx_e, ↓sp_e, gA_ok, gZ_n, gB_0, gB_1, gB_i, and_true, and_false, true_and, false_and, decide_true, decide_false, ↓reduceIte, not_true_eq_false, not_false_eq_true, Bool.false_eq_true, Bool.true_eq_false, Bool.and_true, Bool.and_false, Bool.true_and, Bool.false_and, Bool.or_true, Bool.or_false, Bool.true_or, Bool.false_or, Bool.not_true, Bool.not_false, le_f, le_t, lt_f, lt_t, eq_f, ↓reduceIte, not_true_eq_false, not_false_eq_true, ite_10, bt_0, bt_1]
/-- signs that waited went into the code -/
def SJ (s s' : mS) (c : Nat) (l : List (Nat × Nat)) (d' : Nat) : Prop := FE s s' ∧ s'.1 1 2 = s.1 1 2 ∧ s'.1 18 1 = nI (c + l.length) ∧ DC s' c l ∧ (∀ j, j < c → s'.1 22 j = s.1 22 j) ∧ s'.1 17 4 = nI d'
def poS (s : mS) (n : Nat) : mS := sI s 17 3 (nI n)
theorem po_N {s : mS} {P : List Nat} {x : Nat} (h : PN s (x :: P)) : PN (poS s P.length) P := by
  obtain ⟨h1, ⟨-, h2⟩, h3, h4⟩ := h
  rw [List.length_cons] at h4
  unfold poS
  exact ⟨by rw [sI_sm, ud_e rfl], PL_u h2 (fun j _ => by rw [sI_fn (by omega)]), fun y hy => h3 y (List.mem_cons_of_mem _ hy), by omega⟩
theorem ad_N {s : mS} {P : List Nat} {c : Nat} {x : Int32} (h : PN s P) : PN (adS s c x) P := by
  obtain ⟨h1, h2, h3, h4⟩ := h
  unfold adS
  exact ⟨by rw [sI_fn (by omega), sI_fn (by omega)]; exact h1, PL_u h2 (fun j _ => by rw [sI_fn (by omega), sI_fn (by omega)]), h3, h4⟩
theorem d4_N {s : mS} {P : List Nat} {x : Int32} (h : PN s P) : PN (sI s 17 4 x) P := by
  obtain ⟨h1, h2, h3, h4⟩ := h
  exact ⟨by rw [sI_sm, ud_n (by omega)]; exact h1, PL_u h2 (fun j _ => by rw [sI_fn (by omega)]), h3, h4⟩
def dq (x : Nat) : Nat × Nat := if x = 2001 then (15, 0) else (16, 0)
theorem FE_po {s : mS} {n : Nat} : FE s (poS s n) := by
  unfold poS
  exact ⟨fun y _ a _ _ _ => sI_fn a, fun j _ => by rw [sI_fn (by omega)], fun j a _ => by rw [sI_sm, ud_n a], fun j _ => by rw [sI_fn (by omega)], Eq.trans rfl rfl⟩
theorem FE_d4 {s : mS} {x : Int32} : FE s (sI s 17 4 x) := ⟨fun y _ a _ _ _ => sI_fn a, fun j _ => by rw [sI_fn (by omega)], fun j _ a => by rw [sI_sm, ud_n a], fun j _ => by rw [sI_fn (by omega)], Eq.trans rfl rfl⟩
theorem SJ_t {s s1 s2 : mS} {c d1 d2 : Nat} {l1 l2 : List (Nat × Nat)} (h : SJ s s1 c l1 d1) (h2 : SJ s1 s2 (c + l1.length) l2 d2) : SJ s s2 c (l1 ++ l2) d2 := by
  obtain ⟨a1, a2, a3, a4, a5, a6⟩ := h
  obtain ⟨e1, e2, e3, e4, e5, e6⟩ := h2
  exact ⟨FE_t a1 e1, e2.trans a2, by rw [e3, List.length_append, Nat.add_assoc], DC_a (DC_c a4 (fun j hj => e5 j (by omega))) e4, fun j hj => by rw [e5 j (by omega), a5 j hj], e6⟩
theorem SJ_1 {s : mS} {n c d o : Nat} {x : Int32} (h4 : s.1 17 4 = nI d) (hx : x = cEnc o (nI 0)) : SJ s (adS (poS s n) c x) c [(o, 0)] d := by
  subst hx
  have k := SM_d (s := poS s n) (c := c) (p := 0) (o := o) (v := 0) (x := cEnc o (nI 0))
  unfold adS poS
  refine ⟨⟨fun y _ a e f _ => by rw [sI_fn e, sI_fn f, sI_fn a], fun j _ => by rw [sI_fn (by omega), sI_fn (by omega), sI_fn (by omega)], fun j a _ => by rw [sI_fn (by omega), sI_fn (by omega), sI_sm, ud_n a], fun j hj => by rw [sI_sm, ud_n hj, sI_fn (by omega), sI_fn (by omega)], Eq.trans rfl rfl⟩, by rw [sI_fn (by omega), sI_fn (by omega), sI_fn (by omega)], by rw [sI_sm, ud_e rfl]; rfl, ⟨by rw [sI_fn (by omega), sI_sm, ud_e rfl], trivial⟩, fun j hj => by rw [sI_fn (by omega), sI_sm, ud_n (by omega), sI_fn (by omega)], by rw [sI_fn (by omega), sI_fn (by omega), sI_sm, ud_n (by omega)]; exact h4⟩
theorem SJ_0 {s : mS} {c d : Nat} (h18 : s.1 18 1 = nI c) (h4 : s.1 17 4 = nI d) : SJ s s c [] d := ⟨FE_r, rfl, h18, trivial, fun _ _ => rfl, h4⟩
theorem p34_0 {K : Int32 → mS → Option mQ} {v2 : Int32} {hi d : Nat} (hhi : hi < 10000) : ∀ (M Q : List Nat) c s N, (∀ x, x ∈ M → (x = 2001 ∨ x = 2002) ∧ x ≤ hi) → (∀ x r, Q = x :: r → ¬ (2001 ≤ x ∧ x ≤ hi)) → PN s (M ++ Q) → s.1 18 1 = nI c → s.1 17 4 = nI d → c + M.length ≤ 400 → M.length < N → ∃ s', q34_0 K N (nI hi) v2 s = K v2 s' ∧ PN s' Q ∧ SJ s s' c (M.map dq) d := by
  intro M
  induction M with
  | nil =>
    intro Q c s N hM hQ hP h18 h4 hc hN
    rw [List.nil_append] at hP
    obtain ⟨N, rfl⟩ : ∃ m, N = m + 1 := ⟨N - 1, by rw [List.length_nil] at hN; omega⟩
    refine ⟨s, ?_, hP, SJ_0 h18 h4⟩
    rw [q34_0]
    cases Q with
    | nil =>
      have h1 : s.1 17 3 = nI 0 := hP.1
      simp (disch := omega) only [h1, nI_lit, nI_add, pk_mul, nI_clp, nI_eqv, nI_lev, nI_ltv, nI_neg, nI_neg', nI_subv, Nat.add_zero, Nat.zero_add, Nat.mul_zero, Nat.reduceAdd, bN_rv, bM_ru, bV_rv, bV_rx, bU_ru, bU_rx, bN_ite, bM_ite, bV_ite, bU_ite, ↓bx_e, ↓sp_e, gA_ok, gZ_n, gB_0, gB_1, gB_i, and_true, and_false, true_and, false_and, decide_true, decide_false, ↓reduceIte, not_true_eq_false, not_false_eq_true, Bool.false_eq_true, Bool.true_eq_false, Bool.and_true, Bool.and_false, Bool.true_and, Bool.false_and, Bool.or_true, Bool.or_false, Bool.true_or, Bool.false_or, Bool.not_true, Bool.not_false, le_f, le_t, lt_f, lt_t, eq_f, ↓reduceIte, not_true_eq_false, not_false_eq_true, ite_10, bt_0, bt_1]
    | cons x r =>
      have k := p33_c (lo := 2001) (hi := hi) hP (by omega) hhi
      have hq := hQ x r rfl
      have : (decide (2001 ≤ x) && decide (x ≤ hi)) = false := by
        by_cases q : 2001 ≤ x
        · rw [decide_eq_false (show ¬ x ≤ hi by omega), Bool.and_false]
        · rw [decide_eq_false q, Bool.false_and]
      rw [this, b2_f] at k
      have h1 := hP.1
      have h2 := hP.2.2.2
      rw [List.length_cons] at h1 h2
      simp (disch := omega) only [h1, k, nI_lit, nI_add, pk_mul, nI_clp, nI_eqv, nI_lev, nI_ltv, nI_neg, nI_neg', nI_subv, Nat.add_zero, Nat.zero_add, Nat.mul_zero, Nat.reduceAdd, bN_rv, bM_ru, bV_rv, bV_rx, bU_ru, bU_rx, bN_ite, bM_ite, bV_ite, bU_ite, ↓bx_e, ↓sp_e, gA_ok, gZ_n, gB_0, gB_1, gB_i, and_true, and_false, true_and, false_and, decide_true, decide_false, ↓reduceIte, not_true_eq_false, not_false_eq_true, Bool.false_eq_true, Bool.true_eq_false, Bool.and_true, Bool.and_false, Bool.true_and, Bool.false_and, Bool.or_true, Bool.or_false, Bool.true_or, Bool.false_or, Bool.not_true, Bool.not_false, le_f, le_t, lt_f, lt_t, eq_f, ↓reduceIte, not_true_eq_false, not_false_eq_true, ite_10, bt_0, bt_1]
  | cons x M ih =>
    intro Q c s N hM hQ hP h18 h4 hc hN
    rw [List.length_cons] at hc hN
    obtain ⟨N, rfl⟩ : ∃ m, N = m + 1 := ⟨N - 1, by omega⟩
    obtain ⟨x1, x2⟩ := hM x List.mem_cons_self
    have hP' : PN s (x :: (M ++ Q)) := hP
    have k := p33_c (lo := 2001) (hi := hi) hP' (by omega) hhi
    rw [decide_eq_true (show 2001 ≤ x by omega), decide_eq_true x2, Bool.true_and, b2_t] at k
    have h1 := hP'.1
    have h2 := hP'.2.2.2
    have h3 := hP'.2.1.1
    rw [List.length_cons] at h1 h2
    have hx : nI x = cEnc (dq x).1 (nI 0) := by
      rcases x1 with e | e <;> subst e <;> decide
    have hd : [dq x] = [((dq x).1, 0)] := by
      rcases x1 with e | e <;> subst e <;> rfl
    have hJ := SJ_1 (s := s) (n := (M ++ Q).length) (c := c) h4 hx
    have e18 : (poS s (M ++ Q).length).1 18 1 = nI c := by unfold poS; rw [sI_fn (by omega)]; exact h18
    have k2 := p23 (x := nI x) e18 (by omega)
    obtain ⟨s', a1, a2, a3⟩ := ih Q (c + 1) (adS (poS s (M ++ Q).length) c (nI x)) N (fun y hy => hM y (List.mem_cons_of_mem _ hy)) hQ (ad_N (po_N hP')) hJ.2.2.1 hJ.2.2.2.2.2 (by omega) (by omega)
    refine ⟨s', ?_, a2, ?_⟩
    · rw [← a1, q34_0]
      have e3 : (sI s 17 3 (nI (M ++ Q).length)).1 17 3 = nI (M ++ Q).length := by rw [sI_sm, ud_e rfl]
      have e5 : (sI s 17 3 (nI (M ++ Q).length)).1 25 (M ++ Q).length = nI x := by rw [sI_fn (by omega)]; exact h3
      have es : nI ((M ++ Q).length + 1) - nI 1 = nI (M ++ Q).length := by rw [nI_subv (by omega), Nat.add_sub_cancel]
      have k2' : q23 18 (nI x) (sI s 17 3 (nI (M ++ Q).length)) = ru (adS (poS s (M ++ Q).length) c (nI x)) := k2
      simp (disch := omega) only [h1, nI_lit, k, es, e3, e5, k2', nI_lit, nI_add, pk_mul, nI_clp, nI_eqv, nI_lev, nI_ltv, nI_neg, nI_neg', nI_subv, Nat.add_zero, Nat.zero_add, Nat.mul_zero, Nat.reduceAdd, bN_rv, bM_ru, bV_rv, bV_rx, bU_ru, bU_rx, bN_ite, bM_ite, bV_ite, bU_ite, ↓bx_e, ↓sp_e, gA_ok, gZ_n, gB_0, gB_1, gB_i, and_true, and_false, true_and, false_and, decide_true, decide_false, ↓reduceIte, not_true_eq_false, not_false_eq_true, Bool.false_eq_true, Bool.true_eq_false, Bool.and_true, Bool.and_false, Bool.true_and, Bool.false_and, Bool.or_true, Bool.or_false, Bool.true_or, Bool.false_or, Bool.not_true, Bool.not_false, le_f, le_t, lt_f, lt_t, eq_f, ↓reduceIte, not_true_eq_false, not_false_eq_true, ite_10, bt_0, bt_1]
    · have := SJ_t hJ a3
      rw [← hd] at this
      exact this
/-- nots end -/
theorem p35_0 : ∀ j (P : List Nat) c d s N, (∀ x r, P = x :: r → x ≠ 2000) → PN s (List.replicate j 2000 ++ P) → s.1 18 1 = nI c → s.1 17 4 = nI d → j ≤ d → d < 100 → c + j ≤ 400 → j < N → ∃ s', q35_0 N s = ru s' ∧ PN s' P ∧ SJ s s' c (List.replicate j (14, 0)) (d - j) := by
  intro j
  induction j with
  | zero =>
    intro P c d s N hP hN h18 h4 hj hd hc hNN
    obtain ⟨N, rfl⟩ : ∃ m, N = m + 1 := ⟨N - 1, by omega⟩
    have hN : PN s P := hN
    refine ⟨s, ?_, hN, SJ_0 h18 h4⟩
    rw [q35_0]
    cases P with
    | nil =>
      have h1 : s.1 17 3 = nI 0 := hN.1
      simp (disch := omega) only [h1, nI_lit, nI_add, pk_mul, nI_clp, nI_eqv, nI_lev, nI_ltv, nI_neg, nI_neg', nI_subv, Nat.add_zero, Nat.zero_add, Nat.mul_zero, Nat.reduceAdd, bN_rv, bM_ru, bV_rv, bV_rx, bU_ru, bU_rx, bN_ite, bM_ite, bV_ite, bU_ite, ↓bx_e, ↓sp_e, gA_ok, gZ_n, gB_0, gB_1, gB_i, and_true, and_false, true_and, false_and, decide_true, decide_false, ↓reduceIte, not_true_eq_false, not_false_eq_true, Bool.false_eq_true, Bool.true_eq_false, Bool.and_true, Bool.and_false, Bool.true_and, Bool.false_and, Bool.or_true, Bool.or_false, Bool.true_or, Bool.false_or, Bool.not_true, Bool.not_false, le_f, le_t, lt_f, lt_t, eq_f, ↓reduceIte, not_true_eq_false, not_false_eq_true, ite_10, bt_0, bt_1]
    | cons x r =>
      have k := p33_c (lo := 2000) (hi := 2000) hN (by omega) (by omega)
      have hq := hP x r rfl
      have : (decide (2000 ≤ x) && decide (x ≤ 2000)) = false := by
        by_cases q : 2000 ≤ x
        · rw [decide_eq_false (show ¬ x ≤ 2000 by omega), Bool.and_false]
        · rw [decide_eq_false q, Bool.false_and]
      rw [this, b2_f] at k
      have h1 := hN.1
      have h2 := hN.2.2.2
      rw [List.length_cons] at h1 h2
      simp (disch := omega) only [h1, k, nI_lit, nI_add, pk_mul, nI_clp, nI_eqv, nI_lev, nI_ltv, nI_neg, nI_neg', nI_subv, Nat.add_zero, Nat.zero_add, Nat.mul_zero, Nat.reduceAdd, bN_rv, bM_ru, bV_rv, bV_rx, bU_ru, bU_rx, bN_ite, bM_ite, bV_ite, bU_ite, ↓bx_e, ↓sp_e, gA_ok, gZ_n, gB_0, gB_1, gB_i, and_true, and_false, true_and, false_and, decide_true, decide_false, ↓reduceIte, not_true_eq_false, not_false_eq_true, Bool.false_eq_true, Bool.true_eq_false, Bool.and_true, Bool.and_false, Bool.true_and, Bool.false_and, Bool.or_true, Bool.or_false, Bool.true_or, Bool.false_or, Bool.not_true, Bool.not_false, le_f, le_t, lt_f, lt_t, eq_f, ↓reduceIte, not_true_eq_false, not_false_eq_true, ite_10, bt_0, bt_1]
  | succ j ih =>
    intro P c d s N hP hN h18 h4 hj hd hc hNN
    obtain ⟨N, rfl⟩ : ∃ m, N = m + 1 := ⟨N - 1, by omega⟩
    have hN' : PN s (2000 :: (List.replicate j 2000 ++ P)) := hN
    have k := p33_c (lo := 2000) (hi := 2000) hN' (by omega) (by omega)
    rw [decide_eq_true (Nat.le_refl _), Bool.true_and, b2_t] at k
    have h1 := hN'.1
    have h2 := hN'.2.2.2
    rw [List.length_cons] at h1 h2
    generalize hR : List.replicate j 2000 ++ P = R at *
    have es : nI (R.length + 1) - nI 1 = nI R.length := by rw [nI_subv (by omega), Nat.add_sub_cancel]
    have ed : nI d - nI 1 = nI (d - 1) := nI_subv (by omega)
    have e4 : (sI s 17 3 (nI R.length)).1 17 4 = nI d := by rw [sI_sm, ud_n (by omega)]; exact h4
    have e18 : (sI (sI s 17 3 (nI R.length)) 17 4 (nI (d - 1))).1 18 1 = nI c := by rw [sI_fn (by omega), sI_fn (by omega)]; exact h18
    have k2 := p23 (x := nI 2000) e18 (by omega)
    have ecm : sI (sI s 17 3 (nI R.length)) 17 4 (nI (d - 1)) = poS (sI s 17 4 (nI (d - 1))) R.length := sI_cm (by omega)
    rw [ecm] at k2
    have hJ := SJ_1 (s := sI s 17 4 (nI (d - 1))) (n := R.length) (c := c) (d := d - 1) (o := 14) (x := nI 2000) (by rw [sI_sm, ud_e rfl]) (by decide)
    have hJ2 : SJ s (adS (poS (sI s 17 4 (nI (d - 1))) R.length) c (nI 2000)) c [(14, 0)] (d - 1) := ⟨FE_t FE_d4 hJ.1, by rw [hJ.2.1, sI_fn (by omega)], hJ.2.2.1, hJ.2.2.2.1, fun x hx => by rw [hJ.2.2.2.2.1 x hx, sI_fn (by omega)], hJ.2.2.2.2.2⟩
    obtain ⟨s', a1, a2, a3⟩ := ih P (c + 1) (d - 1) (adS (poS (sI s 17 4 (nI (d - 1))) R.length) c (nI 2000)) N hP (by rw [hR]; exact ad_N (po_N (x := 2000) (d4_N hN'))) hJ2.2.2.1 hJ2.2.2.2.2.2 (by omega) (by omega) (by omega) (by omega)
    refine ⟨s', ?_, a2, ?_⟩
    · rw [← a1, q35_0]
      simp (disch := omega) only [h1, nI_lit, k, es, e4, ed, ecm, k2, nI_lit, nI_add, pk_mul, nI_clp, nI_eqv, nI_lev, nI_ltv, nI_neg, nI_neg', nI_subv, Nat.add_zero, Nat.zero_add, Nat.mul_zero, Nat.reduceAdd, bN_rv, bM_ru, bV_rv, bV_rx, bU_ru, bU_rx, bN_ite, bM_ite, bV_ite, bU_ite, ↓bx_e, ↓sp_e, gA_ok, gZ_n, gB_0, gB_1, gB_i, and_true, and_false, true_and, false_and, decide_true, decide_false, ↓reduceIte, not_true_eq_false, not_false_eq_true, Bool.false_eq_true, Bool.true_eq_false, Bool.and_true, Bool.and_false, Bool.true_and, Bool.false_and, Bool.or_true, Bool.or_false, Bool.true_or, Bool.false_or, Bool.not_true, Bool.not_false, le_f, le_t, lt_f, lt_t, eq_f, ↓reduceIte, not_true_eq_false, not_false_eq_true, ite_10, bt_0, bt_1]
    · have := SJ_t hJ2 a3
      rw [show d - (j + 1) = d - 1 - j by omega, List.replicate_succ]
      exact this
end CL
