/-! LAW: both sides -/
theorem G_y {B : Nat} {s u : mS} (hG : G B s) (c : ∀ b, b ≠ 0 → b ≠ 1 → b ≠ 2 → b ≠ 518 → b ≠ 8 → b ≠ 9 → ¬ (15 ≤ b ∧ b < 26) → ¬ (58 ≤ b ∧ b < 90) → ¬ (122 ≤ b ∧ b < 127) → b ≠ 512 → b ≠ 513 → b ≠ 515 → b ≠ 516 → b < 519 → u.1 b = s.1 b) (h3 : ∀ j, j < 1619 → u.1 513 j = s.1 513 j) (h6 : ∀ j, j = 6 ∨ j = 7 → u.1 512 j = s.1 512 j) (h0 : ∀ j, j ≠ 13 → u.1 0 j = s.1 0 j) (hF : u.1 0 13 = u.1 512 14) (hT5 : GT u) : G B u := by
  obtain ⟨⟨w1, w2, T, hT, w3⟩, hI, ⟨r, x, r1, r2, r3, r4, r5, r6⟩, -, -, hU0, hU1, hU2⟩ := hG
  have c' : ∀ b, 3 ≤ b → b ≠ 8 → b ≠ 9 → ¬ (15 ≤ b ∧ b < 26) → ¬ (58 ≤ b ∧ b < 90) → ¬ (122 ≤ b ∧ b < 127) → b ≠ 512 → b ≠ 513 → b ≠ 515 → b ≠ 516 → b < 518 → u.1 b = s.1 b := fun b a1 a2 a3 a4 a5 a6 a7 a8 a9 a10 a11 => c b (by omega) (by omega) (by omega) (by omega) a2 a3 a4 a5 a6 a7 a8 a9 a10 (by omega)
  have e514 : u.1 514 = s.1 514 := c' 514 (by omega) (by omega) (by omega) (by omega) (by omega) (by omega) (by omega) (by omega) (by omega) (by omega) (by omega)
  have e517 : u.1 517 = s.1 517 := c' 517 (by omega) (by omega) (by omega) (by omega) (by omega) (by omega) (by omega) (by omega) (by omega) (by omega) (by omega)
  have eA : ∀ p j, j < 1619 → hAct u p j = hAct s p j := fun p j hj => by
    unfold hAct
    rw [e517]
    split
    · rfl
    · exact h3 j hj
  refine ⟨⟨RW_e w1 w3.1.1.1 (fun b x y => c' b (by omega) (by omega) (by omega) (by omega) (by omega) (by omega) (by omega) (by omega) (by omega) (by omega) (by omega)) h3, RLw_c w3.1.2.2.1 (h3 2 (by omega)) (fun j _ y => h3 j y) (fun b x y => c' b (by omega) (by omega) (by omega) (by omega) (by omega) (by omega) (by omega) (by omega) (by omega) (by omega) (by omega)) w2, T, hT, IA_e w3 h3⟩, ?_, ⟨r, x, r1, r2, by rw [h0 11 (by omega)]; exact r3, by rw [h6 7 (by omega)]; exact r4, by rw [h0 10 (by omega)]; exact r5, fun d hd => ?_⟩, hT5, hF, IUH_e hU0 h3, by rw [e514, h6 6 (by omega)]; exact hU1, fun r hr e p hp => IUH_e (hU2 r hr (by rw [← h6 7 (by omega)]; exact e) p hp) (eA p)⟩
  · rcases hI with ⟨i1, i2⟩ | ⟨i1, i2, i3, i4, T', hT', i5⟩
    · exact Or.inl ⟨by rw [h0 12 (by omega)]; exact i1, by rw [h6 6 (by omega)]; exact i2⟩
    · refine Or.inr ⟨by rw [h0 12 (by omega)]; exact i1, by rw [h6 6 (by omega)]; exact i2, ?_, ?_, T', hT', by rw [e514]; exact i5⟩
      · rw [e514]; exact RW_s i3 i5.1.1.1 (fun b x y => c' b (by omega) (by omega) (by omega) (by omega) (by omega) (by omega) (by omega) (by omega) (by omega) (by omega) (by omega))
      · have q : ∀ b, 10 ≤ b → b < 15 → u.1 b = s.1 b := fun b x y => c' b (by omega) (by omega) (by omega) (by omega) (by omega) (by omega) (by omega) (by omega) (by omega) (by omega) (by omega)
        unfold RLb at i4 ⊢
        rw [e514, q 10 (by omega) (by omega), q (10 + 1) (by omega) (by omega), q (10 + 2) (by omega) (by omega), q (10 + 3) (by omega) (by omega), q (10 + 4) (by omega) (by omega)]
        exact i4
  · obtain ⟨q1, q2, T', hT', q3⟩ := r6 d hd
    exact ⟨RW_e q1 q3.1.1.1 (fun b x y => c' b (by omega) (by omega) (by omega) (by omega) (by omega) (by omega) (by omega) (by omega) (by omega) (by omega) (by omega)) (eA _), by rw [e517, h3 2 (by omega)]; exact q2, T', hT', IA_e q3 (eA _)⟩
theorem G_z {B B' : Nat} {s u : mS} (hG : G B s) (hB : B ≤ B') (c : ∀ b, (90 ≤ b ∧ b < 122) ∨ (10 ≤ b ∧ b < 15) ∨ b = 514 → u.1 b = s.1 b) (h10 : u.1 0 10 = s.1 0 10) (h12 : u.1 0 12 = s.1 0 12) (h6 : u.1 512 6 = s.1 512 6) (h11 : u.1 0 11 = nI 0) (h7 : u.1 512 7 = nI 0) (hW : GW B' u) (hU : IUH B' (u.1 513)) (hF : u.1 0 13 = u.1 512 14) (hT5 : GT u) : G B' u := by
  obtain ⟨-, hI, ⟨r, x, r1, r2, r3, r4, r5, r6⟩, -, -, hU0, hU1, hU2⟩ := hG
  have e514 : u.1 514 = s.1 514 := c 514 (by omega)
  refine ⟨hW, ?_, ⟨0, x, by omega, r2, h11, h7, by rw [h10]; exact r5, fun d hd => by omega⟩, hT5, hF, hU, by rw [e514, h6]; exact fun q => IUH_mo (hU1 q) hB, fun r hr e p hp => ?_⟩
  · rcases hI with ⟨i1, i2⟩ | ⟨i1, i2, i3, i4, T', hT', i5⟩
    · exact Or.inl ⟨by rw [h12]; exact i1, by rw [h6]; exact i2⟩
    · refine Or.inr ⟨by rw [h12]; exact i1, by rw [h6]; exact i2, ?_, ?_, T', by omega, by rw [e514]; exact i5⟩
      · rw [e514]; exact RW_s i3 i5.1.1.1 (fun b x y => c b (by omega))
      · unfold RLb at i4 ⊢
        rw [e514, c 10 (by omega), c (10 + 1) (by omega), c (10 + 2) (by omega), c (10 + 3) (by omega), c (10 + 4) (by omega)]
        exact i4
  · have : r = 0 := (nI_eqv (by omega) (by omega)).mp (e.symm.trans h7)
    omega
section LAW
variable {b : Nat → Nat} {L : Nat}
theorem p28 {s : mS} (h : CP b L s) : match lawS b L with
    | .inl f => ∃ s', q28 s = rv (nI 0) s' ∧ FM s s' ∧ s'.1 1 2 = nI f
    | .inr ls => ∃ s', q28 s = rv (nI 1) s' ∧ FM s s' ∧ s'.1 18 0 = nI ls.length ∧ LC s' 0 0 ls := by
  obtain ⟨s1, s2, s3, s4⟩ := sk_p (b := b) (Nat.zero_le L)
  have hF0 : FM s (sI (sI s 18 0 (nI 0)) 18 1 (nI 0)) := ⟨fun x _ y => by rw [sI_fn (by omega), sI_fn (by omega)], fun j _ => by rw [sI_fn (by omega), sI_fn (by omega)], Eq.trans rfl rfl⟩
  have h1 := CP_M h hF0
  have k100 := p100 h1
  have hFA : FM s (cAt (sI (sI s 18 0 (nI 0)) 18 1 (nI 0)) (sk b L 0)) := FM_t hF0 (FM_E FE_A)
  have k101 := p101 (cAt_C (p := sk b L 0) h1) cAt_p s2
  have e0 : (cAt (sI (sI s 18 0 (nI 0)) 18 1 (nI 0)) (sk b L 0)).1 18 0 = nI 0 := by rw [cAt_n (by omega), sI_sm, ud_n (by omega), sI_sm, ud_e rfl]
  have e1 : (cAt (sI (sI s 18 0 (nI 0)) 18 1 (nI 0)) (sk b L 0)).1 18 1 = nI 0 := by rw [cAt_n (by omega), sI_sm, ud_e rfl]
  unfold lawS
  by_cases e : sk b L 0 = L
  · rw [decide_eq_true e, b2_t] at k101
    rw [if_pos e]
    refine ⟨_, ?_, hFA, e0, trivial⟩
    unfold q28 q22
    simp (disch := omega) only [k100, k101, nI_lit, nI_add, pk_mul, nI_clp, nI_eqv, nI_lev, nI_ltv, nI_neg, nI_neg', nI_subv, Nat.add_zero, Nat.zero_add, Nat.mul_zero, Nat.reduceAdd, bN_rv, bM_ru, bV_rv, bV_rx, bU_ru, bU_rx, bN_ite, bM_ite, bV_ite, bU_ite, ↓bx_e, ↓sp_e, gA_ok, gZ_n, gB_0, gB_1, gB_i, and_true, and_false, true_and, false_and, decide_true, decide_false, ↓reduceIte, not_true_eq_false, not_false_eq_true, Bool.false_eq_true, Bool.true_eq_false, Bool.and_true, Bool.and_false, Bool.true_and, Bool.false_and, Bool.or_true, Bool.or_false, Bool.true_or, Bool.false_or, Bool.not_true, Bool.not_false, le_f, le_t, lt_f, lt_t, eq_f, ↓reduceIte, not_true_eq_false, not_false_eq_true, ite_10, bt_0, bt_1]
  · rw [decide_eq_false e, b2_f] at k101
    rw [if_neg e]
    have k := p28_28 (b := b) (L := L) 12 0 (sk b L 0) [] _ 10000 (by omega) (by omega) (cAt_C (p := sk b L 0) h1) cAt_p s2 s4 e0 e1 rfl (by show 0 ≤ _; omega) trivial
    have eq : q28 s = q28_28 10000 (nI 0) (cAt (sI (sI s 18 0 (nI 0)) 18 1 (nI 0)) (sk b L 0)) := by
      unfold q28 q22
      simp (disch := omega) only [k100, k101, nI_lit, nI_add, pk_mul, nI_clp, nI_eqv, nI_lev, nI_ltv, nI_neg, nI_neg', nI_subv, Nat.add_zero, Nat.zero_add, Nat.mul_zero, Nat.reduceAdd, bN_rv, bM_ru, bV_rv, bV_rx, bU_ru, bU_rx, bN_ite, bM_ite, bV_ite, bU_ite, ↓bx_e, ↓sp_e, gA_ok, gZ_n, gB_0, gB_1, gB_i, and_true, and_false, true_and, false_and, decide_true, decide_false, ↓reduceIte, not_true_eq_false, not_false_eq_true, Bool.false_eq_true, Bool.true_eq_false, Bool.and_true, Bool.and_false, Bool.true_and, Bool.false_and, Bool.or_true, Bool.or_false, Bool.true_or, Bool.false_or, Bool.not_true, Bool.not_false, le_f, le_t, lt_f, lt_t, eq_f, ↓reduceIte, not_true_eq_false, not_false_eq_true, ite_10, bt_0, bt_1]
    rw [eq]
    cases e2 : lawR b L 12 (sk b L 0) [] with
    | inl f =>
      rw [e2] at k
      obtain ⟨s', a1, a2, a3⟩ := k
      exact ⟨s', a1, FM_t hFA a2, a3⟩
    | inr ls =>
      rw [e2] at k
      obtain ⟨s', a1, a2, a3⟩ := k
      exact ⟨s', a1, FM_t hFA a2, a3⟩
theorem m240_0 {t : mS} (h : TB b L (um t)) : match lawS b L with
    | .inl f => ∃ t', q240 (nI 0) t = rv (-nI 1) t' ∧ FL (um t) t' ∧ t'.1 512 12 = nI f
    | .inr ls => ∃ t', q240 (nI 0) t = rv (nI ls.length) t' ∧ FL (um t) t' ∧ LF (gD t') 0 0 ls ∧ ls.length ≤ 12 ∧ tot ls ≤ 400 ∧ ∀ x, x ∈ ls → OKn x := by
  obtain ⟨s1, s2, s3, s4⟩ := sk_p (b := b) (Nat.zero_le L)
  have hL := h.1
  have hF0 : FL (um t) (sI (um t) 512 16 (nI 0)) := ⟨fun c x _ => sI_fn x, fun j _ _ _ x => by rw [sI_sm, ud_n x], fun j _ => by rw [sI_fn (by omega)], Eq.trans rfl rfl⟩
  have hT := TB_L h hF0
  have e10 : (sI (um t) 512 16 (nI 0)).1 512 10 = nI 0 := by rw [sI_sm, ud_n (by omega)]; unfold um; rw [sI_sm, ud_e rfl]
  have k16 := m216 hT e10 (Nat.zero_le _)
  have e16 : (tB (sI (um t) 512 16 (nI 0)) (sk b L 0) (sk b L 0)).1 512 16 = nI 0 := by rw [tB_j (by omega), sI_sm, ud_e rfl]
  have e11 : (tB (sI (um t) 512 16 (nI 0)) (sk b L 0) (sk b L 0)).1 512 11 = nI L := (tB_T hT).2.2.1
  unfold lawS
  by_cases e : sk b L 0 = L
  · rw [if_pos e]
    refine ⟨tB (sI (um t) 512 16 (nI 0)) (sk b L 0) (sk b L 0), ?_, FL_t hF0 (FL_D FD_B), trivial, by show 0 ≤ 12; omega, by show 0 ≤ 400; omega, fun x hx => by (cases hx)⟩
    have e10' : (tB (sI (um t) 512 16 (nI 0)) (sk b L 0) (sk b L 0)).1 512 10 = nI L := by rw [tB_p, e]
    unfold q240
    simp (disch := omega) only [q224_e, k16, e10', e11, List.length_nil, nI_lit, nI_add, pk_mul, nI_clp, nI_eqv, nI_lev, nI_ltv, nI_neg, nI_neg', nI_subv, Nat.add_zero, Nat.zero_add, Nat.mul_zero, Nat.reduceAdd, bN_rv, bM_ru, bV_rv, bV_rx, bU_ru, bU_rx, bN_ite, bM_ite, bV_ite, bU_ite, ↓bx_e, ↓sp_e, gA_ok, gZ_n, gB_0, gB_1, gB_i, and_true, and_false, true_and, false_and, decide_true, decide_false, ↓reduceIte, not_true_eq_false, not_false_eq_true, Bool.false_eq_true, Bool.true_eq_false, Bool.and_true, Bool.and_false, Bool.true_and, Bool.false_and, Bool.or_true, Bool.or_false, Bool.true_or, Bool.false_or, Bool.not_true, Bool.not_false, le_f, le_t, lt_f, lt_t, eq_f, ↓reduceIte, not_true_eq_false, not_false_eq_true, ite_10, bt_0, bt_1]
  · rw [if_neg e]
    have k := m240_28 (b := b) (L := L) (K := q240_54) 12 0 (sk b L 0) [] _ 10000 (by omega) (by omega) (tB_T (p := sk b L 0) (g := sk b L 0) hT) (AtP_s s2 s4) e16 rfl (by show 0 ≤ _; omega) trivial (fun x hx => by (cases hx))
    have eq : q240 (nI 0) t = q240_28 q240_54 10000 (nI 0) (nI 0) (tB (sI (um t) 512 16 (nI 0)) (sk b L 0) (sk b L 0)) := by
      unfold q240
      simp (disch := omega) only [q224_e, k16, tB_p, e11, e, nI_lit, nI_add, pk_mul, nI_clp, nI_eqv, nI_lev, nI_ltv, nI_neg, nI_neg', nI_subv, Nat.add_zero, Nat.zero_add, Nat.mul_zero, Nat.reduceAdd, bN_rv, bM_ru, bV_rv, bV_rx, bU_ru, bU_rx, bN_ite, bM_ite, bV_ite, bU_ite, ↓bx_e, ↓sp_e, gA_ok, gZ_n, gB_0, gB_1, gB_i, and_true, and_false, true_and, false_and, decide_true, decide_false, ↓reduceIte, not_true_eq_false, not_false_eq_true, Bool.false_eq_true, Bool.true_eq_false, Bool.and_true, Bool.and_false, Bool.true_and, Bool.false_and, Bool.or_true, Bool.or_false, Bool.true_or, Bool.false_or, Bool.not_true, Bool.not_false, le_f, le_t, lt_f, lt_t, eq_f, ↓reduceIte, not_true_eq_false, not_false_eq_true, ite_10, bt_0, bt_1]
    rw [eq]
    cases e2 : lawR b L 12 (sk b L 0) [] with
    | inl f =>
      rw [e2] at k
      obtain ⟨t', a1, a2, a3⟩ := k
      exact ⟨t', a1, FL_t hF0 (FL_t (FL_D FD_B) a2), a3⟩
    | inr ls =>
      rw [e2] at k
      obtain ⟨t', a1, a2, a3, a4, a5, a6, a7⟩ := k
      refine ⟨t', ?_, FL_t hF0 (FL_t (FL_D FD_B) a2), a3, a4, a6, a7⟩
      rw [a1]
      unfold q240_54
      simp only [nI_lit, nI_add]
      rw [show ls.length - 1 + 1 = ls.length by omega]
theorem m242_52 {t0 : mS} {K : Int32 → mS → Option mQ} {v1 : Int32} : ∀ m i k t, F1 513 t0 t → i + m = 849 → m < k → (∀ j, j < 770 → t.1 513 j = t0.1 513 j) → (∀ j, 770 + i ≤ j → t.1 513 j = t0.1 513 j) → (∀ j, j < i → t.1 513 (770 + j) = t0.1 513 (1619 + j)) → ∃ t', q242_52 K k v1 (nI i) t = K v1 t' ∧ F1 513 t0 t' ∧ (∀ j, j < 770 → t'.1 513 j = t0.1 513 j) ∧ ∀ j, j < 849 → t'.1 513 (770 + j) = t0.1 513 (1619 + j) := by
  intro m
  induction m with
  | zero =>
    intro i k t hF hi hk h1 h2 h3
    cases k with
    | zero => omega
    | succ k =>
      refine ⟨t, ?_, hF, h1, fun j hj => h3 j (by omega)⟩
      rw [q242_52]
      simp (disch := omega) only [nI_lit, nI_add, pk_mul, nI_clp, nI_eqv, nI_lev, nI_ltv, nI_neg, nI_neg', nI_subv, Nat.add_zero, Nat.zero_add, Nat.mul_zero, Nat.reduceAdd, bN_rv, bM_ru, bV_rv, bV_rx, bU_ru, bU_rx, bN_ite, bM_ite, bV_ite, bU_ite, ↓bx_e, ↓sp_e, gA_ok, gZ_n, gB_0, gB_1, gB_i, and_true, and_false, true_and, false_and, decide_true, decide_false, ↓reduceIte, not_true_eq_false, not_false_eq_true, Bool.false_eq_true, Bool.true_eq_false, Bool.and_true, Bool.and_false, Bool.true_and, Bool.false_and, Bool.or_true, Bool.or_false, Bool.true_or, Bool.false_or, Bool.not_true, Bool.not_false, le_f, le_t, lt_f, lt_t, eq_f, ↓reduceIte, not_true_eq_false, not_false_eq_true, ite_10, bt_0, bt_1]
  | succ m ih =>
    intro i k t hF hi hk h1 h2 h3
    cases k with
    | zero => omega
    | succ k =>
      obtain ⟨t', a1, a2⟩ := ih (i + 1) k (sI t 513 (770 + i) (t.1 513 (1619 + i))) (F1_J hF _ _) (by omega) (by omega) (fun j hj => by rw [sI_sm, ud_n (by omega)]; exact h1 j hj) (fun j hj => by rw [sI_sm, ud_n (by omega)]; exact h2 j (by omega)) (fun j hj => by
        rw [sI_sm]
        by_cases e : j = i
        · subst e; rw [ud_e rfl, h2 _ (by omega)]
        · rw [ud_n (by omega)]; exact h3 j (by omega))
      refine ⟨t', ?_, a2⟩
      rw [← a1, q242_52]
      simp (disch := omega) only [nI_lit, nI_add, pk_mul, nI_clp, nI_eqv, nI_lev, nI_ltv, nI_neg, nI_neg', nI_subv, Nat.add_zero, Nat.zero_add, Nat.mul_zero, Nat.reduceAdd, bN_rv, bM_ru, bV_rv, bV_rx, bU_ru, bU_rx, bN_ite, bM_ite, bV_ite, bU_ite, ↓bx_e, ↓sp_e, gA_ok, gZ_n, gB_0, gB_1, gB_i, and_true, and_false, true_and, false_and, decide_true, decide_false, ↓reduceIte, not_true_eq_false, not_false_eq_true, Bool.false_eq_true, Bool.true_eq_false, Bool.and_true, Bool.and_false, Bool.true_and, Bool.false_and, Bool.or_true, Bool.or_false, Bool.true_or, Bool.false_or, Bool.not_true, Bool.not_false, le_f, le_t, lt_f, lt_t, eq_f, ↓reduceIte, not_true_eq_false, not_false_eq_true, ite_10, bt_0, bt_1]
theorem z_law {B : Nat} {s : mS} (hG : G B s) : ZT B [(0, 11, 1)] q131 q242 s := by
  have hG0 := hG
  obtain ⟨⟨hR, hL, T, hT, hA⟩, -, -, hX, -, hU, -⟩ := hG0
  obtain ⟨L, b, x1, x2, x3, x4, x5, x6, x7⟩ := GT_b hX
  have hC : CP b L s := ⟨x1, x5, x2, x6⟩
  have k := p28 hC
  -- the reference starts where the class stopped
  have tb : ∀ t : mS, t.1 512 9 = nI L → t.1 518 = s.1 518 → TB b L (um t) := fun t h9 h18 => ⟨x1, x5, by rw [um_11]; exact h9, fun i hi => by rw [um_n (by omega), h18]; exact x7 i hi⟩
  cases e : lawS b L with
  | inl f =>
    rw [e] at k
    obtain ⟨s1, a1, a2, a3⟩ := k
    refine Or.inr ⟨0, 0, 11, 1, us (sI s1 0 13 (nI f)), ?_, (Eq.trans rfl rfl : _ = s1.2).trans a2.2.2, rfl, by omega, by omega, fun t ht => ?_⟩
    · unfold q131 q133 q133_16
      simp (disch := omega) only [a1, a3, q99_e, nI_lit, nI_add, pk_mul, nI_clp, nI_eqv, nI_lev, nI_ltv, nI_neg, nI_neg', nI_subv, Nat.add_zero, Nat.zero_add, Nat.mul_zero, Nat.reduceAdd, bN_rv, bM_ru, bV_rv, bV_rx, bU_ru, bU_rx, bN_ite, bM_ite, bV_ite, bU_ite, ↓bx_e, ↓sp_e, gA_ok, gZ_n, gB_0, gB_1, gB_i, and_true, and_false, true_and, false_and, decide_true, decide_false, ↓reduceIte, not_true_eq_false, not_false_eq_true, Bool.false_eq_true, Bool.true_eq_false, Bool.and_true, Bool.and_false, Bool.true_and, Bool.false_and, Bool.or_true, Bool.or_false, Bool.true_or, Bool.false_or, Bool.not_true, Bool.not_false, le_f, le_t, lt_f, lt_t, eq_f, ↓reduceIte, not_true_eq_false, not_false_eq_true, ite_10, bt_0, bt_1]
    · have cc : ∀ c, c ≠ 0 → c ≠ 1 → t.1 c = s1.1 c := fun c u v => by rw [ht, us_n v, sI_fn u]
      have h9 : t.1 512 9 = nI L := by rw [cc 512 (by omega) (by omega), a2.1 512 (by omega) (by omega)]; exact x4
      have m := m240_0 (tb t h9 (by rw [cc 518 (by omega) (by omega), a2.1 518 (by omega) (by omega)]))
      rw [e] at m
      obtain ⟨t1, m1, m2, m3⟩ := m
      have m0 : (nI 0 ≤ -nI 1) = False := eq_false (by decide)
      have e12 : (sI t1 512 14 (nI f)).2 = t1.2 := Eq.trans rfl rfl
      refine ⟨nI 0, sI (sI t1 512 14 (nI f)) 512 0 (nI 1), ?_, Lq_e (m2.2.2.2.trans (Eq.trans rfl rfl)), by rw [sI_sm, ud_e rfl], ?_⟩
      · unfold q242 q242_19 q242_32
        simp (disch := omega) only [m1, m3, m0, m188_1, nI_lit, nI_add, pk_mul, nI_clp, nI_eqv, nI_lev, nI_ltv, nI_neg, nI_neg', nI_subv, Nat.add_zero, Nat.zero_add, Nat.mul_zero, Nat.reduceAdd, bN_rv, bM_ru, bV_rv, bV_rx, bU_ru, bU_rx, bN_ite, bM_ite, bV_ite, bU_ite, ↓bx_e, ↓sp_e, gA_ok, gZ_n, gB_0, gB_1, gB_i, and_true, and_false, true_and, false_and, decide_true, decide_false, ↓reduceIte, not_true_eq_false, not_false_eq_true, Bool.false_eq_true, Bool.true_eq_false, Bool.and_true, Bool.and_false, Bool.true_and, Bool.false_and, Bool.or_true, Bool.or_false, Bool.true_or, Bool.false_or, Bool.not_true, Bool.not_false, le_f, le_t, lt_f, lt_t, eq_f, ↓reduceIte, not_true_eq_false, not_false_eq_true, ite_10, bt_0, bt_1]
      · have cz : ∀ c, c ≠ 0 → c ≠ 1 → c ≠ 512 → c ≠ 513 → ¬ (17 ≤ c ∧ c < 26) → (sI (sI t1 512 14 (nI f)) 512 0 (nI 1)).1 c = s.1 c := fun c u v w z y => by rw [sI_fn w, sI_fn w, m2.1 c w z, um_n w, cc c u v, a2.1 c v y]
        have cj : ∀ j, j ≠ 0 → j ≠ 9 → j ≠ 10 → j ≠ 11 → j ≠ 12 → j ≠ 13 → j ≠ 14 → j ≠ 16 → (sI (sI t1 512 14 (nI f)) 512 0 (nI 1)).1 512 j = s.1 512 j := fun j a b c d e f g h => by rw [sI_sm, ud_n a, sI_sm, ud_n g, m2.2.1 j c e f h, um_j ⟨a, b, c, d⟩, cc 512 (by omega) (by omega), a2.1 512 (by omega) (by omega)]
        have c0 : (sI (sI t1 512 14 (nI f)) 512 0 (nI 1)).1 0 = (us (sI s1 0 13 (nI f))).1 0 := by rw [sI_fn (by omega), sI_fn (by omega), m2.1 0 (by omega) (by omega), um_n (by omega), ht]
        have c1 : (sI (sI t1 512 14 (nI f)) 512 0 (nI 1)).1 1 = (us (sI s1 0 13 (nI f))).1 1 := by rw [sI_fn (by omega), sI_fn (by omega), m2.1 1 (by omega) (by omega), um_n (by omega), ht]
        refine G_y hG (fun c a0 a1' _ _ _ _ a3 _ _ a4 a5 _ _ _ => cz c a0 a1' a4 a5 (by omega)) (fun j hj => ?_) (fun j hj => cj j (by omega) (by omega) (by omega) (by omega) (by omega) (by omega) (by omega) (by omega)) (fun j hj => ?_) ?_ ⟨0, by omega, ?_, ?_, ?_, fun i hi => by omega⟩
        · rw [sI_fn (by omega), sI_fn (by omega), m2.2.2.1 j hj, um_n (by omega), cc 513 (by omega) (by omega), a2.1 513 (by omega) (by omega)]
        · rw [c0, us_n (by omega), sI_sm, ud_n hj, a2.1 0 (by omega) (by omega)]
        · rw [c0, us_n (by omega), sI_sm, ud_e rfl, sI_sm, ud_n (by omega), sI_sm, ud_e rfl]
        · rw [c1]; unfold us; rw [sI_sm, ud_n (by omega), sI_sm, ud_e rfl]
        · rw [c1]; unfold us; rw [sI_sm, ud_e rfl]
        · rw [sI_sm, ud_n (by omega), sI_sm, ud_n (by omega), m2.2.1 9 (by omega) (by omega) (by omega) (by omega), um_9]
  | inr ls =>
    rw [e] at k
    obtain ⟨s1, a1, a2, a3, a4⟩ := k
    obtain ⟨s2, j1, j2, j3, j4, j5, j6, j7⟩ := cp21 (s := us (sI s1 0 13 (-nI 1))) (y := 3) (x := 18) (by omega)
    have u1 : ∀ c, c ≠ 0 → c ≠ 1 → (us (sI s1 0 13 (-nI 1))).1 c = s1.1 c := fun c u v => by rw [us_n v, sI_fn u]
    have e30 : s2.1 3 0 = nI ls.length := by rw [j2 0 (by omega), u1 18 (by omega) (by omega)]; exact a3
    refine Or.inl ⟨nI ls.length, sI s2 0 11 (nI 0), ?_, (Eq.trans rfl rfl : _ = s2.2).trans (j7.2.trans ((Eq.trans rfl rfl : _ = s1.2).trans a2.2.2)), fun t ht => ?_⟩
    · have e30' : (sI s2 0 11 (nI 0)).1 3 0 = nI ls.length := by rw [sI_fn (by omega)]; exact e30
      unfold q131 q133 q133_16 q178
      simp (disch := omega) only [a1, q99_e, j1, e30', nI_lit, nI_add, pk_mul, nI_clp, nI_eqv, nI_lev, nI_ltv, nI_neg, nI_neg', nI_subv, Nat.add_zero, Nat.zero_add, Nat.mul_zero, Nat.reduceAdd, bN_rv, bM_ru, bV_rv, bV_rx, bU_ru, bU_rx, bN_ite, bM_ite, bV_ite, bU_ite, ↓bx_e, ↓sp_e, gA_ok, gZ_n, gB_0, gB_1, gB_i, and_true, and_false, true_and, false_and, decide_true, decide_false, ↓reduceIte, not_true_eq_false, not_false_eq_true, Bool.false_eq_true, Bool.true_eq_false, Bool.and_true, Bool.and_false, Bool.true_and, Bool.false_and, Bool.or_true, Bool.or_false, Bool.true_or, Bool.false_or, Bool.not_true, Bool.not_false, le_f, le_t, lt_f, lt_t, eq_f, ↓reduceIte, not_true_eq_false, not_false_eq_true, ite_10, bt_0, bt_1]
    · have c2 : ∀ c, ¬ (3 ≤ c ∧ c < 8) → s2.1 c = (us (sI s1 0 13 (-nI 1))).1 c := fun c h => j7.1 c (by omega)
      have cc : ∀ c, c ≠ 0 → c ≠ 1 → ¬ (3 ≤ c ∧ c < 8) → t.1 c = s1.1 c := fun c u v w => by rw [ht, sI_fn u, c2 c w, u1 c u v]
      have h9 : t.1 512 9 = nI L := by rw [cc 512 (by omega) (by omega) (by omega), a2.1 512 (by omega) (by omega)]; exact x4
      have m := m240_0 (tb t h9 (by rw [cc 518 (by omega) (by omega) (by omega), a2.1 518 (by omega) (by omega)]))
      rw [e] at m
      obtain ⟨t1, m1, m2, m3, m4, m5, m6⟩ := m
      have m0 : (nI 0 ≤ nI ls.length) = True := eq_true (by rw [nI_lev (by omega) (by omega)]; omega)
      obtain ⟨t2, n1, n2, n3, n4⟩ := m242_52 (t0 := sI (sI t1 512 14 (-nI 1)) 513 1619 (nI ls.length)) (K := q242_85) (v1 := nI ls.length) 849 0 10000 _ F1_r (by omega) (by omega) (fun _ _ => rfl) (fun _ _ => rfl) (fun j hj => by omega)
      have n19 : (nI 1619).toNatClampNeg = 1619 := nI_clp (by omega)
      have n2' : (nI 2).toNatClampNeg = 2 := nI_clp (by omega)
      -- the rows behind it
      have w0 : ∀ j, j < 1619 → (sI (sI t1 512 14 (-nI 1)) 513 1619 (nI ls.length)).1 513 j = s.1 513 j := fun j hj => by rw [sI_sm, ud_n (by omega), sI_fn (by omega), m2.2.2.1 j hj, um_n (by omega), cc 513 (by omega) (by omega) (by omega), a2.1 513 (by omega) (by omega)]
      refine ⟨sI (sI t2 513 2 (nI 1)) 512 7 (nI 0), ?_, Lq_e ((Eq.trans rfl rfl : _ = t2.2).trans (n2.2.trans ((Eq.trans rfl rfl : _ = t1.2).trans (m2.2.2.2.trans (Eq.trans rfl rfl))))), ?_, ?_⟩
      · unfold q242 q242_19 q242_32
        simp (disch := omega) only [m1, m0, m188_0, n19, nI_lit, nI_add, pk_mul, nI_clp, nI_eqv, nI_lev, nI_ltv, nI_neg, nI_neg', nI_subv, Nat.add_zero, Nat.zero_add, Nat.mul_zero, Nat.reduceAdd, bN_rv, bM_ru, bV_rv, bV_rx, bU_ru, bU_rx, bN_ite, bM_ite, bV_ite, bU_ite, ↓bx_e, ↓sp_e, gA_ok, gZ_n, gB_0, gB_1, gB_i, and_true, and_false, true_and, false_and, decide_true, decide_false, ↓reduceIte, not_true_eq_false, not_false_eq_true, Bool.false_eq_true, Bool.true_eq_false, Bool.and_true, Bool.and_false, Bool.true_and, Bool.false_and, Bool.or_true, Bool.or_false, Bool.true_or, Bool.false_or, Bool.not_true, Bool.not_false, le_f, le_t, lt_f, lt_t, eq_f, ↓reduceIte, not_true_eq_false, not_false_eq_true, ite_10, bt_0, bt_1]
        rw [n1]
        unfold q242_85
        simp (disch := omega) only [n2', nI_lit, nI_add, pk_mul, nI_clp, nI_eqv, nI_lev, nI_ltv, nI_neg, nI_neg', nI_subv, Nat.add_zero, Nat.zero_add, Nat.mul_zero, Nat.reduceAdd, bN_rv, bM_ru, bV_rv, bV_rx, bU_ru, bU_rx, bN_ite, bM_ite, bV_ite, bU_ite, ↓bx_e, ↓sp_e, gA_ok, gZ_n, gB_0, gB_1, gB_i, and_true, and_false, true_and, false_and, decide_true, decide_false, ↓reduceIte, not_true_eq_false, not_false_eq_true, Bool.false_eq_true, Bool.true_eq_false, Bool.and_true, Bool.and_false, Bool.true_and, Bool.false_and, Bool.or_true, Bool.or_false, Bool.true_or, Bool.false_or, Bool.not_true, Bool.not_false, le_f, le_t, lt_f, lt_t, eq_f, ↓reduceIte, not_true_eq_false, not_false_eq_true, ite_10, bt_0, bt_1]
      · rw [sI_sm, ud_n (by omega), sI_fn (by omega), n2.1 512 (by omega), sI_fn (by omega), sI_sm, ud_n (by omega), m2.2.1 0 (by omega) (by omega) (by omega) (by omega), um_0]
      · have cz : ∀ c, c ≠ 512 → c ≠ 513 → (sI (sI t2 513 2 (nI 1)) 512 7 (nI 0)).1 c = (sI s2 0 11 (nI 0)).1 c := fun c w z => by rw [sI_fn w, sI_fn z, n2.1 c z, sI_fn z, sI_fn w, m2.1 c w z, um_n w, ht]
        have cs : ∀ c, c ≠ 0 → c ≠ 1 → ¬ (3 ≤ c ∧ c < 8) → ¬ (17 ≤ c ∧ c < 26) → c ≠ 512 → c ≠ 513 → (sI (sI t2 513 2 (nI 1)) 512 7 (nI 0)).1 c = s.1 c := fun c a b d e f g => by rw [cz c f g, sI_fn a, c2 c d, u1 c a b, a2.1 c b e]
        have cj : ∀ j, j ≠ 0 → j ≠ 7 → j ≠ 9 → j ≠ 10 → j ≠ 11 → j ≠ 12 → j ≠ 13 → j ≠ 14 → j ≠ 16 → (sI (sI t2 513 2 (nI 1)) 512 7 (nI 0)).1 512 j = s.1 512 j := fun j a a' b c d e f g h => by rw [sI_sm, ud_n a', sI_fn (by omega), n2.1 512 (by omega), sI_fn (by omega), sI_sm, ud_n g, m2.2.1 j c e f h, um_j ⟨a, b, c, d⟩, cc 512 (by omega) (by omega) (by omega), a2.1 512 (by omega) (by omega)]
        have g2 : (sI (sI t2 513 2 (nI 1)) 512 7 (nI 0)).1 513 2 = nI 1 := by rw [sI_fn (by omega), sI_sm, ud_e rfl]
        have gl : ∀ j, j < 770 → j ≠ 2 → (sI (sI t2 513 2 (nI 1)) 512 7 (nI 0)).1 513 j = s.1 513 j := fun j hj h2 => by rw [sI_fn (by omega), sI_sm, ud_n h2, n3 j hj, w0 j (by omega)]
        have gh : ∀ j, 771 ≤ j → j < 1619 → (sI (sI t2 513 2 (nI 1)) 512 7 (nI 0)).1 513 j = gD t1 j := fun j u v => by
          rw [sI_fn (by omega), sI_sm, ud_n (by omega), show j = 770 + (j - 770) by omega, n4 (j - 770) (by omega), sI_sm, ud_n (by omega), sI_fn (by omega), ← show j = 770 + (j - 770) by omega]
          unfold gD
          rw [show 1619 + (j - 770) = j + 849 by omega]
        have g770 : (sI (sI t2 513 2 (nI 1)) 512 7 (nI 0)).1 513 770 = nI ls.length := by
          rw [sI_fn (by omega), sI_sm, ud_n (by omega), show (770 : Nat) = 770 + 0 from rfl, n4 0 (by omega), sI_sm, ud_e rfl]
        have e011 : (sI (sI t2 513 2 (nI 1)) 512 7 (nI 0)).1 0 11 = nI 0 := by rw [cz 0 (by omega) (by omega), sI_sm, ud_e rfl]
        have e0j : ∀ j, j ≠ 11 → (sI (sI t2 513 2 (nI 1)) 512 7 (nI 0)).1 0 j = (sI s1 0 13 (-nI 1)).1 0 j := fun j hj => by rw [cz 0 (by omega) (by omega), sI_sm, ud_n hj, c2 0 (by omega), us_n (by omega)]
        have e7 : (sI (sI t2 513 2 (nI 1)) 512 7 (nI 0)).1 512 7 = nI 0 := by rw [sI_sm, ud_e rfl]
        have e14 : (sI (sI t2 513 2 (nI 1)) 512 7 (nI 0)).1 512 14 = -nI 1 := by rw [sI_sm, ud_n (by omega), sI_fn (by omega), n2.1 512 (by omega), sI_fn (by omega), sI_sm, ud_e rfl]
        have e9 : (sI (sI t2 513 2 (nI 1)) 512 7 (nI 0)).1 512 9 = nI 0 := by rw [sI_sm, ud_n (by omega), sI_fn (by omega), n2.1 512 (by omega), sI_fn (by omega), sI_sm, ud_n (by omega), m2.2.1 9 (by omega) (by omega) (by omega) (by omega), um_9]
        have d3 : ∀ c, 3 ≤ c → c < 8 → (sI (sI t2 513 2 (nI 1)) 512 7 (nI 0)).1 c = s2.1 c := fun c u v => by rw [cz c (by omega) (by omega), sI_fn (by omega)]
        have e1c : (sI (sI t2 513 2 (nI 1)) 512 7 (nI 0)).1 1 = (us (sI s1 0 13 (-nI 1))).1 1 := by rw [cz 1 (by omega) (by omega), sI_fn (by omega), c2 1 (by omega)]
        generalize sI (sI t2 513 2 (nI 1)) 512 7 (nI 0) = u at *
        have hLF : LF (u.1 513) 0 0 ls := LF_c ls 0 0 m3 (by omega) (fun j x y => gh j x (by omega)) (fun j x y => gh j (by omega) (by omega))
        have hWL : WLw (u.1 513) := Or.inr ⟨g2, ls.length, m4, g770, fun c hc => by
          have := LF_w ls 0 0 hLF m6 (by omega) (fun j hj => by omega) c hc
          rw [Nat.zero_add] at this
          exact this⟩
        have hRL : RLw u (u.1 513) := Or.inr ⟨g2, ls.length, m4, g770, by rw [d3 3 (by omega) (by omega)]; exact e30, fun c hc => by
          have := LF_r (s := s1) ls 0 0 hLF a4 m6 (by omega) (fun j hj => by omega) c hc
          rw [Nat.zero_add] at this
          obtain ⟨p1, p2, p3, p4⟩ := this
          have hE := (LF_w ls 0 0 hLF m6 (by omega) (fun j hj => by omega) c hc).1.2.2.2.1
          rw [Nat.zero_add] at hE
          refine ⟨?_, ?_, ?_, fun j hj => ?_⟩
          · rw [d3 4 (by omega) (by omega), show s2.1 4 c = _ from j3 c (by omega), show (18 + 1 : Nat) = 19 from rfl, u1 19 (by omega) (by omega)]; exact p1
          · rw [d3 5 (by omega) (by omega), show s2.1 5 c = _ from j4 c (by omega), show (18 + 2 : Nat) = 20 from rfl, u1 20 (by omega) (by omega)]; exact p2
          · rw [d3 6 (by omega) (by omega), show s2.1 6 c = _ from j5 c (by omega), show (18 + 3 : Nat) = 21 from rfl, u1 21 (by omega) (by omega)]; exact p3
          · rw [d3 7 (by omega) (by omega), show s2.1 7 j = _ from j6 j (by omega), show (18 + 4 : Nat) = 22 from rfl, u1 22 (by omega) (by omega)]; exact p4 j hj⟩
        have hIM : IM T (u.1 513) := by
          obtain ⟨i1, ⟨n, hn, b0, b1, b2, b3, b4⟩, -, ⟨tt0, tt3, tt⟩, k, hk, h5⟩ := hA.1
          refine ⟨IS_c i1 (fun j x y => gl _ (by omega) (by omega)), ⟨n, hn, ?_, fun c hc => ?_, fun c w' hc hc5 hw' => ?_, fun c j hc hj => ?_, fun j hj hv => ?_⟩, hWL, ⟨tt0, by rw [gl _ (by omega) (by omega)]; exact tt3, fun l hl => ?_⟩, k, hk, ?_⟩
          · rw [gl _ (by omega) (by omega)]; exact b0
          · rw [gl _ (by omega) (by omega)]; exact b1 c hc
          · rw [gl _ (by omega) (by omega)]; exact b2 c w' hc hc5 hw'
          · rw [gl _ (by omega) (by omega), gl _ (by omega) (by omega)]; exact b3 c j hc hj
          · rw [wh_c (gl _ (by omega) (by omega))]; exact b4 j hj (by rw [← sU_c (f := s.1 513) (gl _ (by omega) (by omega))]; exact hv)
          · rw [gl _ (by omega) (by omega), gl _ (by omega) (by omega), gl _ (by omega) (by omega)]; exact tt l hl
          · rw [gl _ (by omega) (by omega)]; exact h5
        have hRW : RW u 26 (u.1 513) := by
          obtain ⟨h1, h2, h3, h4, h5, h6, h7, h8, h9, h10⟩ := hR
          have hc : ∀ c, 26 ≤ c → c < 58 → u.1 c = s.1 c := fun c x y => cs c (by omega) (by omega) (by omega) (by omega) (by omega) (by omega)
          refine ⟨RS_c h1 hA.1.1.1 (fun b x y => hc b (by omega) (by omega)) (fun j x y => gl j (by omega) (by omega)) (fun c x => gl _ (by omega) (by omega)), RC_c h2 (fun b x y => hc b (by omega) (by omega)) (gl 0 (by omega) (by omega)) (fun j x y => gl j (by omega) (by omega)), RK_c h3 (fun b x y => hc b (by omega) (by omega)) (fun j x y => gl j (by omega) (by omega)), RLg_c h4 (fun b x y => hc b (by omega) (by omega)) (gl 6 (by omega) (by omega)) (fun j x y => gl j (by omega) (by omega)), RH_c h5 (fun b x y => hc b (by omega) (by omega)) (gl 7 (by omega) (by omega)) (fun j x y => gl j (by omega) (by omega)), ?_, ?_, ?_, ?_, ?_⟩ <;> rw [hc 26 (by omega) (by omega), gl _ (by omega) (by omega)] <;> assumption
        refine G_z hG (Nat.le_refl _) (fun c hc => cs c (by omega) (by omega) (by omega) (by omega) (by omega) (by omega)) ?_ ?_ (cj 6 (by omega) (by omega) (by omega) (by omega) (by omega) (by omega) (by omega) (by omega) (by omega)) e011 e7 ⟨hRW, hRL, T, hT, IA_g hA hIM (fun j hj => gl j (by omega) (by omega))⟩ ⟨IU_c hU.1 (fun j x y => gl j (by omega) (by omega)), IH_c hU.2 (fun j hj => Or.inl (by unfold HX at hj; exact gl j (by omega) (by omega)))⟩ ?_ ⟨0, by omega, ?_, ?_, e9, fun i hi => by omega⟩
        · rw [e0j 10 (by omega), sI_sm, ud_n (by omega), a2.1 0 (by omega) (by omega)]
        · rw [e0j 12 (by omega), sI_sm, ud_n (by omega), a2.1 0 (by omega) (by omega)]
        · rw [e0j 13 (by omega), sI_sm, ud_e rfl, e14]
        · rw [e1c]; unfold us; rw [sI_sm, ud_n (by omega), sI_sm, ud_e rfl]
        · rw [e1c]; unfold us; rw [sI_sm, ud_e rfl]
end LAW
