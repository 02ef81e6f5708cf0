/-! IMAGE, BACK -/
theorem cp21 {s : mS} {y x : Nat} (hd : y + 5 ≤ x ∨ x + 5 ≤ y) : ∃ s', q21 y x s = ru s' ∧ (∀ j, j < 2 → s'.1 y j = s.1 x j) ∧ (∀ j, j < 12 → s'.1 (y + 1) j = s.1 (x + 1) j) ∧ (∀ j, j < 12 → s'.1 (y + 2) j = s.1 (x + 2) j) ∧ (∀ j, j < 12 → s'.1 (y + 3) j = s.1 (x + 3) j) ∧ (∀ j, j < 400 → s'.1 (y + 4) j = s.1 (x + 4) j) ∧ Fr y 5 s s' := by
  refine ⟨?w, ?x, ?y⟩
  case x =>
    unfold q21
    simp (disch := omega) only [gC_ok, nI_lit, nI_add, pk_mul, nI_clp, nI_eqv, nI_lev, nI_ltv, nI_neg, nI_neg', nI_subv, Nat.add_zero, Nat.zero_add, Nat.mul_zero, Nat.reduceAdd, bN_rv, bM_ru, bV_rv, bV_rx, bU_ru, bU_rx, bN_ite, bM_ite, bV_ite, bU_ite, ↓bx_e, ↓sp_e, gA_ok, gZ_n, gB_0, gB_1, gB_i, and_true, and_false, true_and, false_and, decide_true, decide_false, ↓reduceIte, not_true_eq_false, not_false_eq_true, Bool.false_eq_true, Bool.true_eq_false, Bool.and_true, Bool.and_false, Bool.true_and, Bool.false_and, Bool.or_true, Bool.or_false, Bool.true_or, Bool.false_or, Bool.not_true, Bool.not_false, le_f, le_t, lt_f, lt_t, eq_f, ↓reduceIte, not_true_eq_false, not_false_eq_true, ite_10, bt_0, bt_1]
    rfl
  case y =>
    refine ⟨fun j hj => ?_, fun j hj => ?_, fun j hj => ?_, fun j hj => ?_, fun j hj => ?_, fun b hb => ?_, Eq.trans rfl rfl⟩
    · have hjj : j = 0 ∨ j = 1 := by omega
      rcases hjj with e | e <;> subst e <;> simp (disch := omega) only [sC_at, sI_at, eq_f, ↓reduceIte]
    · simp (disch := omega) only [sC_at, sI_at, eq_f, ↓reduceIte]
      rw [if_pos (by omega), show 0 + (j - 0) = j by omega]
    · simp (disch := omega) only [sC_at, sI_at, eq_f, ↓reduceIte]
      rw [if_pos (by omega), show 0 + (j - 0) = j by omega]
    · simp (disch := omega) only [sC_at, sI_at, eq_f, ↓reduceIte]
      rw [if_pos (by omega), show 0 + (j - 0) = j by omega]
    · simp (disch := omega) only [sC_at, sI_at, eq_f, ↓reduceIte]
      rw [if_pos (by omega), show 0 + (j - 0) = j by omega]
    · repeat rw [sC_fn (by omega)]
      repeat rw [sI_fn (by omega)]
theorem RLb_e {y z : Nat} {s s' : mS} {f g : Nat → Int32} (hw : WLw f) (h2 : g 2 = f 2) (h1 : ∀ j, 770 ≤ j → j < 1619 → g j = f j) (c0 : s'.1 z 0 = s.1 y 0) (c1 : ∀ j, j < 12 → s'.1 (z + 1) j = s.1 (y + 1) j) (c2 : ∀ j, j < 12 → s'.1 (z + 2) j = s.1 (y + 2) j) (c3 : ∀ j, j < 12 → s'.1 (z + 3) j = s.1 (y + 3) j) (c4 : ∀ j, j < 400 → s'.1 (z + 4) j = s.1 (y + 4) j) (h : RLb y s f) : RLb z s' g := by
  unfold RLb
  rw [h2, h1 770 (by omega) (by omega), c0]
  rcases h with h | ⟨h, n, hn, h7, h30, hl⟩
  · exact Or.inl h
  · refine Or.inr ⟨h, n, hn, h7, h30, fun c hc => ?_⟩
    obtain ⟨q1, q2, q3, q4⟩ := hl c hc
    have hE : lE f c ≤ 400 := by
      rcases hw with q | ⟨q, m, hm, hm7, hq⟩
      · rw [h] at q; exact absurd q (by decide)
      · have : m = n := by
          rw [h7] at hm7
          have := (nI_eq (by omega) (by omega)).mp hm7
          omega
        subst this; exact (hq c hc).1.2.2.2.1
    rw [h1 _ (by omega) (by omega), h1 _ (by omega) (by omega), h1 _ (by omega) (by omega), lE_c h1 (by omega), c1 c (by omega), c2 c (by omega), c3 c (by omega)]
    refine ⟨q1, q2, q3, fun j hj => ?_⟩
    rw [lOp_c h1 (by omega), h1 _ (by omega) (by omega), c4 j (by omega)]
    exact q4 j hj
theorem IM_e {T : Nat} {f g : Nat → Int32} (h : IM T f) (hg : ∀ j, j < 1619 → g j = f j) : IM T g := by
  obtain ⟨h1, ⟨n, hn, a0, a1, a2, a3, a4⟩, h3, ⟨t0, t3, t⟩, k, hk, h5⟩ := h
  refine ⟨IS_c h1 (fun j x y => hg _ (by omega)), ⟨n, hn, ?_, fun c hc => ?_, fun c w' hc hc5 hw' => ?_, fun c j hc hj => ?_, fun j hj hv => ?_⟩, WLw_c (hg _ (by omega)) (fun j a b => hg _ (by omega)) h3, ⟨t0, by rw [hg _ (by omega)]; exact t3, fun l hl => ?_⟩, k, hk, ?_⟩
  · rw [hg _ (by omega)]; exact a0
  · rw [hg _ (by omega)]; exact a1 c hc
  · rw [hg _ (by omega)]; exact a2 c w' hc hc5 hw'
  · rw [hg _ (by omega), hg _ (by omega)]; exact a3 c j hc hj
  · rw [wh_c (hg _ (by omega))]; exact a4 j hj (by rw [← sU_c (f := f) (hg _ (by omega))]; exact hv)
  · rw [hg _ (by omega), hg _ (by omega), hg _ (by omega)]; exact t l hl
  · rw [hg _ (by omega)]; exact h5
theorem IA_e {T : Nat} {f g : Nat → Int32} (h : IA T f) (hg : ∀ j, j < 1619 → g j = f j) : IA T g := IA_g h (IM_e h.1 hg) (fun j hj => hg j (by omega))
theorem IUH_e {B : Nat} {f g : Nat → Int32} (h : IUH B f) (hg : ∀ j, j < 1619 → g j = f j) : IUH B g := ⟨IU_c h.1 (fun j a b => hg j (by omega)), IH_c h.2 (fun j hj => Or.inl (by unfold HX at hj; exact hg j (by omega)))⟩
theorem RW_e {s s' : mS} {a : Nat} {f g : Nat → Int32} (h : RW s a f) (hw : IW f) (hc : ∀ b, a ≤ b → b < a + 32 → s'.1 b = s.1 b) (hg : ∀ j, j < 1619 → g j = f j) : RW s' a g := by
  obtain ⟨h1, h2, h3, h4, h5, h6, h7, h8, h9, h10⟩ := h
  refine ⟨RS_c h1 hw (fun b x y => hc b (by omega) (by omega)) (fun j x y => hg j (by omega)) (fun c x => hg _ (by omega)), RC_c h2 (fun b x y => hc b (by omega) (by omega)) (hg 0 (by omega)) (fun j x y => hg j (by omega)), RK_c h3 (fun b x y => hc b (by omega) (by omega)) (fun j x y => hg j (by omega)), RLg_c h4 (fun b x y => hc b (by omega) (by omega)) (hg 6 (by omega)) (fun j x y => hg j (by omega)), RH_c h5 (fun b x y => hc b (by omega) (by omega)) (hg 7 (by omega)) (fun j x y => hg j (by omega)), ?_, ?_, ?_, ?_, ?_⟩ <;> rw [hc a (by omega) (by omega), hg _ (by omega)] <;> assumption
/-- a row copied up to 1619 -/
theorem m192_7 {t : mS} {K : mS → Option mQ} : ∀ m i k t', F1 514 t t' → i + m = 1619 → m < k → (∀ j, j < i → t'.1 514 j = t.1 513 j) → ∃ t'', q192_7 K k (nI i) t' = K t'' ∧ F1 514 t t'' ∧ ∀ j, j < 1619 → t''.1 514 j = t.1 513 j := by
  intro m
  induction m with
  | zero =>
    intro i k t' hF hi hk hj
    cases k with
    | zero => omega
    | succ k =>
      have : i = 1619 := by omega
      subst this
      exact ⟨t', by simp (disch := omega) only [q192_7, nI_lit, nI_add, pk_mul, nI_clp, nI_eqv, nI_lev, nI_ltv, nI_neg, nI_neg', nI_subv, Nat.add_zero, Nat.zero_add, Nat.mul_zero, Nat.reduceAdd, bN_rv, bM_ru, bV_rv, bV_rx, bU_ru, bU_rx, bN_ite, bM_ite, bV_ite, bU_ite, ↓bx_e, ↓sp_e, gA_ok, gZ_n, gB_0, gB_1, gB_i, and_true, and_false, true_and, false_and, decide_true, decide_false, ↓reduceIte, not_true_eq_false, not_false_eq_true, Bool.false_eq_true, Bool.true_eq_false, Bool.and_true, Bool.and_false, Bool.true_and, Bool.false_and, Bool.or_true, Bool.or_false, Bool.true_or, Bool.false_or, Bool.not_true, Bool.not_false, le_f, le_t, lt_f, lt_t, eq_f, ↓reduceIte, not_true_eq_false, not_false_eq_true, ite_10, bt_0, bt_1], hF, hj⟩
  | succ m ih =>
    intro i k t' hF hi hk hj
    cases k with
    | zero => omega
    | succ k =>
      have h5 : t'.1 513 = t.1 513 := hF.1 513 (by omega)
      obtain ⟨t'', j1, j2, j3⟩ := ih (i + 1) k (sI t' 514 i (t.1 513 i)) (F1_J hF _ _) (by omega) (by omega) (fun j h => by
        rw [sI_sm]
        by_cases e : j = i
        · subst e; rw [ud_e rfl]
        · rw [ud_n e]; exact hj j (by omega))
      refine ⟨t'', ?_, j2, j3⟩
      rw [← j1]
      simp (disch := omega) only [q192_7, h5, nI_lit, nI_add, pk_mul, nI_clp, nI_eqv, nI_lev, nI_ltv, nI_neg, nI_neg', nI_subv, Nat.add_zero, Nat.zero_add, Nat.mul_zero, Nat.reduceAdd, bN_rv, bM_ru, bV_rv, bV_rx, bU_ru, bU_rx, bN_ite, bM_ite, bV_ite, bU_ite, ↓bx_e, ↓sp_e, gA_ok, gZ_n, gB_0, gB_1, gB_i, and_true, and_false, true_and, false_and, decide_true, decide_false, ↓reduceIte, not_true_eq_false, not_false_eq_true, Bool.false_eq_true, Bool.true_eq_false, Bool.and_true, Bool.and_false, Bool.true_and, Bool.false_and, Bool.or_true, Bool.or_false, Bool.true_or, Bool.false_or, Bool.not_true, Bool.not_false, le_f, le_t, lt_f, lt_t, eq_f, ↓reduceIte, not_true_eq_false, not_false_eq_true, ite_10, bt_0, bt_1]
theorem m193_16 {t : mS} {K : mS → Option mQ} : ∀ m i k t', F1 513 t t' → i + m = 1619 → m < k → (∀ j, j < i → t'.1 513 j = t.1 514 j) → ∃ t'', q193_16 K k (nI i) t' = K t'' ∧ F1 513 t t'' ∧ ∀ j, j < 1619 → t''.1 513 j = t.1 514 j := by
  intro m
  induction m with
  | zero =>
    intro i k t' hF hi hk hj
    cases k with
    | zero => omega
    | succ k =>
      have : i = 1619 := by omega
      subst this
      exact ⟨t', by simp (disch := omega) only [q193_16, nI_lit, nI_add, pk_mul, nI_clp, nI_eqv, nI_lev, nI_ltv, nI_neg, nI_neg', nI_subv, Nat.add_zero, Nat.zero_add, Nat.mul_zero, Nat.reduceAdd, bN_rv, bM_ru, bV_rv, bV_rx, bU_ru, bU_rx, bN_ite, bM_ite, bV_ite, bU_ite, ↓bx_e, ↓sp_e, gA_ok, gZ_n, gB_0, gB_1, gB_i, and_true, and_false, true_and, false_and, decide_true, decide_false, ↓reduceIte, not_true_eq_false, not_false_eq_true, Bool.false_eq_true, Bool.true_eq_false, Bool.and_true, Bool.and_false, Bool.true_and, Bool.false_and, Bool.or_true, Bool.or_false, Bool.true_or, Bool.false_or, Bool.not_true, Bool.not_false, le_f, le_t, lt_f, lt_t, eq_f, ↓reduceIte, not_true_eq_false, not_false_eq_true, ite_10, bt_0, bt_1], hF, hj⟩
  | succ m ih =>
    intro i k t' hF hi hk hj
    cases k with
    | zero => omega
    | succ k =>
      have h5 : t'.1 514 = t.1 514 := hF.1 514 (by omega)
      obtain ⟨t'', j1, j2, j3⟩ := ih (i + 1) k (sI t' 513 i (t.1 514 i)) (F1_J hF _ _) (by omega) (by omega) (fun j h => by
        rw [sI_sm]
        by_cases e : j = i
        · subst e; rw [ud_e rfl]
        · rw [ud_n e]; exact hj j (by omega))
      refine ⟨t'', ?_, j2, j3⟩
      rw [← j1]
      simp (disch := omega) only [q193_16, h5, nI_lit, nI_add, pk_mul, nI_clp, nI_eqv, nI_lev, nI_ltv, nI_neg, nI_neg', nI_subv, Nat.add_zero, Nat.zero_add, Nat.mul_zero, Nat.reduceAdd, bN_rv, bM_ru, bV_rv, bV_rx, bU_ru, bU_rx, bN_ite, bM_ite, bV_ite, bU_ite, ↓bx_e, ↓sp_e, gA_ok, gZ_n, gB_0, gB_1, gB_i, and_true, and_false, true_and, false_and, decide_true, decide_false, ↓reduceIte, not_true_eq_false, not_false_eq_true, Bool.false_eq_true, Bool.true_eq_false, Bool.and_true, Bool.and_false, Bool.true_and, Bool.false_and, Bool.or_true, Bool.or_false, Bool.true_or, Bool.false_or, Bool.not_true, Bool.not_false, le_f, le_t, lt_f, lt_t, eq_f, ↓reduceIte, not_true_eq_false, not_false_eq_true, ite_10, bt_0, bt_1]
/-- a call that answers nothing -/
def ZU (B : Nat) (qc qm : mS → Option mQ) (s : mS) : Prop := ∃ s1, qc s = ru s1 ∧ s1.2 = s.2 ∧ ∀ t : mS, t.1 = s1.1 → ∃ t', qm t = ru t' ∧ Lq t t' ∧ G B t'
section ACT
variable {B : Nat} {s : mS}
theorem z_image (hG : G B s) : ZU B q175 q192 s := by
  obtain ⟨⟨hR, hL, T, hT, hA⟩, hI, ⟨r, x, r1, r2, r3, r4, r5, r6⟩, ⟨L, t1, t2, t3, t4, t5⟩, hF, hU0, hU1, hU2⟩ := hG
  obtain ⟨s1, k1, k2, k3⟩ := p111 (s := s) (a := 90) (b := 26) (by omega)
  obtain ⟨s2, j1, j2, j3, j4, j5, j6, j7⟩ := cp21 (s := s1) (y := 10) (x := 3) (by omega)
  have e2 : ∀ b, (b < 10 ∨ 15 ≤ b) → (b < 90 ∨ 122 ≤ b) → s2.1 b = s.1 b := fun b h1 h2 => by rw [j7.1 b (by omega)]; exact k3.1 b (by omega)
  refine ⟨sI s2 0 12 (nI 1), ?_, (Eq.trans rfl rfl : _ = s2.2).trans (j7.2.trans k3.2), fun t ht => ?_⟩
  · unfold q175
    rw [k1, bM_ru, j1, bM_ru, nI_lit, gB_1, sp_e]
  · have z5 : ∀ b, b ≠ 512 → (sI t 512 0 (nI 0)).1 b = (sI s2 0 12 (nI 1)).1 b := fun b hb => by rw [sI_fn hb, ht]
    have u513 : (sI t 512 0 (nI 0)).1 513 = s.1 513 := by rw [z5 513 (by omega), sI_fn (by omega), e2 513 (by omega) (by omega)]
    obtain ⟨t', m1, m2, m3⟩ := m192_7 (t := sI t 512 0 (nI 0)) (K := q192_32) 1619 0 10000 _ F1_r (by omega) (by omega) (fun j h => by omega)
    rw [u513] at m3
    have d : ∀ b, b ≠ 512 → b ≠ 514 → (sI t' 512 6 (nI 1)).1 b = (sI s2 0 12 (nI 1)).1 b := fun b h1 h2 => by rw [sI_fn h1, m2.1 b h2]; exact z5 b h1
    have d0 : ∀ b, b ≠ 0 → b ≠ 512 → b ≠ 514 → (b < 10 ∨ 15 ≤ b) → (b < 90 ∨ 122 ≤ b) → (sI t' 512 6 (nI 1)).1 b = s.1 b := fun b h0 h1 h2 h3 h4 => by rw [d b h1 h2, sI_fn h0]; exact e2 b h3 h4
    have d512 : ∀ j, j ≠ 0 → j ≠ 6 → (sI t' 512 6 (nI 1)).1 512 j = s.1 512 j := fun j h1 h2 => by rw [sI_sm, ud_n h2, m2.1 512 (by omega), sI_sm, ud_n h1, ht, sI_fn (by omega), e2 512 (by omega) (by omega)]
    have e6 : (sI t' 512 6 (nI 1)).1 512 6 = nI 1 := by rw [sI_sm, ud_e rfl]
    have e012 : (sI t' 512 6 (nI 1)).1 0 12 = nI 1 := by rw [d 0 (by omega) (by omega), sI_sm, ud_e rfl]
    have d0j : ∀ j, j ≠ 12 → (sI t' 512 6 (nI 1)).1 0 j = s.1 0 j := fun j hj => by rw [d 0 (by omega) (by omega), sI_sm, ud_n hj, e2 0 (by omega) (by omega)]
    have g4 : ∀ j, j < 1619 → (sI t' 512 6 (nI 1)).1 514 j = s.1 513 j := fun j hj => by rw [sI_fn (by omega)]; exact m3 j hj
    have d9 : ∀ b, 90 ≤ b → b < 122 → (sI t' 512 6 (nI 1)).1 b = s1.1 b := fun b h1 h2 => by rw [d b (by omega) (by omega), sI_fn (by omega), j7.1 b (by omega)]
    have dL : ∀ b, 10 ≤ b → b < 15 → (sI t' 512 6 (nI 1)).1 b = s2.1 b := fun b h1 h2 => by rw [d b (by omega) (by omega), sI_fn (by omega)]
    have s1L : ∀ b, 3 ≤ b → b < 8 → s1.1 b = s.1 b := fun b h1 h2 => k3.1 b (by omega)
    have hun : q192 t = ru (sI t' 512 6 (nI 1)) := by
      unfold q192
      simp only [nI_lit, sp_e]
      rw [m1]
      unfold q192_32
      rw [nI_lit, gB_1, sp_e]
    have h22 : (sI t' 512 6 (nI 1)).2 = t.2 := (Eq.trans rfl rfl : _ = t'.2).trans (m2.2.trans (Eq.trans rfl rfl))
    generalize sI t' 512 6 (nI 1) = u at *
    have u5 : u.1 513 = s.1 513 := d0 513 (by omega) (by omega) (by omega) (by omega) (by omega)
    have u7 : u.1 517 = s.1 517 := d0 517 (by omega) (by omega) (by omega) (by omega) (by omega)
    have eA : ∀ p, hAct u p = hAct s p := fun p => by unfold hAct; rw [u5, u7]
    refine ⟨u, hun, Lq_e h22, ⟨?_, ?_, T, hT, by rw [u5]; exact hA⟩, Or.inr ⟨e012, e6, ?_, ?_, T, hT, IA_e hA g4⟩, ⟨r, x, r1, r2, ?_, ?_, ?_, fun e he => ?_⟩, ⟨L, t1, ?_, ?_, ?_, fun i hi => ?_⟩, ?_, ?_, fun _ => IUH_e hU0 g4, fun r' hr' e p hp => ?_⟩
    · rw [u5]; exact RW_s hR hA.1.1.1 (fun b h1 h2 => d0 b (by omega) (by omega) (by omega) (by omega) (by omega))
    · rw [u5]; exact RLw_c hA.1.2.2.1 rfl (fun _ _ _ => rfl) (fun b h1 h2 => d0 b (by omega) (by omega) (by omega) (by omega) (by omega)) hL
    · exact RW_e (k2 _ hR) hA.1.1.1 (fun b h1 h2 => d9 b (by omega) (by omega)) g4
    · refine RLb_e (y := 3) (s := s) hA.1.2.2.1 (g4 2 (by omega)) (fun j _ h => g4 j h) ?_ ?_ ?_ ?_ ?_ hL
      · rw [dL 10 (by omega) (by omega), j2 0 (by omega), s1L 3 (by omega) (by omega)]
      · intro j hj; rw [dL (10 + 1) (by omega) (by omega), j3 j hj, s1L (3 + 1) (by omega) (by omega)]
      · intro j hj; rw [dL (10 + 2) (by omega) (by omega), j4 j hj, s1L (3 + 2) (by omega) (by omega)]
      · intro j hj; rw [dL (10 + 3) (by omega) (by omega), j5 j hj, s1L (3 + 3) (by omega) (by omega)]
      · intro j hj; rw [dL (10 + 4) (by omega) (by omega), j6 j hj, s1L (3 + 4) (by omega) (by omega)]
    · rw [d0j 11 (by omega)]; exact r3
    · rw [d512 7 (by omega) (by omega)]; exact r4
    · rw [d0j 10 (by omega)]; exact r5
    · obtain ⟨q1, q2, T', hT', q3⟩ := r6 e he
      have : (x + 11 - e) % 12 < 12 := Nat.mod_lt _ (by omega)
      rw [eA]
      refine ⟨?_, by rw [u7, u5]; exact q2, T', hT', q3⟩
      generalize (x + 11 - e) % 12 = y at *
      exact RW_s q1 q3.1.1.1 (fun b h1 h2 => d0 b (by omega) (by omega) (by omega) (by omega) (by omega))
    · rw [d0 1 (by omega) (by omega) (by omega) (by omega) (by omega)]; exact t2
    · rw [d0 1 (by omega) (by omega) (by omega) (by omega) (by omega)]; exact t3
    · rw [d512 9 (by omega) (by omega)]; exact t4
    · rw [d0 2 (by omega) (by omega) (by omega) (by omega) (by omega), d0 518 (by omega) (by omega) (by omega) (by omega) (by omega)]; exact t5 i hi
    · rw [d0j 13 (by omega), d512 14 (by omega) (by omega)]; exact hF
    · rw [u5]; exact hU0
    · rw [eA]; exact hU2 r' hr' (by rw [← d512 7 (by omega) (by omega)]; exact e) p hp
theorem z_back (hG : G B s) : ZN B q176 q193 s := by
  have hG0 := hG
  obtain ⟨⟨hR, hL, T, hT, hA⟩, hI, ⟨r, x, r1, r2, r3, r4, r5, r6⟩, ⟨L, t1, t2, t3, t4, t5⟩, hF, hU0, hU1, hU2⟩ := hG0
  rcases hI with ⟨i1, i2⟩ | ⟨i1, i2, i3, i4, T', hT', i5⟩
  · refine ZN_0 (v := nI 0) hG ?_ (fun t ht => ?_)
    · unfold q176
      rw [nI_lit, if_neg (not_not_intro i1)]
    · unfold q193
      simp only [nI_lit, sp_e]
      have e7 : (sI t 512 0 (nI 0)).1 512 6 = nI 0 := by rw [sI_sm, ud_n (by omega), ht]; exact i2
      rw [if_neg (not_not_intro e7)]
  · obtain ⟨s1, k1, k2, k3⟩ := p111 (s := s) (a := 26) (b := 90) (by omega)
    obtain ⟨s2, j1, j2, j3, j4, j5, j6, j7⟩ := cp21 (s := s1) (y := 3) (x := 10) (by omega)
    have e2 : ∀ b, (b < 3 ∨ 8 ≤ b) → (b < 26 ∨ 58 ≤ b) → s2.1 b = s.1 b := fun b h1 h2 => by rw [j7.1 b (by omega)]; exact k3.1 b (by omega)
    refine ⟨nI 1, sI s2 0 11 (nI 0), ?_, (Eq.trans rfl rfl : _ = s2.2).trans (j7.2.trans k3.2), fun t ht => ?_⟩
    · unfold q176 q178
      rw [nI_lit, if_pos (by rw [i1]; decide), k1, bM_ru, j1, bM_ru, sp_e, bM_ru, nI_lit]
    · have z5 : ∀ b, b ≠ 512 → (sI t 512 0 (nI 0)).1 b = (sI s2 0 11 (nI 0)).1 b := fun b hb => by rw [sI_fn hb, ht]
      have z6 : (sI t 512 0 (nI 0)).1 512 6 = nI 1 := by rw [sI_sm, ud_n (by omega), ht, sI_fn (by omega), e2 512 (by omega) (by omega)]; exact i2
      have u514 : (sI t 512 0 (nI 0)).1 514 = s.1 514 := by rw [z5 514 (by omega), sI_fn (by omega), e2 514 (by omega) (by omega)]
      obtain ⟨t', m1, m2, m3⟩ := m193_16 (t := sI t 512 0 (nI 0)) (K := q193_41) 1619 0 10000 _ F1_r (by omega) (by omega) (fun j h => by omega)
      rw [u514] at m3
      have d : ∀ b, b ≠ 512 → b ≠ 513 → (sI t' 512 7 (nI 0)).1 b = (sI s2 0 11 (nI 0)).1 b := fun b h1 h2 => by rw [sI_fn h1, m2.1 b h2]; exact z5 b h1
      have d0 : ∀ b, b ≠ 0 → b ≠ 512 → b ≠ 513 → (b < 3 ∨ 8 ≤ b) → (b < 26 ∨ 58 ≤ b) → (sI t' 512 7 (nI 0)).1 b = s.1 b := fun b h0 h1 h2 h3 h4 => by rw [d b h1 h2, sI_fn h0]; exact e2 b h3 h4
      have d512 : ∀ j, j ≠ 0 → j ≠ 7 → (sI t' 512 7 (nI 0)).1 512 j = s.1 512 j := fun j h1 h2 => by rw [sI_sm, ud_n h2, m2.1 512 (by omega), sI_sm, ud_n h1, ht, sI_fn (by omega), e2 512 (by omega) (by omega)]
      have e7 : (sI t' 512 7 (nI 0)).1 512 7 = nI 0 := by rw [sI_sm, ud_e rfl]
      have e011 : (sI t' 512 7 (nI 0)).1 0 11 = nI 0 := by rw [d 0 (by omega) (by omega), sI_sm, ud_e rfl]
      have d0j : ∀ j, j ≠ 11 → (sI t' 512 7 (nI 0)).1 0 j = s.1 0 j := fun j hj => by rw [d 0 (by omega) (by omega), sI_sm, ud_n hj, e2 0 (by omega) (by omega)]
      have g4 : ∀ j, j < 1619 → (sI t' 512 7 (nI 0)).1 513 j = s.1 514 j := fun j hj => by rw [sI_fn (by omega)]; exact m3 j hj
      have d9 : ∀ b, 26 ≤ b → b < 58 → (sI t' 512 7 (nI 0)).1 b = s1.1 b := fun b h1 h2 => by rw [d b (by omega) (by omega), sI_fn (by omega), j7.1 b (by omega)]
      have dL : ∀ b, 3 ≤ b → b < 8 → (sI t' 512 7 (nI 0)).1 b = s2.1 b := fun b h1 h2 => by rw [d b (by omega) (by omega), sI_fn (by omega)]
      have s1L : ∀ b, 10 ≤ b → b < 15 → s1.1 b = s.1 b := fun b h1 h2 => k3.1 b (by omega)
      have hun : q193 t = rv (nI 1) (sI t' 512 7 (nI 0)) := by
        unfold q193
        simp only [nI_lit, sp_e]
        rw [if_pos (by rw [z6]; decide), m1]
        unfold q193_41
        simp only [nI_lit, sp_e]
      have h22 : (sI t' 512 7 (nI 0)).2 = t.2 := (Eq.trans rfl rfl : _ = t'.2).trans (m2.2.trans (Eq.trans rfl rfl))
      generalize sI t' 512 7 (nI 0) = u at *
      have u4 : u.1 514 = s.1 514 := d0 514 (by omega) (by omega) (by omega) (by omega) (by omega)
      refine ⟨u, hun, Lq_e h22, ⟨?_, ?_, T', hT', IA_e i5 g4⟩, Or.inr ⟨?_, ?_, ?_, ?_, T', hT', by rw [u4]; exact i5⟩, ⟨0, x, by omega, r2, e011, e7, ?_, fun e he => by omega⟩, ⟨L, t1, ?_, ?_, ?_, fun i hi => ?_⟩, ?_, IUH_e (hU1 i2) g4, ?_, fun r' hr' e p hp => ?_⟩
      · exact RW_e (k2 _ i3) i5.1.1.1 (fun b h1 h2 => d9 b (by omega) (by omega)) g4
      · refine RLb_e (y := 10) (z := 3) (s := s) i5.1.2.2.1 (g4 2 (by omega)) (fun j _ h => g4 j h) ?_ ?_ ?_ ?_ ?_ i4
        · rw [dL 3 (by omega) (by omega), j2 0 (by omega), s1L 10 (by omega) (by omega)]
        · intro j hj; rw [dL (3 + 1) (by omega) (by omega), j3 j hj, s1L (10 + 1) (by omega) (by omega)]
        · intro j hj; rw [dL (3 + 2) (by omega) (by omega), j4 j hj, s1L (10 + 2) (by omega) (by omega)]
        · intro j hj; rw [dL (3 + 3) (by omega) (by omega), j5 j hj, s1L (10 + 3) (by omega) (by omega)]
        · intro j hj; rw [dL (3 + 4) (by omega) (by omega), j6 j hj, s1L (10 + 4) (by omega) (by omega)]
      · rw [d0j 12 (by omega)]; exact i1
      · rw [d512 6 (by omega) (by omega)]; exact i2
      · rw [u4]; exact RW_s i3 i5.1.1.1 (fun b h1 h2 => d0 b (by omega) (by omega) (by omega) (by omega) (by omega))
      · rw [u4]
        exact RLb_e (y := 10) (s := s) i5.1.2.2.1 rfl (fun _ _ _ => rfl) (by rw [d0 10 (by omega) (by omega) (by omega) (by omega) (by omega)]) (fun j _ => by rw [d0 (10 + 1) (by omega) (by omega) (by omega) (by omega) (by omega)]) (fun j _ => by rw [d0 (10 + 2) (by omega) (by omega) (by omega) (by omega) (by omega)]) (fun j _ => by rw [d0 (10 + 3) (by omega) (by omega) (by omega) (by omega) (by omega)]) (fun j _ => by rw [d0 (10 + 4) (by omega) (by omega) (by omega) (by omega) (by omega)]) i4
      · rw [d0j 10 (by omega)]; exact r5
      · rw [d0 1 (by omega) (by omega) (by omega) (by omega) (by omega)]; exact t2
      · rw [d0 1 (by omega) (by omega) (by omega) (by omega) (by omega)]; exact t3
      · rw [d512 9 (by omega) (by omega)]; exact t4
      · rw [d0 2 (by omega) (by omega) (by omega) (by omega) (by omega), d0 518 (by omega) (by omega) (by omega) (by omega) (by omega)]; exact t5 i hi
      · rw [d0j 13 (by omega), d512 14 (by omega) (by omega)]; exact hF
      · rw [d512 6 (by omega) (by omega), u4]; exact hU1
      · have : r' = 0 := (nI_eqv (by omega) (by omega)).mp (e.symm.trans e7)
        omega
end ACT
