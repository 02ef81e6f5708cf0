/-! UNDO -/
theorem m195_26 {t : mS} {p : Nat} (hp : p < 12) (h7 : t.1 512 7 = nI p) : ∀ m i k t', F1 513 t t' → i + m = 770 → m < k → (∀ j, t'.1 513 j = if j < i then t.1 517 (770 * p + j) else t.1 513 j) → ∃ t'', q195_26 k (nI i) t' = rv (nI 1) t'' ∧ F1 513 t t'' ∧ ∀ j, t''.1 513 j = if j < 770 then t.1 517 (770 * p + j) else t.1 513 j := by
  intro m
  induction m with
  | zero =>
    intro i k t' hF hi hk hj
    cases k with
    | zero => omega
    | succ k =>
      have : i = 770 := by omega
      subst this
      exact ⟨t', by simp (disch := omega) only [q195_26, nI_lit, nI_add, pk_mul, nI_clp, nI_eqv, nI_lev, nI_ltv, nI_neg, nI_neg', nI_subv, Nat.add_zero, Nat.zero_add, Nat.mul_zero, Nat.reduceAdd, bN_rv, bM_ru, bV_rv, bV_rx, bU_ru, bU_rx, bN_ite, bM_ite, bV_ite, bU_ite, ↓bx_e, ↓sp_e, gA_ok, gZ_n, gB_0, gB_1, gB_i, and_true, and_false, true_and, false_and, decide_true, decide_false, ↓reduceIte, not_true_eq_false, not_false_eq_true, Bool.false_eq_true, Bool.true_eq_false, Bool.and_true, Bool.and_false, Bool.true_and, Bool.false_and, Bool.or_true, Bool.or_false, Bool.true_or, Bool.false_or, Bool.not_true, Bool.not_false, le_f, le_t, lt_f, lt_t, eq_f, ↓reduceIte, not_true_eq_false, not_false_eq_true, ite_10, bt_0, bt_1], hF, hj⟩
  | succ m ih =>
    intro i k t' hF hi hk hj
    cases k with
    | zero => omega
    | succ k =>
      have h5 : t'.1 517 = t.1 517 := hF.1 517 (by omega)
      have h7' : t'.1 512 7 = nI p := by rw [hF.1 512 (by omega)]; exact h7
      obtain ⟨t'', j1, j2, j3⟩ := ih (i + 1) k (sI t' 513 i (t.1 517 (770 * p + i))) (F1_J hF _ _) (by omega) (by omega) (fun j => by
        rw [sI_sm]
        by_cases e : j = i
        · subst e; rw [ud_e rfl, if_pos (by omega)]
        · rw [ud_n e, hj j]
          by_cases h : j < i
          · rw [if_pos h, if_pos (by omega)]
          · rw [if_neg h, if_neg (by omega)])
      refine ⟨t'', ?_, j2, j3⟩
      rw [← j1]
      simp (disch := omega) only [q195_26, h5, h7', nI_lit, nI_add, pk_mul, nI_clp, nI_eqv, nI_lev, nI_ltv, nI_neg, nI_neg', nI_subv, Nat.add_zero, Nat.zero_add, Nat.mul_zero, Nat.reduceAdd, bN_rv, bM_ru, bV_rv, bV_rx, bU_ru, bU_rx, bN_ite, bM_ite, bV_ite, bU_ite, ↓bx_e, ↓sp_e, gA_ok, gZ_n, gB_0, gB_1, gB_i, and_true, and_false, true_and, false_and, decide_true, decide_false, ↓reduceIte, not_true_eq_false, not_false_eq_true, Bool.false_eq_true, Bool.true_eq_false, Bool.and_true, Bool.and_false, Bool.true_and, Bool.false_and, Bool.or_true, Bool.or_false, Bool.true_or, Bool.false_or, Bool.not_true, Bool.not_false, le_f, le_t, lt_f, lt_t, eq_f, ↓reduceIte, not_true_eq_false, not_false_eq_true, ite_10, bt_0, bt_1]
section ACT
variable {B : Nat} {s : mS}
theorem z_undo (hG : G B s) : ZN B q174 q195 s := by
  have hG0 := hG
  obtain ⟨⟨hR, hL, T, hT, hA⟩, hI, ⟨r, x, r1, r2, r3, r4, r5, r6⟩, ⟨L, t1, t2, t3, t4, t5⟩, hF, hU0, hU1, hU2⟩ := hG0
  by_cases h0 : r = 0
  · subst h0
    refine ZN_0 (v := nI 0) hG ?_ (fun t ht => ?_)
    · unfold q174
      rw [nI_lit, if_neg (not_not_intro r3)]
    · unfold q195
      simp only [nI_lit, sp_e]
      have e7 : (sI t 512 0 (nI 0)).1 512 7 = nI 0 := by rw [sI_sm, ud_n (by omega), ht]; exact r4
      rw [if_neg (not_not_intro e7)]
  · have hx : (x + 11) % 12 < 12 := Nat.mod_lt _ (by omega)
    obtain ⟨q1, q2, T', hT', q3⟩ := r6 0 (by omega)
    simp only [Nat.sub_zero] at q1 q2 q3
    generalize hy : (x + 11) % 12 = y at *
    have e10 : (sI (sI s 0 10 (nI y)) 0 11 (nI (r - 1))).1 0 10 = nI y := by rw [sI_sm, ud_n (by omega), sI_sm, ud_e rfl]
    obtain ⟨s', k1, k2, k3⟩ := p111 (s := sI (sI s 0 10 (nI y)) 0 11 (nI (r - 1))) (a := 26) (b := 128 + 32 * y) (by omega)
    have c0 : ∀ b, b ≠ 0 → (sI (sI s 0 10 (nI y)) 0 11 (nI (r - 1))).1 b = s.1 b := fun b hb => by rw [sI_fn hb, sI_fn hb]
    have cS : ∀ b, b ≠ 0 → (b < 26 ∨ 58 ≤ b) → s'.1 b = s.1 b := fun b hb h => by rw [k3.1 b (by omega)]; exact c0 b hb
    have hR' : RW s' 26 (hAct s (r - 1)) := k2 _ (RW_s q1 q3.1.1.1 (fun b h1 h2 => c0 b (by omega)))
    refine ⟨nI 1, s', ?_, k3.2.trans (Eq.trans rfl rfl), fun t ht => ?_⟩
    · unfold q174
      have hne : ¬ s.1 0 11 = nI 0 := by rw [r3, nI_eqv (by omega) (by omega)]; exact h0
      have e11 : (sI s 0 10 (nI y)).1 0 11 = nI r := by rw [sI_sm, ud_n (by omega)]; exact r3
      have hc : (nI y).toNatClampNeg = y := nI_clp (by omega)
      simp only [nI_lit]
      rw [if_pos hne, gZ_n (by omega) (by omega), r5, nI_add, nI_subv (by omega), nI_rem (by omega) (by omega) (by omega), show (x + 12 - 1) % 12 = y by rw [← hy]; congr 1, sp_e, e11, nI_subv (by omega), sp_e, e10, gA_ok (by omega) (by omega), hc, k1, bM_ru]
    · have z5 : ∀ b, b ≠ 512 → (sI t 512 0 (nI 0)).1 b = s'.1 b := fun b hb => by rw [sI_fn hb, ht]
      have z7 : (sI t 512 0 (nI 0)).1 512 7 = nI r := by rw [sI_sm, ud_n (by omega), ht, cS 512 (by omega) (by omega)]; exact r4
      have w7 : (sI (sI t 512 0 (nI 0)) 512 7 (nI (r - 1))).1 512 7 = nI (r - 1) := by rw [sI_sm, ud_e rfl]
      have w512 : ∀ j, j ≠ 0 → j ≠ 7 → (sI (sI t 512 0 (nI 0)) 512 7 (nI (r - 1))).1 512 j = s.1 512 j := fun j h1 h2 => by rw [sI_sm, ud_n h2, sI_sm, ud_n h1, ht, cS 512 (by omega) (by omega)]
      have wn : ∀ b, b ≠ 512 → (sI (sI t 512 0 (nI 0)) 512 7 (nI (r - 1))).1 b = s'.1 b := fun b hb => by rw [sI_fn hb]; exact z5 b hb
      have ww : (sI (sI t 512 0 (nI 0)) 512 7 (nI (r - 1))).2 = t.2 := Eq.trans rfl rfl
      have hun : q195 t = q195_26 10000 (nI 0) (sI (sI t 512 0 (nI 0)) 512 7 (nI (r - 1))) := by
        unfold q195
        simp only [nI_lit, sp_e]
        rw [if_pos (by rw [z7, nI_eqv (by omega) (by omega)]; exact h0), z7, nI_subv (by omega)]
      generalize sI (sI t 512 0 (nI 0)) 512 7 (nI (r - 1)) = u at *
      obtain ⟨t', j1, j2, j3⟩ := m195_26 (t := u) (p := r - 1) (by omega) w7 770 0 10000 u F1_r (by omega) (by omega) (fun j => by rw [if_neg (by omega)])
      have u517 : u.1 517 = s.1 517 := by rw [wn 517 (by omega), cS 517 (by omega) (by omega)]
      have u513 : u.1 513 = s.1 513 := by rw [wn 513 (by omega), cS 513 (by omega) (by omega)]
      have e513 : t'.1 513 = hAct s (r - 1) := by
        funext j
        rw [j3 j]
        unfold hAct
        rw [u517, u513]
      have g2 : ∀ j, LJ j → hAct s (r - 1) j = s.1 513 j := fun j hj => by
        unfold hAct
        split
        · have : j = 2 := hj.resolve_right (by omega)
          subst this; exact q2
        · rfl
      have d : ∀ b, b ≠ 512 → b ≠ 513 → t'.1 b = s'.1 b := fun b h1 h2 => by rw [j2.1 b h2]; exact wn b h1
      have d0 : ∀ b, b ≠ 0 → (b < 26 ∨ 58 ≤ b) → b ≠ 512 → b ≠ 513 → t'.1 b = s.1 b := fun b h0 h h1 h2 => by rw [d b h1 h2]; exact cS b h0 h
      have d512 : ∀ j, j ≠ 0 → j ≠ 7 → t'.1 512 j = s.1 512 j := fun j h1 h2 => by rw [j2.1 512 (by omega)]; exact w512 j h1 h2
      have t7 : t'.1 512 7 = nI (r - 1) := by rw [j2.1 512 (by omega)]; exact w7
      have t0j : ∀ j, j ≠ 10 → j ≠ 11 → t'.1 0 j = s.1 0 j := fun j h1 h2 => by rw [d 0 (by omega) (by omega), k3.1 0 (by omega), sI_sm, ud_n h2, sI_sm, ud_n h1]
      have t010 : t'.1 0 10 = nI y := by rw [d 0 (by omega) (by omega), k3.1 0 (by omega)]; exact e10
      have t011 : t'.1 0 11 = nI (r - 1) := by rw [d 0 (by omega) (by omega), k3.1 0 (by omega), sI_sm, ud_e rfl]
      have eA : ∀ p, hAct t' p = hAct s p := fun p => by
        funext j
        unfold hAct
        split
        · rw [d0 517 (by omega) (by omega) (by omega) (by omega)]
        · rw [e513]; exact g2 j (Or.inr (by omega))
      have e514 : t'.1 514 = s.1 514 := d0 514 (by omega) (by omega) (by omega) (by omega)
      refine ⟨t', by rw [hun]; exact j1, Lq_e (j2.2.trans ww), ⟨?_, ?_, T', hT', by rw [e513]; exact q3⟩, ?_, ⟨r - 1, y, by omega, by omega, t011, t7, t010, fun e he => ?_⟩, ⟨L, t1, ?_, ?_, ?_, fun i hi => ?_⟩, ?_, ?_, ?_, fun r' hr' e p hp => ?_⟩
      · rw [e513]; exact RW_s hR' q3.1.1.1 (fun b h1 h2 => d b (by omega) (by omega))
      · rw [e513]; exact RLw_c hA.1.2.2.1 (g2 2 (Or.inl rfl)) (fun j h1 h2 => g2 j (Or.inr h1)) (fun b h1 h2 => d0 b (by omega) (by omega) (by omega) (by omega)) hL
      · rcases hI with ⟨i1, i2⟩ | ⟨i1, i2, i3, i4, T2, hT2, i5⟩
        · exact Or.inl ⟨by rw [t0j 12 (by omega) (by omega)]; exact i1, by rw [d512 6 (by omega) (by omega)]; exact i2⟩
        · refine Or.inr ⟨by rw [t0j 12 (by omega) (by omega)]; exact i1, by rw [d512 6 (by omega) (by omega)]; exact i2, ?_, ?_, T2, hT2, by rw [e514]; exact i5⟩
          · rw [e514]; exact RW_s i3 i5.1.1.1 (fun b h1 h2 => d0 b (by omega) (by omega) (by omega) (by omega))
          · have q : ∀ b, 10 ≤ b → b < 15 → t'.1 b = s.1 b := fun b h1 h2 => d0 b (by omega) (by omega) (by omega) (by omega)
            unfold RLb at i4 ⊢
            rw [e514, q 10 (by omega) (by omega), q (10 + 1) (by omega) (by omega), q (10 + 2) (by omega) (by omega), q (10 + 3) (by omega) (by omega), q (10 + 4) (by omega) (by omega)]
            exact i4
      · obtain ⟨p1, p2, T2, hT2, p3⟩ := r6 (e + 1) (by omega)
        have e1 : (y + 11 - e) % 12 = (x + 11 - (e + 1)) % 12 := by omega
        have e2 : r - 1 - 1 - e = r - 1 - (e + 1) := by omega
        rw [e1, e2, eA]
        refine ⟨?_, ?_, T2, hT2, p3⟩
        · have : (x + 11 - (e + 1)) % 12 < 12 := Nat.mod_lt _ (by omega)
          exact RW_s p1 p3.1.1.1 (fun b h1 h2 => d0 b (by omega) (by omega) (by omega) (by omega))
        · rw [d0 517 (by omega) (by omega) (by omega) (by omega), e513, g2 2 (Or.inl rfl)]; exact p2
      · rw [d0 1 (by omega) (by omega) (by omega) (by omega)]; exact t2
      · rw [d0 1 (by omega) (by omega) (by omega) (by omega)]; exact t3
      · rw [d512 9 (by omega) (by omega)]; exact t4
      · rw [d0 2 (by omega) (by omega) (by omega) (by omega), d0 518 (by omega) (by omega) (by omega) (by omega)]; exact t5 i hi
      · rw [t0j 13 (by omega) (by omega), d512 14 (by omega) (by omega)]; exact hF
      · rw [e513]; exact hU2 r r1 r4 (r - 1) (by omega)
      · rw [d512 6 (by omega) (by omega), e514]; exact hU1
      · have : r' = r - 1 := (nI_eqv (by omega) (by omega)).mp (e.symm.trans t7)
        subst this
        rw [eA]; exact hU2 r r1 r4 p (by omega)
end ACT
