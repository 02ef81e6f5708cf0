/-! TIDY AND SETTLE, BOTH -/
theorem IM_met {T : Nat} : ∀ n (f : Nat → Int32), IM T f → IM T (mMet n f) := by
  intro n
  induction n with
  | zero => intro f h; exact h
  | succ n ih =>
    intro f h
    rw [mMet]
    cases e : sDg f with
    | none => exact h
    | some p =>
      obtain ⟨-, hv, hr⟩ := sDg_R e
      exact ih _ (IM_ab h hv (sR_U hr))
theorem IM_t1 {T : Nat} : ∀ n (f : Nat → Int32), IM T f → IM T (mTd1 n f) := by
  intro n
  induction n with
  | zero => intro f h; exact h
  | succ n ih =>
    intro f h
    cases e : oOld f (sDn f) with
    | none => rw [mTd1_n e]; exact h
    | some j => rw [mTd1_s e]; exact ih _ (IM_le h (oOld_s e).1 (IS_le h.1 (oOld_s e).1))
theorem sR_t1 : ∀ n (f : Nat → Int32) j, j < 8 → sR (mTd1 n f) j = sR f j := by
  intro n
  induction n with
  | zero => intro f j _; rfl
  | succ n ih =>
    intro f j hj
    cases e : oOld f (sDn f) with
    | none => rw [mTd1_n e]
    | some i =>
      rw [mTd1_s e, ih _ j hj, (sX_le hj).1]
      have hf := (sDn_i.mp (oOld_s e).2.1).1
      by_cases q : j = i
      · subst q
        cases e2 : sR f j with
        | false => rfl
        | true => rw [sR_F e2] at hf; cases hf
      · simp only [q, and_true, and_false, true_and, false_and, decide_true, decide_false, ↓reduceIte, not_true_eq_false, not_false_eq_true, Bool.false_eq_true, Bool.true_eq_false, Bool.and_true, Bool.and_false, Bool.true_and, Bool.false_and, Bool.or_true, Bool.or_false, Bool.true_or, Bool.false_or, Bool.not_true, Bool.not_false]
theorem sR_t2 : ∀ n (f : Nat → Int32) j, j < 8 → sR (mTd2 n f) j = sR f j := by
  intro n
  induction n with
  | zero => intro f j _; rfl
  | succ n ih =>
    intro f j hj
    by_cases hq : bc (sAll f (nI 2)) ≤ f 4
    · rw [mTd2_k hq]
    · cases e : oOld f (sF f) with
      | none => rw [mTd2, if_neg hq, e]
      | some i =>
        rw [mTd2_s hq e, ih _ j hj]
        unfold mSumm
        rw [(sX_le hj).1, sR_c (mSm_n (by omega))]
        have hf := (oOld_s e).2.1
        by_cases q : j = i
        · subst q
          cases e2 : sR f j with
          | false => rfl
          | true => rw [sR_F e2] at hf; cases hf
        · simp only [q, and_true, and_false, true_and, false_and, decide_true, decide_false, ↓reduceIte, not_true_eq_false, not_false_eq_true, Bool.false_eq_true, Bool.true_eq_false, Bool.and_true, Bool.and_false, Bool.true_and, Bool.false_and, Bool.or_true, Bool.or_false, Bool.true_or, Bool.false_or, Bool.not_true, Bool.not_false]
theorem sR_td {f : Nat → Int32} {j : Nat} (hj : j < 8) : sR (mTidy f) j = sR f j := by unfold mTidy; rw [sR_t2 _ _ _ hj, sR_t1 _ _ _ hj]
theorem p125_10 {a T : Nat} (ha : 10 ≤ a) {bd : Int32} : ∀ m i n (s : mS) (f : Nat → Int32), i + m = 8 → RW s a f → RLw s f → IM T f → (∀ x, x < bd ↔ (x < nI 2147483647 ∧ ∀ o, o < 8 → sR f o = true → x < f (74 + 21 * o + 2))) → m < n → ∃ s', q125_10 (q125_42 a) (q125_82 a) a n bd (nI i) s = q125_82 a s' ∧ RW s' a (mTd1 m f) ∧ RLw s' (mTd1 m f) ∧ Fw a s s' := by
  intro m
  induction m with
  | zero =>
    intro i n s f hi h hL hm hb hn
    cases n with
    | zero => omega
    | succ n =>
      have : i = 8 := by omega
      subst this
      refine ⟨s, ?_, h, hL, Fw_r⟩
      rw [q125_10]
      simp (disch := omega) only [nI_lit, nI_add, pk_mul, nI_clp, nI_eqv, nI_lev, nI_ltv, nI_neg, nI_neg', nI_subv, Nat.add_zero, Nat.zero_add, Nat.mul_zero, Nat.reduceAdd, bN_rv, bM_ru, bV_rv, bV_rx, bU_ru, bU_rx, bN_ite, bM_ite, bV_ite, bU_ite, ↓bx_e, ↓sp_e, gA_ok, gZ_n, gB_0, gB_1, gB_i, and_true, and_false, true_and, false_and, decide_true, decide_false, ↓reduceIte, not_true_eq_false, not_false_eq_true, Bool.false_eq_true, Bool.true_eq_false, Bool.and_true, Bool.and_false, Bool.true_and, Bool.false_and, Bool.or_true, Bool.or_false, Bool.true_or, Bool.false_or, Bool.not_true, Bool.not_false, le_f, le_t, lt_f, lt_t, eq_f, ↓reduceIte, not_true_eq_false, not_false_eq_true, ite_10, bt_0, bt_1]
  | succ m ih =>
    intro i n s f hi h hL hm hb hn
    cases n with
    | zero => omega
    | succ n =>
      rw [q125_10]
      have hdn := oOld_dn (f := f)
      cases e : oOld f (sF f) with
      | none =>
        rw [e] at hdn
        refine ⟨s, ?_, ?_, ?_, Fw_r⟩
        · simp (disch := omega) only [p75 h.1, e, oI_n, nI_lit, nI_add, pk_mul, nI_clp, nI_eqv, nI_lev, nI_ltv, nI_neg, nI_neg', nI_subv, Nat.add_zero, Nat.zero_add, Nat.mul_zero, Nat.reduceAdd, bN_rv, bM_ru, bV_rv, bV_rx, bU_ru, bU_rx, bN_ite, bM_ite, bV_ite, bU_ite, ↓bx_e, ↓sp_e, gA_ok, gZ_n, gB_0, gB_1, gB_i, and_true, and_false, true_and, false_and, decide_true, decide_false, ↓reduceIte, not_true_eq_false, not_false_eq_true, Bool.false_eq_true, Bool.true_eq_false, Bool.and_true, Bool.and_false, Bool.true_and, Bool.false_and, Bool.or_true, Bool.or_false, Bool.true_or, Bool.false_or, Bool.not_true, Bool.not_false, le_f, le_t, lt_f, lt_t, eq_f, ↓reduceIte, not_true_eq_false, not_false_eq_true, ite_10, bt_0, bt_1]
        · rw [mTd1_n hdn]; exact h
        · rw [mTd1_n hdn]; exact hL
      | some j =>
        rw [e] at hdn
        dsimp only at hdn
        obtain ⟨a1, a2, -, -⟩ := oOld_s e
        have hu := sF_U a2
        obtain ⟨z, hz, hz2⟩ := (hm.2.2.2.1.2.2 j a1).2.1
        have hT := hm.2.2.2.1.1
        have hbj : f (74 + 21 * j + 3) < bd ↔ sDn f j = true := by
          rw [hb, sDn_i]
          constructor
          · intro q; exact ⟨a2, q.2⟩
          · intro q
            refine ⟨?_, q.2⟩
            rw [hz2]; exact (nI_ltI (by omega) (by omega)).mpr (by omega)
        cases ed : sDn f j with
        | false =>
          rw [ed, if_neg (by decide)] at hdn
          have hnb : ¬ f (74 + 21 * j + 3) < bd := fun q => by rw [hbj.mp q] at ed; cases ed
          refine ⟨s, ?_, ?_, ?_, Fw_r⟩
          · simp (disch := omega) only [p75 h.1, e, oI_s, h.1.2.2.2.2.2.2.1 j a1 hu, hnb, q125_42, nI_lit, nI_add, pk_mul, nI_clp, nI_eqv, nI_lev, nI_ltv, nI_neg, nI_neg', nI_subv, Nat.add_zero, Nat.zero_add, Nat.mul_zero, Nat.reduceAdd, bN_rv, bM_ru, bV_rv, bV_rx, bU_ru, bU_rx, bN_ite, bM_ite, bV_ite, bU_ite, ↓bx_e, ↓sp_e, gA_ok, gZ_n, gB_0, gB_1, gB_i, and_true, and_false, true_and, false_and, decide_true, decide_false, ↓reduceIte, not_true_eq_false, not_false_eq_true, Bool.false_eq_true, Bool.true_eq_false, Bool.and_true, Bool.and_false, Bool.true_and, Bool.false_and, Bool.or_true, Bool.or_false, Bool.true_or, Bool.false_or, Bool.not_true, Bool.not_false, le_f, le_t, lt_f, lt_t, eq_f, ↓reduceIte, not_true_eq_false, not_false_eq_true, ite_10, bt_0, bt_1]
          · rw [mTd1_n hdn]; exact h
          · rw [mTd1_n hdn]; exact hL
        | true =>
          rw [ed, if_pos rfl] at hdn
          obtain ⟨s1, s2, j1, j2, j3, j4, j5, j6⟩ := pLv h hL hm ha a1 hu (w := nI 6)
          have hri : sR f j = false := by
            cases q : sR f j with
            | false => rfl
            | true => rw [sR_F q] at a2; cases a2
          have H := ih (i + 1) n s2 (mLeave f j (nI 6)) (by omega) j3 j4 (IM_le hm a1 j5) ?_ (by omega)
          · obtain ⟨s3, k1, k2, k3, k4⟩ := H
            refine ⟨s3, ?_, ?_, ?_, Fw_t j6 k4⟩
            · rw [← k1]
              simp (disch := omega) only [p75 h.1, e, oI_s, h.1.2.2.2.2.2.2.1 j a1 hu, hbj.mpr ed, h.2.2.2.2.2.1, h.1.2.2.2.2.1 j a1 hu, j1, j2, nI_lit, nI_add, pk_mul, nI_clp, nI_eqv, nI_lev, nI_ltv, nI_neg, nI_neg', nI_subv, Nat.add_zero, Nat.zero_add, Nat.mul_zero, Nat.reduceAdd, bN_rv, bM_ru, bV_rv, bV_rx, bU_ru, bU_rx, bN_ite, bM_ite, bV_ite, bU_ite, ↓bx_e, ↓sp_e, gA_ok, gZ_n, gB_0, gB_1, gB_i, and_true, and_false, true_and, false_and, decide_true, decide_false, ↓reduceIte, not_true_eq_false, not_false_eq_true, Bool.false_eq_true, Bool.true_eq_false, Bool.and_true, Bool.and_false, Bool.true_and, Bool.false_and, Bool.or_true, Bool.or_false, Bool.true_or, Bool.false_or, Bool.not_true, Bool.not_false, le_f, le_t, lt_f, lt_t, eq_f, ↓reduceIte, not_true_eq_false, not_false_eq_true, ite_10, bt_0, bt_1]
            · rw [mTd1_s hdn]; exact k2
            · rw [mTd1_s hdn]; exact k3
          · intro x
            rw [hb]
            constructor
            · intro q
              refine ⟨q.1, fun o ho hr => ?_⟩
              rw [(sX_le ho).1, Bool.and_eq_true] at hr
              have hne : o ≠ j := fun q => by rw [decide_eq_true q] at hr; cases hr.2
              rw [mLe_o ho hne (by omega) (by omega) (by omega) (by omega)]
              exact q.2 o ho hr.1
            · intro q
              refine ⟨q.1, fun o ho hr => ?_⟩
              have hne : o ≠ j := fun q => by subst q; rw [hri] at hr; cases hr
              have := q.2 o ho (by rw [(sX_le ho).1, hr]; simp only [hne, and_true, and_false, true_and, false_and, decide_true, decide_false, ↓reduceIte, not_true_eq_false, not_false_eq_true, Bool.false_eq_true, Bool.true_eq_false, Bool.and_true, Bool.and_false, Bool.true_and, Bool.false_and, Bool.or_true, Bool.or_false, Bool.true_or, Bool.false_or, Bool.not_true, Bool.not_false])
              rw [mLe_o ho hne (by omega) (by omega) (by omega) (by omega)] at this
              exact this
theorem p125_84 {a T : Nat} (ha : 10 ≤ a) : ∀ m i n (s : mS) (f : Nat → Int32), i + m = 8 → RW s a f → RLw s f → IM T f → m < n → ∃ s', q125_84 (q125_120 a) a n (nI i) s = ru s' ∧ RW s' a (mTd2 m f) ∧ RLw s' (mTd2 m f) ∧ IM T (mTd2 m f) ∧ Fw a s s' := by
  intro m
  induction m with
  | zero =>
    intro i n s f hi h hL hm hn
    cases n with
    | zero => omega
    | succ n =>
      have : i = 8 := by omega
      subst this
      refine ⟨s, ?_, h, hL, hm, Fw_r⟩
      rw [q125_84]
      simp (disch := omega) only [nI_lit, nI_add, pk_mul, nI_clp, nI_eqv, nI_lev, nI_ltv, nI_neg, nI_neg', nI_subv, Nat.add_zero, Nat.zero_add, Nat.mul_zero, Nat.reduceAdd, bN_rv, bM_ru, bV_rv, bV_rx, bU_ru, bU_rx, bN_ite, bM_ite, bV_ite, bU_ite, ↓bx_e, ↓sp_e, gA_ok, gZ_n, gB_0, gB_1, gB_i, and_true, and_false, true_and, false_and, decide_true, decide_false, ↓reduceIte, not_true_eq_false, not_false_eq_true, Bool.false_eq_true, Bool.true_eq_false, Bool.and_true, Bool.and_false, Bool.true_and, Bool.false_and, Bool.or_true, Bool.or_false, Bool.true_or, Bool.false_or, Bool.not_true, Bool.not_false, le_f, le_t, lt_f, lt_t, eq_f, ↓reduceIte, not_true_eq_false, not_false_eq_true, ite_10, bt_0, bt_1]
  | succ m ih =>
    intro i n s f hi h hL hm hn
    cases n with
    | zero => omega
    | succ n =>
      have hw : s.1 (a + 6) 1 = sAll f (nI 2) := by
        apply b_ext
        intro k _
        rw [h.1.2.1 k, bt_sAll]; rfl
      rw [q125_84]
      by_cases hq : bc (sAll f (nI 2)) ≤ f 4
      · refine ⟨s, ?_, ?_, ?_, ?_, Fw_r⟩
        · simp (disch := omega) only [q343_e, hw, h.2.2.2.2.2.2.1, hq, nI_lit, nI_add, pk_mul, nI_clp, nI_eqv, nI_lev, nI_ltv, nI_neg, nI_neg', nI_subv, Nat.add_zero, Nat.zero_add, Nat.mul_zero, Nat.reduceAdd, bN_rv, bM_ru, bV_rv, bV_rx, bU_ru, bU_rx, bN_ite, bM_ite, bV_ite, bU_ite, ↓bx_e, ↓sp_e, gA_ok, gZ_n, gB_0, gB_1, gB_i, and_true, and_false, true_and, false_and, decide_true, decide_false, ↓reduceIte, not_true_eq_false, not_false_eq_true, Bool.false_eq_true, Bool.true_eq_false, Bool.and_true, Bool.and_false, Bool.true_and, Bool.false_and, Bool.or_true, Bool.or_false, Bool.true_or, Bool.false_or, Bool.not_true, Bool.not_false, le_f, le_t, lt_f, lt_t, eq_f, ↓reduceIte, not_true_eq_false, not_false_eq_true, ite_10, bt_0, bt_1]
        · rw [mTd2_k hq]; exact h
        · rw [mTd2_k hq]; exact hL
        · rw [mTd2_k hq]; exact hm
      · cases e : oOld f (sF f) with
        | none =>
          have e2 : mTd2 (m + 1) f = f := by rw [mTd2, if_neg hq, e]
          refine ⟨s, ?_, ?_, ?_, ?_, Fw_r⟩
          · simp (disch := omega) only [q343_e, hw, h.2.2.2.2.2.2.1, hq, p75 h.1, e, oI_n, q125_120, nI_lit, nI_add, pk_mul, nI_clp, nI_eqv, nI_lev, nI_ltv, nI_neg, nI_neg', nI_subv, Nat.add_zero, Nat.zero_add, Nat.mul_zero, Nat.reduceAdd, bN_rv, bM_ru, bV_rv, bV_rx, bU_ru, bU_rx, bN_ite, bM_ite, bV_ite, bU_ite, ↓bx_e, ↓sp_e, gA_ok, gZ_n, gB_0, gB_1, gB_i, and_true, and_false, true_and, false_and, decide_true, decide_false, ↓reduceIte, not_true_eq_false, not_false_eq_true, Bool.false_eq_true, Bool.true_eq_false, Bool.and_true, Bool.and_false, Bool.true_and, Bool.false_and, Bool.or_true, Bool.or_false, Bool.true_or, Bool.false_or, Bool.not_true, Bool.not_false, le_f, le_t, lt_f, lt_t, eq_f, ↓reduceIte, not_true_eq_false, not_false_eq_true, ite_10, bt_0, bt_1]
          · rw [e2]; exact h
          · rw [e2]; exact hL
          · rw [e2]; exact hm
        | some j =>
          obtain ⟨a1, a2, -, -⟩ := oOld_s e
          have hu := sF_U a2
          obtain ⟨s1, j1, j2, j3, j4, j5⟩ := p126 h hL hm ha a1 hu
          have hu1 : sU (mSm f (f (74 + 21 * j + 3)) (sFst f j) j) j = true := by rw [sU_c (mSm_n (by omega))]; exact hu
          obtain ⟨s2, s3, k1, k2, k3, k4, k5, k6⟩ := pLv j2 j3 j4 ha a1 hu1 (w := nI 5)
          obtain ⟨s4, l1, l2, l3, l4, l5⟩ := ih (i + 1) n s3 (mSumm f j) (by omega) k3 k4 (IM_le j4 a1 k5) (by omega)
          have q9 := j2.2.2.2.2.2.1
          have q1 := j2.1.2.2.2.2.1 j a1 hu1
          refine ⟨s4, ?_, ?_, ?_, ?_, Fw_t j5 (Fw_t k6 l5)⟩
          · rw [← l1]
            simp (disch := omega) only [q343_e, hw, h.2.2.2.2.2.2.1, hq, p75 h.1, e, oI_s, j1, q9, q1, k1, k2, nI_lit, nI_add, pk_mul, nI_clp, nI_eqv, nI_lev, nI_ltv, nI_neg, nI_neg', nI_subv, Nat.add_zero, Nat.zero_add, Nat.mul_zero, Nat.reduceAdd, bN_rv, bM_ru, bV_rv, bV_rx, bU_ru, bU_rx, bN_ite, bM_ite, bV_ite, bU_ite, ↓bx_e, ↓sp_e, gA_ok, gZ_n, gB_0, gB_1, gB_i, and_true, and_false, true_and, false_and, decide_true, decide_false, ↓reduceIte, not_true_eq_false, not_false_eq_true, Bool.false_eq_true, Bool.true_eq_false, Bool.and_true, Bool.and_false, Bool.true_and, Bool.false_and, Bool.or_true, Bool.or_false, Bool.true_or, Bool.false_or, Bool.not_true, Bool.not_false, le_f, le_t, lt_f, lt_t, eq_f, ↓reduceIte, not_true_eq_false, not_false_eq_true, ite_10, bt_0, bt_1]
          · rw [mTd2_s hq e]; exact l2
          · rw [mTd2_s hq e]; exact l3
          · rw [mTd2_s hq e]; exact l4
theorem p125 {s : mS} {a T : Nat} {f : Nat → Int32} (h : RW s a f) (hL : RLw s f) (hm : IM T f) (ha : 10 ≤ a) : ∃ s', q125 a s = ru s' ∧ RW s' a (mTidy f) ∧ RLw s' (mTidy f) ∧ IM T (mTidy f) ∧ Fw a s s' := by
  obtain ⟨s1, j1, j2, j3, j4⟩ := p125_10 ha 8 0 10000 s f (by omega) h hL hm (fun x => lt_sLb (f := f)) (by omega)
  obtain ⟨s2, k1, k2, k3, k4, k5⟩ := p125_84 ha 8 0 10000 s1 (mTd1 8 f) (by omega) j2 j3 (IM_t1 8 f hm) (by omega)
  refine ⟨s2, ?_, k2, k3, k4, Fw_t j4 k5⟩
  unfold q125
  rw [p74 h.1]
  simp only [bN_rv]
  rw [nI_lit, j1]
  unfold q125_82
  rw [nI_lit]
  exact k1
def mSt (f : Nat → Int32) : Nat → Int32 := mTidy (mMet 8 f)
theorem p120 {s : mS} {a T : Nat} {f : Nat → Int32} (h : RW s a f) (hL : RLw s f) (hm : IM T f) (ha : 10 ≤ a) : ∃ s', q120 a s = ru s' ∧ RW s' a (mSt f) ∧ RLw s' (mSt f) ∧ IM T (mSt f) ∧ Fw a s s' := by
  obtain ⟨s1, j1, j2, j3, j4⟩ := p120_2 ha 8 0 10000 s f (by omega) h hL hm (by omega)
  obtain ⟨s2, k1, k2, k3, k4, k5⟩ := p125 j2 j3 (IM_met 8 f hm) ha
  refine ⟨s2, ?_, k2, k3, k4, Fw_t j4 k5⟩
  unfold q120
  rw [nI_lit, j1]
  unfold q120_48
  rw [k1]
  simp only [bM_ru]
theorem MA_wr {t : mS} {f' : Nat → Int32} (h : ∀ j, j < 8 → sR f' j = sR (t.1 513) j) : MA t (wr t f') (t.1 513) f' := by
  refine ⟨wr_1, fun b _ y _ => wr_n y, fun j _ => by rw [wr_n (by omega)], Eq.trans rfl rfl, fun j => ?_, fun j hj q => by rw [← h j hj]; exact q⟩
  rw [wr_n (by omega)]
  by_cases hj : j < 8
  · rw [h j hj]; cases sR (t.1 513) j <;> simp only [and_true, and_false, true_and, false_and, decide_true, decide_false, ↓reduceIte, not_true_eq_false, not_false_eq_true, Bool.false_eq_true, Bool.true_eq_false, Bool.and_true, Bool.and_false, Bool.true_and, Bool.false_and, Bool.or_true, Bool.or_false, Bool.true_or, Bool.false_or, Bool.not_true, Bool.not_false]
  · simp only [hj, and_true, and_false, true_and, false_and, decide_true, decide_false, ↓reduceIte, not_true_eq_false, not_false_eq_true, Bool.false_eq_true, Bool.true_eq_false, Bool.and_true, Bool.and_false, Bool.true_and, Bool.false_and, Bool.or_true, Bool.or_false, Bool.true_or, Bool.false_or, Bool.not_true, Bool.not_false]
theorem mTdy {t : mS} {T : Nat} (hm : IM T (t.1 513)) : q261 t = ru (wr t (mTidy (t.1 513))) ∧ MA t (wr t (mTidy (t.1 513))) (t.1 513) (mTidy (t.1 513)) := by
  obtain ⟨-, -, -, -, k, hk, h4⟩ := hm
  exact ⟨m261 hk h4, MA_wr (fun j hj => sR_td hj)⟩
theorem mSet {t : mS} {T : Nat} (hm : IM T (t.1 513)) : ∃ t1 t2, q257 t = ru t1 ∧ q261 t1 = ru t2 ∧ MA t t2 (t.1 513) (mSt (t.1 513)) := by
  obtain ⟨t1, h1, h2, h3⟩ := m257 hm
  have e : t1.1 513 = mMet 8 (t.1 513) := h2.1
  have := mTdy (t := t1) (T := T) (by rw [e]; exact h3)
  rw [e] at this
  exact ⟨t1, _, h1, this.1, MA_t h2 this.2⟩
