/-! WHAT STAYS OVER ALL THAT; STEPS -/
theorem mMet_x {T : Nat} {j : Nat} (hj : j < 49) (h6 : j ≠ 6) : ∀ n (f : Nat → Int32), IM T f → mMet n f j = f j := by
  intro n
  induction n with
  | zero => intro f _; rfl
  | succ n ih =>
    intro f h
    rw [mMet]
    cases e : sDg f with
    | none => rfl
    | some p =>
      obtain ⟨-, hv, hr⟩ := sDg_R e
      dsimp only
      rw [ih _ (IM_ab h hv (sR_U hr)), mAb_n hv (h.1.1 _ hv).2 (by omega) h6 (by omega)]
theorem mTd1_x {j : Nat} (hj : j < 49) (h6 : j ≠ 6) : ∀ n (f : Nat → Int32), mTd1 n f j = f j := by
  intro n
  induction n with
  | zero => intro f; rfl
  | succ n ih =>
    intro f
    cases e : oOld f (sDn f) with
    | none => rw [mTd1_n e]
    | some i => rw [mTd1_s e, ih, mLe_n (oOld_s e).1 h6 (by omega)]
theorem mTd2_x {j : Nat} (hj : j < 9 ∨ (j < 49 ∧ (j - 9) % 4 = 0)) (h6 : j ≠ 6) : ∀ n (f : Nat → Int32), mTd2 n f j = f j := by
  intro n
  induction n with
  | zero => intro f; rfl
  | succ n ih =>
    intro f
    by_cases hq : bc (sAll f (nI 2)) ≤ f 4
    · rw [mTd2_k hq]
    · cases e : oOld f (sF f) with
      | none => rw [mTd2, if_neg hq, e]
      | some i =>
        rw [mTd2_s hq e, ih]
        unfold mSumm
        rw [mLe_n (oOld_s e).1 h6 (by omega), mSm_n (by omega)]
theorem mTidy_x {j : Nat} {f : Nat → Int32} (hj : j < 9 ∨ (j < 49 ∧ (j - 9) % 4 = 0)) (h6 : j ≠ 6) : mTidy f j = f j := by
  unfold mTidy; rw [mTd2_x hj h6, mTd1_x (by omega) h6]
theorem mSt_x {T : Nat} {j : Nat} {f : Nat → Int32} (h : IM T f) (hj : j < 9 ∨ (j < 49 ∧ (j - 9) % 4 = 0)) (h6 : j ≠ 6) : mSt f j = f j := by
  unfold mSt; rw [mTidy_x hj h6, mMet_x (by omega) h6 8 f h]
def IA (T : Nat) (f : Nat → Int32) : Prop := IM T f ∧ IV f ∧ hN f ≤ 12 ∧ f 7 = nI (hN f)
theorem IA_g {T U : Nat} {f g : Nat → Int32} (h : IA T f) (hm : IM U g) (hg : ∀ j, j = 7 ∨ (9 ≤ j ∧ j < 49 ∧ (j - 9) % 4 = 0) → g j = f j) : IA U g := by
  obtain ⟨-, h2, h3, h4⟩ := h
  refine ⟨hm, fun k hk => by rw [hg _ (by omega)]; exact h2 k hk, ?_, ?_⟩
  · unfold hN; rw [hg _ (by omega)]; exact h3
  · unfold hN; rw [hg _ (by omega)]; exact h4
theorem IM_tidy {T : Nat} {f : Nat → Int32} (h : IM T f) : IM T (mTidy f) := by
  unfold mTidy
  have h1 := IM_t1 8 f h
  generalize mTd1 8 f = g at *
  have : ∀ n (g : Nat → Int32), IM T g → IM T (mTd2 n g) := by
    intro n
    induction n with
    | zero => intro g hg; exact hg
    | succ n ih =>
      intro g hg
      by_cases hq : bc (sAll g (nI 2)) ≤ g 4
      · rw [mTd2_k hq]; exact hg
      · cases e : oOld g (sF g) with
        | none => rw [mTd2, if_neg hq, e]; exact hg
        | some i =>
          rw [mTd2_s hq e]
          have ai := (oOld_s e).1
          have M1 : IM T (mSm g (g (74 + 21 * i + 3)) (sFst g i) i) := IM_c hg (fun j hj => mSm_n (by omega))
          exact ih _ (IM_le M1 ai (IS_le M1.1 ai))
  exact this 8 g h1
theorem IM_mSt {T : Nat} {f : Nat → Int32} (h : IM T f) : IM T (mSt f) := IM_tidy (IM_met 8 f h)
theorem IA_st {T : Nat} {f g : Nat → Int32} (h : IA T f) (hm : IM T g) (hg : ∀ j, j = 7 ∨ (9 ≤ j ∧ j < 49 ∧ (j - 9) % 4 = 0) → g j = f j) : IA T (mSt g) := IA_g h (IM_mSt hm) (fun j hj => by rw [mSt_x hm (by omega) (by omega)]; exact hg j hj)
theorem IA_read {T : Nat} {f : Nat → Int32} (h : IA T f) {i k : Nat} (hi : i < 8) (hk : k < 10) (hr : sR f i = true) : IA T (mRead f i k) := by
  have hu := sR_U hr
  have M1 : IM T (mRd1 f i k) := IM_u h.1 hi hu (by omega) _
  have hr1 : sR (mRd1 f i k) i = true := by unfold mRd1; rw [sR_u (by omega)]; exact hr
  have n1 : ∀ j, j < 74 → mRd1 f i k j = f j := fun j hj => ud_n (by omega)
  unfold mRead
  split
  · exact IA_g h M1 (fun j hj => n1 j (by omega))
  · have M2 : IM T (upd (mRd1 f i k) (74 + 21 * i + 5) (mRd1 f i k (74 + 21 * i + 5) ||| shlI (nI 1) (nI k))) := IM_u M1 hi (sR_U hr1) (by omega) _
    have hr2 : sR (upd (mRd1 f i k) (74 + 21 * i + 5) (mRd1 f i k (74 + 21 * i + 5) ||| shlI (nI 1) (nI k))) i = true := by rw [sR_u (by omega)]; exact hr1
    have S3 : IS (mRd2 (mRd1 f i k) i k) := by
      unfold mRd2 mLw
      refine (fo_pres (P := fun (g : Nat → Int32) => IS g ∧ sU g i = true) (fun o b _ ho hb => ?_) ⟨M2.1, sR_U hr2⟩).1
      split
      · rename_i hq
        rw [Bool.and_eq_true] at hq
        exact ⟨IS_edge hb.1 hi (by omega) hb.2 (sCo_U hq.1), by rw [sU_u (by omega)]; exact hb.2⟩
      · exact hb
    have M3 : IM T (mRd2 (mRd1 f i k) i k) := IM_lw M2 hi S3
    have hr3 : sR (mRd2 (mRd1 f i k) i k) i = true := by unfold mRd2; rw [sR_c (mLw_n (by omega))]; exact hr2
    have n3 : ∀ j, j < 74 → mRd2 (mRd1 f i k) i k j = f j := fun j hj => by unfold mRd2; rw [mLw_n (by omega), ud_n (by omega)]; exact n1 j hj
    generalize mRd2 (mRd1 f i k) i k = g at *
    have M4 := IM_8 M3 hi (sR_U hr3)
    have hu4 : sU (upd g (74 + 21 * i + 8) (g (74 + 21 * i + 2) + nI 1)) i = true := by rw [sU_u (by omega)]; exact sR_U hr3
    unfold mRdE
    split
    · exact IA_st h M3 (fun j hj => n3 j (by omega))
    · split
      · exact IA_st h M4 (fun j hj => by rw [ud_n (by omega)]; exact n3 j (by omega))
      · exact IA_st h (IM_ab M4 hi hu4) (fun j hj => by rw [mAb_n hi (M4.1.1 i hi).2 (by omega) (by omega) (by omega), ud_n (by omega)]; exact n3 j (by omega))
theorem IA_write {T : Nat} {f : Nat → Int32} (h : IA T f) {i k : Nat} (hi : i < 8) (hk : k < 10) (hr : sR f i = true) (hwt : sWri f k = none ∨ sWri f k = some i) : IA T (mWrite f i k) := by
  have hu := sR_U hr
  have hn := nWt_i h.1.1 hk hwt
  unfold mWrite
  split
  · have M1 := IM_w6 h.1 hi hk hr hn
    have hu1 : sU (mWr1 f i k) i = true := by unfold mWr1; rw [sU_u (by omega)]; exact hu
    have M2 := IM_lr (k := k) M1 (IS_lr M1.1 hi hu1)
    have hu2 : sU (mLr (mWr1 f i k) i k) i = true := by rw [sU_c (mLr_n (fun o ho => by omega))]; exact hu1
    have n2 : ∀ j, j < 74 → mLr (mWr1 f i k) i k j = f j := fun j hj => by rw [mLr_n (fun o ho => by omega)]; unfold mWr1; exact ud_n (by omega)
    unfold mWrE
    split
    · exact IA_st h M2 (fun j hj => n2 j (by omega))
    · exact IA_st h (IM_u M2 hi hu2 (by omega) _) (fun j hj => by rw [ud_n (by omega)]; exact n2 j (by omega))
  · exact IA_st h (IM_ab h.1 hi hu) (fun j hj => mAb_n hi (h.1.1.1 i hi).2 (by omega) (by omega) (by omega))
theorem IA_beg {T : Nat} {f : Nat → Int32} (h : IA T f) (hT : T + 1 < 1000000000) {i c n : Nat} (hi : i < 8) (hn5 : n ≤ 5) (hf0 : f 0 = nI n) (hc : c < n) (h0 : f (74 + 21 * i) = nI 0) (hn : ∀ j, j < 8 → sR f j = true → f (74 + 21 * j + 1) ≠ nI c) : IA (T + 1) (mBeg f i c) :=
  IA_g h (IM_beg h.1 hT hi hn5 hf0 hc h0 hn) (fun j hj => mBeg_n (by omega) (by omega))
theorem IA_com {T i' : Nat} {f : Nat → Int32} (h : IA T f) (hm : IM (T + 1) (mCom f i')) (hm4 : IM (T + 1) (mSpo (mCo4 f i') i')) (hw : wh f i' < 5) (hi : i' < 8) : IA (T + 1) (mCom f i') := by
  obtain ⟨h1, h2, h3, h4⟩ := h
  have m3n : ∀ j, j ≠ 5 → j ≠ 49 + 5 * wh f i' + 4 → j ≠ 49 + 5 * wh f i' + 3 → mCo3 f i' j = mCo1 f i' j := by
    intro j q1 q2 q3
    unfold mCo3 mCo2
    rw [ud_n q1, ud_n q3, ud_n q2]
  have e37 : mCo3 f i' 7 = f 7 := by rw [m3n _ (by omega) (by omega) (by omega), mCo1_n (by omega) (by omega) (by omega) (fun k hk => by omega)]
  have hN3 : hN (mCo3 f i') = hN f := by unfold hN; rw [e37]
  have V1 : IV (mCo1 f i') := IV_ver (fun k hk => by rw [mCo0_n (by omega) (by omega) (by omega)]; exact h2 k hk)
  have e7 : mCom f i' 7 = nI (hAt (mCo3 f i') + 1) := by
    unfold mCom
    rw [mSt_x hm4 (by omega) (by omega), mSpo_n (fun o ho => by omega)]
    unfold mCo4
    rw [mLog_n (by omega) (by omega), mHis_7]
  have hA : hAt (mCo3 f i') + 1 ≤ 12 := by unfold hAt; rw [hN3]; split <;> omega
  have hNN : hN (mCom f i') = hAt (mCo3 f i') + 1 := by unfold hN; rw [e7, nI_clp (by omega)]
  refine ⟨hm, fun k hk => ?_, by omega, by rw [hNN]; exact e7⟩
  have : mCom f i' (9 + 4 * k) = mCo1 f i' (9 + 4 * k) := by
    unfold mCom
    rw [mSt_x hm4 (by omega) (by omega), mSpo_n (fun o ho => by omega)]
    unfold mCo4
    rw [mLog_n (by omega) (by omega), mHis_n (by rw [hN3]; exact h3) (by omega) (by omega), m3n _ (by omega) (by omega) (by omega)]
  rw [this]; exact V1 k hk
/-- what a client does next -/
def sXr (f : Nat → Int32) (i c : Nat) : Int32 := f (49 + 5 * c) &&& (f (74 + 21 * i + 4) ^^^ -nI 1)
def sYw (f : Nat → Int32) (i c : Nat) : Int32 := f (49 + 5 * c + 1) &&& (f (74 + 21 * i + 6) ^^^ -nI 1)
def sStep (f : Nat → Int32) (c : Nat) : Int32 := match sRun f (nI c) with
  | none => nI 0
  | some i => if sXr f i c = nI 0 then (if sYw f i c = nI 0 then nI 300 else nI 200 + ntz (sYw f i c)) else nI 100 + ntz (sXr f i c)
theorem sRun_s {f : Nat → Int32} {c : Int32} {i : Nat} (h : sRun f c = some i) : i < 8 ∧ sR f i = true ∧ f (74 + 21 * i + 1) = c := by
  obtain ⟨-, h2, h3, -⟩ := fs_some h
  rw [Bool.and_eq_true] at h3
  exact ⟨by omega, h3.1, of_decide_eq_true h3.2⟩
theorem sRun_n {f : Nat → Int32} {c : Int32} (h : sRun f c = none) : ∀ j, j < 8 → sR f j = true → f (74 + 21 * j + 1) ≠ c := by
  intro j hj hr he
  have := fs_none h j (by omega) (by omega)
  rw [hr, decide_eq_true he] at this
  cases this
theorem p114 {s : mS} {a : Nat} {f : Nat → Int32} (h : RW s a f) {c : Nat} (hc : c < 5) : q114 a (nI c) s = rv (sStep f c) s := by
  obtain ⟨n, n1, n2, n3, n4, n5, n6, n7, n8⟩ := h.2.1
  unfold q114 sStep
  simp (disch := omega) only [p71 h.1, nI_lit, nI_add, pk_mul, nI_clp, nI_eqv, nI_lev, nI_ltv, nI_neg, nI_neg', nI_subv, Nat.add_zero, Nat.zero_add, Nat.mul_zero, Nat.reduceAdd, bN_rv, bM_ru, bV_rv, bV_rx, bU_ru, bU_rx, bN_ite, bM_ite, bV_ite, bU_ite, ↓bx_e, ↓sp_e, gA_ok, gZ_n, gB_0, gB_1, gB_i, and_true, and_false, true_and, false_and, decide_true, decide_false, ↓reduceIte, not_true_eq_false, not_false_eq_true, Bool.false_eq_true, Bool.true_eq_false, Bool.and_true, Bool.and_false, Bool.true_and, Bool.false_and, Bool.or_true, Bool.or_false, Bool.true_or, Bool.false_or, Bool.not_true, Bool.not_false, le_f, le_t, lt_f, lt_t, eq_f, ↓reduceIte, not_true_eq_false, not_false_eq_true, ite_10, bt_0, bt_1]
  unfold sRun
  cases e : fs (fun i => sR f i && decide (f (74 + 21 * i + 1) = nI c)) 8 0 with
  | none => simp only [oI_n, and_true, and_false, true_and, false_and, decide_true, decide_false, ↓reduceIte, not_true_eq_false, not_false_eq_true, Bool.false_eq_true, Bool.true_eq_false, Bool.and_true, Bool.and_false, Bool.true_and, Bool.false_and, Bool.or_true, Bool.or_false, Bool.true_or, Bool.false_or, Bool.not_true, Bool.not_false]
  | some i =>
    obtain ⟨hi, hr, -⟩ := sRun_s (f := f) e
    have hu := sR_U hr
    have q4 := h.1.2.2.2.2.2.2.2.1 i hi hu
    have q6 := h.1.2.2.2.2.2.2.2.2.2.1 i hi hu
    simp (disch := omega) only [oI_s, n5 c hc, n6 c hc, q4, q6, q342_e, nI_lit, nI_add, pk_mul, nI_clp, nI_eqv, nI_lev, nI_ltv, nI_neg, nI_neg', nI_subv, Nat.add_zero, Nat.zero_add, Nat.mul_zero, Nat.reduceAdd, bN_rv, bM_ru, bV_rv, bV_rx, bU_ru, bU_rx, bN_ite, bM_ite, bV_ite, bU_ite, ↓bx_e, ↓sp_e, gA_ok, gZ_n, gB_0, gB_1, gB_i, and_true, and_false, true_and, false_and, decide_true, decide_false, ↓reduceIte, not_true_eq_false, not_false_eq_true, Bool.false_eq_true, Bool.true_eq_false, Bool.and_true, Bool.and_false, Bool.true_and, Bool.false_and, Bool.or_true, Bool.or_false, Bool.true_or, Bool.false_or, Bool.not_true, Bool.not_false, le_f, le_t, lt_f, lt_t, eq_f, ↓reduceIte, not_true_eq_false, not_false_eq_true, ite_10, bt_0, bt_1]
    unfold sXr sYw
    by_cases h1 : f (49 + 5 * c) &&& (f (74 + 21 * i + 4) ^^^ -nI 1) = nI 0 <;> by_cases h2 : f (49 + 5 * c + 1) &&& (f (74 + 21 * i + 6) ^^^ -nI 1) = nI 0 <;> simp only [h1, h2, and_true, and_false, true_and, false_and, decide_true, decide_false, ↓reduceIte, not_true_eq_false, not_false_eq_true, Bool.false_eq_true, Bool.true_eq_false, Bool.and_true, Bool.and_false, Bool.true_and, Bool.false_and, Bool.or_true, Bool.or_false, Bool.true_or, Bool.false_or, Bool.not_true, Bool.not_false]
theorem m270 {t : mS} (hs : IS (t.1 513)) {c : Nat} (hc : c < 5) : q270 (nI c) t = rv (sStep (t.1 513) c) t := by
  unfold q270 sStep
  simp (disch := omega) only [m209, sOf_eq hs, nI_lit, nI_add, pk_mul, nI_clp, nI_eqv, nI_lev, nI_ltv, nI_neg, nI_neg', nI_subv, Nat.add_zero, Nat.zero_add, Nat.mul_zero, Nat.reduceAdd, bN_rv, bM_ru, bV_rv, bV_rx, bU_ru, bU_rx, bN_ite, bM_ite, bV_ite, bU_ite, ↓bx_e, ↓sp_e, gA_ok, gZ_n, gB_0, gB_1, gB_i, and_true, and_false, true_and, false_and, decide_true, decide_false, ↓reduceIte, not_true_eq_false, not_false_eq_true, Bool.false_eq_true, Bool.true_eq_false, Bool.and_true, Bool.and_false, Bool.true_and, Bool.false_and, Bool.or_true, Bool.or_false, Bool.true_or, Bool.false_or, Bool.not_true, Bool.not_false, le_f, le_t, lt_f, lt_t, eq_f, ↓reduceIte, not_true_eq_false, not_false_eq_true, ite_10, bt_0, bt_1, q198, q199, q200, q201, q202, q203, q204, m190, m205, m206, b2_0, q189, q187]
  cases e : sRun (t.1 513) (nI c) with
  | none => simp only [oI_n, and_true, and_false, true_and, false_and, decide_true, decide_false, ↓reduceIte, not_true_eq_false, not_false_eq_true, Bool.false_eq_true, Bool.true_eq_false, Bool.and_true, Bool.and_false, Bool.true_and, Bool.false_and, Bool.or_true, Bool.or_false, Bool.true_or, Bool.false_or, Bool.not_true, Bool.not_false]
  | some i =>
    obtain ⟨hi, hr, -⟩ := sRun_s e
    simp (disch := omega) only [oI_s, q269, q342_e, nI_lit, nI_add, pk_mul, nI_clp, nI_eqv, nI_lev, nI_ltv, nI_neg, nI_neg', nI_subv, Nat.add_zero, Nat.zero_add, Nat.mul_zero, Nat.reduceAdd, bN_rv, bM_ru, bV_rv, bV_rx, bU_ru, bU_rx, bN_ite, bM_ite, bV_ite, bU_ite, ↓bx_e, ↓sp_e, gA_ok, gZ_n, gB_0, gB_1, gB_i, and_true, and_false, true_and, false_and, decide_true, decide_false, ↓reduceIte, not_true_eq_false, not_false_eq_true, Bool.false_eq_true, Bool.true_eq_false, Bool.and_true, Bool.and_false, Bool.true_and, Bool.false_and, Bool.or_true, Bool.or_false, Bool.true_or, Bool.false_or, Bool.not_true, Bool.not_false, le_f, le_t, lt_f, lt_t, eq_f, ↓reduceIte, not_true_eq_false, not_false_eq_true, ite_10, bt_0, bt_1, q198, q199, q200, q201, q202, q203, q204, m190, m205, m206, b2_0, q189, q187]
    unfold sXr sYw
    by_cases h1 : t.1 513 (49 + 5 * c) &&& (t.1 513 (74 + 21 * i + 4) ^^^ -nI 1) = nI 0 <;> by_cases h2 : t.1 513 (49 + 5 * c + 1) &&& (t.1 513 (74 + 21 * i + 6) ^^^ -nI 1) = nI 0 <;> simp only [h1, h2, and_true, and_false, true_and, false_and, decide_true, decide_false, ↓reduceIte, not_true_eq_false, not_false_eq_true, Bool.false_eq_true, Bool.true_eq_false, Bool.and_true, Bool.and_false, Bool.true_and, Bool.false_and, Bool.or_true, Bool.or_false, Bool.true_or, Bool.false_or, Bool.not_true, Bool.not_false]
