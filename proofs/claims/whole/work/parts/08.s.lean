/-! ABORTED -/
def mAbort (f : Nat → Int32) (i : Nat) (w : Int32) : Nat → Int32 := upd (mFree (mLog f i w) i) (49 + 5 * wh f i + 3) (mnI (nI 99) (f (49 + 5 * wh f i + 3) + nI 1))
theorem mFree_c {f g : Nat → Int32} {i j : Nat} (h : g j = f j) : mFree g i j = mFree f i j := by unfold mFree; rw [h]
theorem mAb_s {f : Nat → Int32} {i j : Nat} {w : Int32} (hw : wh f i < 5) (h1 : 74 ≤ j) (h2 : j < 242) : mAbort f i w j = mFree f i j := by
  unfold mAbort
  rw [ud_n (by omega)]
  exact mFree_c (mLog_n (by omega) (by omega))
theorem mAb_n {f : Nat → Int32} {i j : Nat} {w : Int32} (hi : i < 8) (hw : wh f i < 5) (h1 : j ≠ 49 + 5 * wh f i + 3) (h6 : j ≠ 6) (h2 : j < 74 ∨ (242 ≤ j ∧ j < 530) ∨ 770 ≤ j) : mAbort f i w j = f j := by
  unfold mAbort
  rw [ud_n h1, mFree_x hi (by omega), mLog_n h6 (by omega)]
theorem mAb_r {f : Nat → Int32} {i : Nat} {w : Int32} : mAbort f i w (49 + 5 * wh f i + 3) = mnI (nI 99) (f (49 + 5 * wh f i + 3) + nI 1) := ud_e rfl
theorem mAb_l {f : Nat → Int32} {i j : Nat} {w : Int32} (hi : i < 8) (hw : wh f i < 5) (h : j = 6 ∨ (530 ≤ j ∧ j < 770)) : mAbort f i w j = mLog f i w j := by
  unfold mAbort
  rw [ud_n (by omega), mFree_x hi (by omega)]
theorem m254 {t : mS} (hw : IW (t.1 513)) {i : Nat} (hi : i < 8) {w : Int32} : q254 (nI i) w t = ru (wr (sI t 512 18 (t.1 512 18 ||| shlI (nI 1) (nI i))) (mAbort (t.1 513) i w)) := by
  obtain ⟨h1, h2⟩ := hw i hi
  unfold q254
  simp (disch := omega) only [h1, m249, m253, wr_1, wr_w, sI_wr, sI_wc, wr_n, mFree_x, mLog_n, nI_lit, nI_add, pk_mul, nI_clp, nI_eqv, nI_lev, nI_ltv, nI_neg, nI_neg', nI_subv, Nat.add_zero, Nat.zero_add, Nat.mul_zero, Nat.reduceAdd, bN_rv, bM_ru, bV_rv, bV_rx, bU_ru, bU_rx, bN_ite, bM_ite, bV_ite, bU_ite, ↓bx_e, ↓sp_e, gA_ok, gZ_n, gB_0, gB_1, gB_i, and_true, and_false, true_and, false_and, decide_true, decide_false, ↓reduceIte, not_true_eq_false, not_false_eq_true, Bool.false_eq_true, Bool.true_eq_false, Bool.and_true, Bool.and_false, Bool.true_and, Bool.false_and, Bool.or_true, Bool.or_false, Bool.true_or, Bool.false_or, Bool.not_true, Bool.not_false, le_f, le_t, lt_f, lt_t, eq_f, ↓reduceIte, not_true_eq_false, not_false_eq_true, ite_10, bt_0, bt_1, q198, q199, q200, q201, q202, q203, q204, m190, m205, m206, b2_0, q189, q187]
  rfl
theorem IS_ab {f : Nat → Int32} (h : IS f) {i : Nat} (hi : i < 8) {w : Int32} : IS (mAbort f i w) := IS_c (IS_free h hi) (fun j h1 h2 => mAb_s (h.1 i hi).2 h1 h2)
theorem sU_ab {f : Nat → Int32} {i j : Nat} {w : Int32} (hw : wh f i < 5) (hj : j < 8) : sU (mAbort f i w) j = (sU f j && !(decide (j = i))) := by
  rw [sU_c (mAb_s hw (by omega) (by omega)), sU_fr]
theorem sR_ab {f : Nat → Int32} {i j : Nat} {w : Int32} (hw : wh f i < 5) (hj : j < 8) : sR (mAbort f i w) j = (sR f j && !(decide (j = i))) := by
  rw [sR_c (mAb_s hw (by omega) (by omega)), sR_fr]
theorem wh_ab {f : Nat → Int32} {i j : Nat} {w : Int32} (hw : wh f i < 5) (hj : j < 8) (e : j ≠ i) : wh (mAbort f i w) j = wh f j := by
  apply wh_c
  rw [mAb_s hw (by omega) (by omega), mFree_o e (by omega) (by omega)]
theorem IC_ab {f : Nat → Int32} (hs : IS f) (h : IC f) {i : Nat} (hi : i < 8) (hu : sU f i = true) {w : Int32} : IC (mAbort f i w) := by
  have hw := (hs.1 i hi).2
  obtain ⟨n, hn, h0, h1, h2, h3, h4⟩ := h
  have hwn := h4 i hi hu
  refine ⟨n, hn, ?_, fun c hc => ?_, fun c w' hc hc5 hw' => ?_, fun c j hc hj => ?_, fun j hj hv => ?_⟩
  · rw [mAb_n hi hw (by omega) (by omega) (by omega)]; exact h0
  · rw [mAb_n hi hw (by omega) (by omega) (by omega)]; exact h1 c hc
  · rw [mAb_n hi hw (by omega) (by omega) (by omega)]; exact h2 c w' hc hc5 hw'
  · rw [mAb_n hi hw (by omega) (by omega) (by omega), mAb_n hi hw (by omega) (by omega) (by omega)]; exact h3 c j hc hj
  · rw [sU_ab hw hj, Bool.and_eq_true] at hv
    have e : j ≠ i := fun e => by rw [decide_eq_true e] at hv; cases hv.2
    rw [wh_ab hw hj e]; exact h4 j hj hv.1
theorem IT_ab {T : Nat} {f : Nat → Int32} (hs : IS f) (h : IT T f) {i : Nat} (hi : i < 8) {w : Int32} : IT T (mAbort f i w) := by
  have hw := (hs.1 i hi).2
  obtain ⟨h0, h3, h⟩ := h
  refine ⟨h0, by rw [mAb_n hi hw (by omega) (by omega) (by omega)]; exact h3, fun j hj => ?_⟩
  rw [mAb_s hw (by omega) (by omega), mAb_s hw (by omega) (by omega), mAb_s hw (by omega) (by omega)]
  by_cases e : j = i
  · subst e
    rw [mFree_i (by omega), mFree_i (by omega), mFree_i (by omega)]
    exact ⟨⟨0, by omega, rfl⟩, ⟨0, by omega, rfl⟩, ⟨0, by omega, rfl⟩⟩
  · rw [mFree_o e (by omega) (by omega), mFree_o e (by omega) (by omega), mFree_o e (by omega) (by omega)]; exact h j hj
theorem IM_ab {T : Nat} {f : Nat → Int32} (h : IM T f) {i : Nat} (hi : i < 8) (hu : sU f i = true) {w : Int32} : IM T (mAbort f i w) := by
  obtain ⟨h1, h2, h3, h4, k, hk, h5⟩ := h
  have hw := (h1.1 i hi).2
  refine ⟨IS_ab h1 hi, IC_ab h1 h2 hi hu, WLw_c ?_ (fun j a b => ?_) h3, IT_ab h1 h4 hi, k, hk, ?_⟩
  · exact mAb_n hi hw (by omega) (by omega) (by omega)
  · exact mAb_n hi hw (by omega) (by omega) (by omega)
  · rw [mAb_n hi hw (by omega) (by omega) (by omega)]; exact h5
theorem p119 {s : mS} {a T : Nat} {f : Nat → Int32} (h : RW s a f) (hL : RLw s f) (hm : IM T f) (ha : 10 ≤ a) {i : Nat} (hi : i < 8) (hu : sU f i = true) {w : Int32} : ∃ s', q119 a (nI i) w s = ru s' ∧ RW s' a (mAbort f i w) ∧ RLw s' (mAbort f i w) ∧ Fw a s s' := by
  obtain ⟨hS, hC, hW, hT, hk⟩ := hm
  obtain ⟨hR, hCl, hK, hLg, hH, e9, e10, e11, e12, e13⟩ := h
  obtain ⟨w1, w2⟩ := hS.1 i hi
  obtain ⟨s1, j1, j2, j3⟩ := p43 hLg hi (w := w)
  have cl := hR.2.2.2.2.1 i hi hu
  have c1 : ∀ b, b < a + 26 ∨ a + 28 ≤ b → s1.1 b = s.1 b := fun b hb => j3.1 b (by omega)
  have hre : s1.1 (a + 1 + 3) (wh f i) = f (49 + 5 * wh f i + 3) := by
    rw [c1 _ (by omega)]
    obtain ⟨n, q1, q2, q3, q4, q5, q6, q7, q8⟩ := hCl
    exact q7 _ w2
  have F1' : Fw a s s1 := Fw_f j3 (by omega) (by omega)
  generalize hs2 : sI s1 (a + 1 + 3) (wh f i) (mnI (nI 99) (f (49 + 5 * wh f i + 3) + nI 1)) = s2
  have c2 : ∀ b, b ≠ a + 1 + 3 → s2.1 b = s1.1 b := fun b hb => by rw [← hs2]; exact sI_fn hb
  have R2 : RS s2 (a + 6) f := RS_c hR hS.1 (fun b x y => by rw [c2 b (by omega), c1 b (by omega)]) (fun _ _ _ => rfl) (fun _ _ => rfl)
  have R3 := RS_free R2 hS.1 hi
  have c3 : ∀ b, b < a + 6 ∨ a + 18 ≤ b → (cFree s2 (a + 6) i).1 b = s2.1 b := fun b hb => (Fz_free (z := a + 6) (i := i) (s := s2)).1 b (by omega)
  refine ⟨cFree s2 (a + 6) i, ?_, ⟨?_, ?_, ?_, ?_, ?_, ?_, ?_, ?_, ?_, ?_⟩, ?_, ?_⟩
  · unfold q119
    simp (disch := omega) only [cl, e9, nI_lit, nI_add, pk_mul, nI_clp, nI_eqv, nI_lev, nI_ltv, nI_neg, nI_neg', nI_subv, Nat.add_zero, Nat.zero_add, Nat.mul_zero, Nat.reduceAdd, bN_rv, bM_ru, bV_rv, bV_rx, bU_ru, bU_rx, bN_ite, bM_ite, bV_ite, bU_ite, ↓bx_e, ↓sp_e, gA_ok, gZ_n, gB_0, gB_1, gB_i, and_true, and_false, true_and, false_and, decide_true, decide_false, ↓reduceIte, not_true_eq_false, not_false_eq_true, Bool.false_eq_true, Bool.true_eq_false, Bool.and_true, Bool.and_false, Bool.true_and, Bool.false_and, Bool.or_true, Bool.or_false, Bool.true_or, Bool.false_or, Bool.not_true, Bool.not_false, le_f, le_t, lt_f, lt_t, eq_f, ↓reduceIte, not_true_eq_false, not_false_eq_true, ite_10, bt_0, bt_1]
    rw [j1]
    simp (disch := omega) only [w1, hre, nI_lit, nI_add, pk_mul, nI_clp, nI_eqv, nI_lev, nI_ltv, nI_neg, nI_neg', nI_subv, Nat.add_zero, Nat.zero_add, Nat.mul_zero, Nat.reduceAdd, bN_rv, bM_ru, bV_rv, bV_rx, bU_ru, bU_rx, bN_ite, bM_ite, bV_ite, bU_ite, ↓bx_e, ↓sp_e, gA_ok, gZ_n, gB_0, gB_1, gB_i, and_true, and_false, true_and, false_and, decide_true, decide_false, ↓reduceIte, not_true_eq_false, not_false_eq_true, Bool.false_eq_true, Bool.true_eq_false, Bool.and_true, Bool.and_false, Bool.true_and, Bool.false_and, Bool.or_true, Bool.or_false, Bool.true_or, Bool.false_or, Bool.not_true, Bool.not_false, le_f, le_t, lt_f, lt_t, eq_f, ↓reduceIte, not_true_eq_false, not_false_eq_true, ite_10, bt_0, bt_1]
    rw [hs2]
    simp (disch := omega) only [p80, nI_lit, nI_add, pk_mul, nI_clp, nI_eqv, nI_lev, nI_ltv, nI_neg, nI_neg', nI_subv, Nat.add_zero, Nat.zero_add, Nat.mul_zero, Nat.reduceAdd, bN_rv, bM_ru, bV_rv, bV_rx, bU_ru, bU_rx, bN_ite, bM_ite, bV_ite, bU_ite, ↓bx_e, ↓sp_e, gA_ok, gZ_n, gB_0, gB_1, gB_i, and_true, and_false, true_and, false_and, decide_true, decide_false, ↓reduceIte, not_true_eq_false, not_false_eq_true, Bool.false_eq_true, Bool.true_eq_false, Bool.and_true, Bool.and_false, Bool.true_and, Bool.false_and, Bool.or_true, Bool.or_false, Bool.true_or, Bool.false_or, Bool.not_true, Bool.not_false, le_f, le_t, lt_f, lt_t, eq_f, ↓reduceIte, not_true_eq_false, not_false_eq_true, ite_10, bt_0, bt_1]
  · exact RS_c R3 (IS_free hS hi).1 (fun _ _ _ => rfl) (fun j x y => mAb_s w2 x y) (fun c hc => by rw [mAb_n hi w2 (by omega) (by omega) (by omega), mFree_x hi (by omega)])
  · obtain ⟨n, q1, q2, q3, q4, q5, q6, q7, q8⟩ := hCl
    refine ⟨n, q1, ?_, ?_, fun j => ?_, fun c hc => ?_, fun c hc => ?_, fun c hc => ?_, fun c hc => ?_⟩
    · rw [mAb_n hi w2 (by omega) (by omega) (by omega)]; exact q2
    · rw [c3 _ (by omega), c2 _ (by omega), c1 _ (by omega)]; exact q3
    · rw [c3 _ (by omega), c2 _ (by omega), c1 _ (by omega), q4 j]
      by_cases hj : j < 5
      · rw [mAb_n hi w2 (by omega) (by omega) (by omega)]
      · simp only [hj, and_true, and_false, true_and, false_and, decide_true, decide_false, ↓reduceIte, not_true_eq_false, not_false_eq_true, Bool.false_eq_true, Bool.true_eq_false, Bool.and_true, Bool.and_false, Bool.true_and, Bool.false_and, Bool.or_true, Bool.or_false, Bool.true_or, Bool.false_or, Bool.not_true, Bool.not_false]
    · rw [c3 _ (by omega), c2 _ (by omega), c1 _ (by omega), mAb_n hi w2 (by omega) (by omega) (by omega)]; exact q5 c hc
    · rw [c3 _ (by omega), c2 _ (by omega), c1 _ (by omega), mAb_n hi w2 (by omega) (by omega) (by omega)]; exact q6 c hc
    · rw [c3 _ (by omega), ← hs2]
      by_cases e : c = wh f i
      · rw [e, mAb_r, sI_sm, ud_e rfl]
      · rw [sI_sm, ud_n e, c1 _ (by omega), mAb_n hi w2 (by omega) (by omega) (by omega)]; exact q7 c hc
    · rw [c3 _ (by omega), c2 _ (by omega), c1 _ (by omega), mAb_n hi w2 (by omega) (by omega) (by omega)]; exact q8 c hc
  · exact RK_c hK (fun b x y => by rw [c3 b (by omega), c2 b (by omega), c1 b (by omega)]) (fun j x y => mAb_n hi w2 (by omega) (by omega) (by omega))
  · exact RLg_c j2 (fun b x y => by rw [c3 b (by omega), c2 b (by omega)]) (mAb_l hi w2 (by omega)) (fun j x y => mAb_l hi w2 (by omega))
  · exact RH_c hH (fun b x y => by rw [c3 b (by omega), c2 b (by omega), c1 b (by omega)]) (mAb_n hi w2 (by omega) (by omega) (by omega)) (fun j x y => mAb_n hi w2 (by omega) (by omega) (by omega))
  · rw [c3 _ (by omega), c2 _ (by omega), c1 _ (by omega), mAb_n hi w2 (by omega) (by omega) (by omega)]; exact e9
  · rw [c3 _ (by omega), c2 _ (by omega), c1 _ (by omega), mAb_n hi w2 (by omega) (by omega) (by omega)]; exact e10
  · rw [c3 _ (by omega), c2 _ (by omega), c1 _ (by omega), mAb_n hi w2 (by omega) (by omega) (by omega)]; exact e11
  · rw [c3 _ (by omega), c2 _ (by omega), c1 _ (by omega), mAb_n hi w2 (by omega) (by omega) (by omega)]; exact e12
  · rw [c3 _ (by omega), c2 _ (by omega), c1 _ (by omega), mAb_n hi w2 (by omega) (by omega) (by omega)]; exact e13
  · exact RLw_c hW (mAb_n hi w2 (by omega) (by omega) (by omega)) (fun j x y => mAb_n hi w2 (by omega) (by omega) (by omega)) (fun b x y => by rw [c3 b (by omega), c2 b (by omega), c1 b (by omega)]) hL
  · refine Fw_t F1' (Fw_t (s' := s2) ?_ (Fw_z (z := a + 6) Fz_free (by omega) (by omega)))
    rw [← hs2]; exact Fw_I (by omega) (by omega)
