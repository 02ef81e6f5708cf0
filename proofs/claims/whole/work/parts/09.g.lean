/-! COMMIT IN THE REFERENCE -/
theorem MA_x {t t1 : mS} (h : F1 520 t t1) {g g' : Nat → Int32} (hR : ∀ j, j < 8 → sR g' j = sR g j) : MA (wr t g) (wr t1 g') g g' := by
  refine ⟨wr_1, fun b x y z => by rw [wr_n y, wr_n y, h.1 b z], fun j hj => by rw [wr_n (by omega), wr_n (by omega), h.1 512 (by omega)], h.2, fun j => ?_, fun j hj q => by rw [← hR j hj]; exact q⟩
  rw [wr_n (by omega), wr_n (by omega), h.1 512 (by omega)]
  by_cases hj : j < 8
  · rw [hR j hj]; cases sR g j <;> simp only [and_true, and_false, true_and, false_and, decide_true, decide_false, ↓reduceIte, not_true_eq_false, not_false_eq_true, Bool.false_eq_true, Bool.true_eq_false, Bool.and_true, Bool.and_false, Bool.true_and, Bool.false_and, Bool.or_true, Bool.or_false, Bool.true_or, Bool.false_or, Bool.not_true, Bool.not_false]
  · simp only [hj, and_true, and_false, true_and, false_and, decide_true, decide_false, ↓reduceIte, not_true_eq_false, not_false_eq_true, Bool.false_eq_true, Bool.true_eq_false, Bool.and_true, Bool.and_false, Bool.true_and, Bool.false_and, Bool.or_true, Bool.or_false, Bool.true_or, Bool.false_or, Bool.not_true, Bool.not_false]
theorem m268_184 {t : mS} {T : Nat} {f : Nat → Int32} (hf : t.1 513 = f) (hm : IM T f) {i : Nat} (hi : i < 8) {v : Int32} : ∃ t', (bN (q207 (nI i) t) fun x37 s36 => if x37 = nI 0 then (bN (q251 (nI i) s36) fun x39 s38 => q268_184 (nI i) v x39 s38) else (q268_184 (nI i) v (nI 0) s36)) = rv v t' ∧ MA t t' f (mSt (mSpo f i)) := by
  have hw : IW (t.1 513) := by rw [hf]; exact hm.1.1
  have M1 : IM T (mSpo f i) := IM_spo hm (IS_spo2 hm.1)
  have A1 : MA t (wr t (mSpo f i)) f (mSpo f i) := by
    have := MA_wr (t := t) (f' := mSpo f i) (fun j hj => by rw [hf]; exact sR_c (mSpo_n (fun o ho => by omega)))
    rw [hf] at this; exact this
  obtain ⟨t1, t2, h1, h2, h3⟩ := mSet (t := wr t (mSpo f i)) (T := T) (by rw [wr_1]; exact M1)
  rw [wr_1] at h3
  refine ⟨t2, ?_, MA_t A1 h3⟩
  have fin : q268_266 v (wr t (mSpo f i)) = rv v t2 := by
    unfold q268_266
    rw [h1]; simp only [bM_ru]; rw [h2]; simp only [bM_ru]
  rw [← fin]
  simp (disch := omega) only [m207 hw, m251, hf, b2_0, q268_184, bN_rv]
  have ez : mSpo f i = f → wr t (mSpo f i) = t := fun e => by rw [e, ← hf, wr_s]
  rw [nI_lit]
  cases eo : sOn f i
  · simp only [↓reduceIte]
    obtain ⟨x, hx, hxx⟩ := sFst_nn hm.2.2.2.1 hi
    have hT := hm.2.2.2.1.1
    by_cases h0 : x = 0
    · have e0 : sFst f i = nI 0 := by rw [hxx, h0]
      rw [ez (by unfold mSpo; rw [eo, if_neg (by decide), if_pos e0]), e0]
      exact m268_189z (Int32.le_refl _)
    · have e0 : ¬ sFst f i = nI 0 := by
        rw [hxx]; intro q
        have := (nI_eq (by omega) (by omega)).mp q
        omega
      have e1 : mSpo f i = mSp f (sFst f i) i := by unfold mSpo; rw [eo, if_neg (by decide), if_neg e0]
      rw [e1]
      conv => lhs; rw [← wr_s (t := t), hf]
      rw [m268_189 hm.1.1 hi]
      rw [hxx, nI_lev (by omega) (by omega)]; omega
  · simp only [Bool.true_eq_false, ↓reduceIte]
    rw [ez (by unfold mSpo; rw [eo, if_pos rfl])]
    exact m268_189z (Int32.le_refl _)
theorem m268 {t : mS} {T : Nat} {f : Nat → Int32} (hf : t.1 513 = f) (hm : IM T f) (hT : T + 1 < 1000000000) {i : Nat} (hi : i < 8) (hr : sR f i = true) (hn : hN f ≤ 12) (h7 : f 7 = nI (hN f)) : ∃ t', q268 (nI i) t = rv (f 3 + nI 1) t' ∧ MA (wr t (mCo0 f i)) t' (mCo0 f i) (mCom f i) := by
  have hu := sR_U hr
  obtain ⟨w1, w2⟩ := hm.1.1 i hi
  obtain ⟨t1, j1, j2⟩ := m248 (t := t) (by rw [hf]; exact hm.1) (by rw [hf]; exact hm.2.1) (by rw [hf]; exact hm.2.2.1) hi
  rw [hf] at j1
  have e513 : t1.1 513 = f := (j2.1 513 (by omega)).trans hf
  have M2 := IM_st hm hT
  have hr2 : sR (upd f 3 (f 3 + nI 1)) i = true := by rw [sR_u (by omega)]; exact hr
  have S3 : IS (mCo0 f i) := by
    obtain ⟨i0, i1, i2, i3, i4, i5, i6⟩ := M2.1
    have huu := sR_U hr2
    unfold mCo0
    refine ⟨IW_c i0 (fun j hj => mClose_n (by omega) (by omega)), fun k hk => ?_, fun k hk hz w' hw' => ?_, fun k l hk hb => ?_, fun k hk => ?_, fun k l hk hl ha hb hc => ?_, fun k l q hk hl hq ha hb hc hd => ?_⟩
    · by_cases e : k = i
      · subst e; rw [mClose_0]; exact Or.inr (Or.inr rfl)
      · rw [mClose_n (by omega) (by omega)]; exact i1 k hk
    · have hji : k ≠ i := by
        intro e; subst e
        rw [mClose_0] at hz
        exact absurd hz (by decide)
      rw [mClose_n (by omega) (by omega)] at hz
      rw [mClose_n (by omega) (by omega)]; exact i2 k hk hz w' hw'
    · rw [mClose_n (by omega) (by omega)] at hb
      rw [sU_cl huu]; exact i3 k l hk hb
    · rw [mClose_n (by omega) (by omega)]; exact i4 k hk
    · rw [sR_cl, Bool.and_eq_true] at ha hb
      rw [mClose_n (by omega) (by omega), mClose_n (by omega) (by omega)] at hc
      exact i5 k l hk hl ha.1 hb.1 hc
    · rw [sR_cl, Bool.and_eq_true] at ha hb
      rw [mClose_n (by omega) (by omega)] at hc hd
      exact i6 k l q hk hl hq ha.1 hb.1 hc hd
  have M3 : IM (T + 1) (mCo0 f i) := IM_co0 hm hT hi hr S3
  have hu3 : sU (mCo0 f i) i = true := by unfold mCo0; rw [sU_cl (sR_U hr2)]; exact sR_U hr2
  have hwe : wh (mCo0 f i) i = wh f i := wh_c (mCo0_n (by omega) (by omega) (by omega))
  have M5 := IM_co3 hi w2 M3 hu3 hwe
  have m3n : ∀ j, j ≠ 5 → j ≠ 49 + 5 * wh f i + 4 → j ≠ 49 + 5 * wh f i + 3 → (∀ k, k < 10 → j ≠ 9 + 4 * k) → mCo3 f i j = mCo0 f i j := by
    intro j q1 q2 q3 q4
    unfold mCo3 mCo2 mCo1
    rw [ud_n q1, ud_n q3, ud_n q2, mVer_n q4]
  have e37 : mCo3 f i 7 = f 7 := by rw [m3n _ (by omega) (by omega) (by omega) (fun k hk => by omega), mCo0_n (by omega) (by omega) (by omega)]
  have hN3 : hN (mCo3 f i) = hN f := by unfold hN; rw [e37]
  have M7 : IM (T + 1) (mCo4 f i) := IM_co4 M5 (by rw [hN3]; exact hn)
  obtain ⟨t9, k1, k2⟩ := m268_184 (t := wr t1 (mCo4 f i)) wr_1 M7 hi (v := f 3 + nI 1)
  have hRR : ∀ j, j < 8 → sR (mCo4 f i) j = sR (mCo0 f i) j := by
    intro j hj
    unfold mCo4
    rw [sR_c (mLog_n (by omega) (by omega)), sR_c (mHis_n (by rw [hN3]; exact hn) (by omega) (by omega)), sR_c (m3n _ (by omega) (by omega) (by omega) (fun k hk => by omega))]
  refine ⟨t9, ?_, MA_t (MA_x j2 hRR) k2⟩
  rw [← k1]
  unfold q268
  have eC : upd (upd (upd f 3 (f 3 + nI 1)) (74 + 21 * i + 3) (f 3 + nI 1)) (74 + 21 * i) (nI 2) = mCo0 f i := by
    unfold mCo0 mClose; rw [ud_e (f := f) (k := 3) rfl]
  simp (disch := omega) only [hf, j1, e513, sI_w0, sI_wr, wr_1, wr_w, ud_e, nI_lit, nI_add, pk_mul, nI_clp, nI_eqv, nI_lev, nI_ltv, nI_neg, nI_neg', nI_subv, Nat.add_zero, Nat.zero_add, Nat.mul_zero, Nat.reduceAdd, bN_rv, bM_ru, bV_rv, bV_rx, bU_ru, bU_rx, bN_ite, bM_ite, bV_ite, bU_ite, ↓bx_e, ↓sp_e, gA_ok, gZ_n, gB_0, gB_1, gB_i, and_true, and_false, true_and, false_and, decide_true, decide_false, ↓reduceIte, not_true_eq_false, not_false_eq_true, Bool.false_eq_true, Bool.true_eq_false, Bool.and_true, Bool.and_false, Bool.true_and, Bool.false_and, Bool.or_true, Bool.or_false, Bool.true_or, Bool.false_or, Bool.not_true, Bool.not_false, le_f, le_t, lt_f, lt_t, eq_f, ↓reduceIte, not_true_eq_false, not_false_eq_true, ite_10, bt_0, bt_1, q198, q199, q200, q201, q202, q203, q204, m190, m205, m206, b2_0, q189, q187]
  rw [eC, w1, m268_57 hi]
  unfold q268_111
  have c1 : (wr t1 (mVer (mCo0 f i) i)).1 513 = mCo1 f i := wr_1
  have e3 : upd (upd (upd (mCo1 f i) (49 + 5 * wh f i + 4) (mCo1 f i (49 + 5 * wh f i + 4) + nI 1)) (49 + 5 * wh f i + 3) (nI 0)) 5 (mnI (nI 9999) (upd (upd (mCo1 f i) (49 + 5 * wh f i + 4) (mCo1 f i (49 + 5 * wh f i + 4) + nI 1)) (49 + 5 * wh f i + 3) (nI 0) 5 + sPay f i)) = mCo3 f i := Eq.trans rfl rfl
  have m7 := m267 (t := wr t1 (mCo3 f i)) wr_1 hi (by rw [hN3]; exact hn) (by rw [e37, hN3]; exact h7)
  have m9 := m249 (t := wr t1 (mHis (mCo3 f i) i)) hi (w := nI 0)
  rw [wr_w] at m7
  rw [wr_1, wr_w] at m9
  have e4 : mLog (mHis (mCo3 f i) i) i (nI 0) = mCo4 f i := rfl
  rw [e4] at m9
  show (bN (q201 (nI (wh f i)) 4 (wr t1 (mCo1 f i))) fun x28 s27 => _) = _
  simp (disch := omega) only [sI_wr, wr_1, q201, nI_lit, nI_add, pk_mul, nI_clp, nI_eqv, nI_lev, nI_ltv, nI_neg, nI_neg', nI_subv, Nat.add_zero, Nat.zero_add, Nat.mul_zero, Nat.reduceAdd, bN_rv, bM_ru, bV_rv, bV_rx, bU_ru, bU_rx, bN_ite, bM_ite, bV_ite, bU_ite, ↓bx_e, ↓sp_e, gA_ok, gZ_n, gB_0, gB_1, gB_i, and_true, and_false, true_and, false_and, decide_true, decide_false, ↓reduceIte, not_true_eq_false, not_false_eq_true, Bool.false_eq_true, Bool.true_eq_false, Bool.and_true, Bool.and_false, Bool.true_and, Bool.false_and, Bool.or_true, Bool.or_false, Bool.true_or, Bool.false_or, Bool.not_true, Bool.not_false, le_f, le_t, lt_f, lt_t, eq_f, ↓reduceIte, not_true_eq_false, not_false_eq_true, ite_10, bt_0, bt_1]
  rw [e3, m7]
  simp only [bM_ru]
  rw [m9]
  simp only [bM_ru]
