/-! WRITE -/
theorem p117E {s : mS} {a T : Nat} {f : Nat → Int32} (h : RW s a f) (hL : RLw s f) (hm : IM T f) (ha : 10 ≤ a) {i k : Nat} (hi : i < 8) (hk : k < 10) (hu : sU f i = true) :
    ∃ s', (if (s.1 (a + 29) k) ≤ (s.1 ((a + 6) + 2) i) then (q117_116 a s) else q117_116 a (sI s ((a + 6) + 8) i (mxI (s.1 ((a + 6) + 8) i) (s.1 (a + 29) k)))) = ru s' ∧ RW s' a (mWrE f i k) ∧ RLw s' (mWrE f i k) ∧ IM T (mWrE f i k) ∧ Fw a s s' := by
  obtain ⟨k0, k1, k2, k3⟩ := h.2.2.1 k hk
  have e2 := h.1.2.2.2.2.2.1 i hi hu
  have e8 := h.1.2.2.2.2.2.2.2.2.2.2.2.1 i hi hu
  unfold mWrE
  rw [k1, e2, e8]
  by_cases hq : f (9 + 4 * k + 1) ≤ f (74 + 21 * i + 2)
  · obtain ⟨s1, j1, j2, j3, j4, j5⟩ := p120 h hL hm ha
    refine ⟨s1, ?_, ?_⟩
    · simp only [hq, ↓reduceIte, q117_116, j1, bM_ru]
    · simp only [hq, ↓reduceIte]; exact ⟨j2, j3, j4, j5⟩
  · have R1 := RS_8 h.1 hm.1.1 hi (mxI (f (74 + 21 * i + 9)) (f (9 + 4 * k + 1)))
    have c1 : ∀ b, b < a + 6 ∨ a + 18 ≤ b → (sI s (a + 6 + 8) i (mxI (f (74 + 21 * i + 9)) (f (9 + 4 * k + 1)))).1 b = s.1 b := fun b hb => sI_fn (by omega)
    have g1 : ∀ j, j < 74 ∨ 242 ≤ j → upd f (74 + 21 * i + 9) (mxI (f (74 + 21 * i + 9)) (f (9 + 4 * k + 1))) j = f j := fun j hj => ud_n (by omega)
    obtain ⟨s1, j1, j2, j3, j4, j5⟩ := p120 (RW_rs h R1 c1 g1) (RLw_rs hL hm.2.2.1 ha c1 g1) (IM_u hm hi hu (by omega) _) ha
    refine ⟨s1, ?_, ?_⟩
    · simp only [hq, ↓reduceIte, q117_116, j1, bM_ru]
    · simp only [hq, ↓reduceIte]; exact ⟨j2, j3, j4, Fw_t (Fw_I (by omega) (by omega)) j5⟩
theorem p117 {s : mS} {a T : Nat} {f : Nat → Int32} (h : RW s a f) (hL : RLw s f) (hm : IM T f) (ha : 10 ≤ a) {i k : Nat} (hi : i < 8) (hk : k < 10) (hr : sR f i = true) (hwt : sWri f k = none ∨ sWri f k = some i) : ∃ s', q117 a (nI i) (nI k) s = ru s' ∧ RW s' a (mWrite f i k) ∧ RLw s' (mWrite f i k) ∧ IM T (mWrite f i k) ∧ Fw a s s' := by
  have hu := sR_U hr
  have hn := nWt_i hm.1 hk hwt
  have hwf : (!(decide (sWri f k = none)) && !(decide (sWri f k = some i))) = false := by
    rcases hwt with q | q <;> rw [q] <;> simp
  obtain ⟨k0, k1, k2, k3⟩ := h.2.2.1 k hk
  have e14 : s.1 (a + 6 + 11) (i * 10 + k) = f (74 + 21 * i + 11 + k) := by
    have := h.1.2.2.2.2.2.2.2.2.2.2.2.2.2.2 i hi hu k hk
    rw [show i * 10 + k = 10 * i + k by omega]; exact this
  unfold q117 mWrite
  simp (disch := omega) only [p73 h.1, hwf, b2_f, k0, e14, nI_lit, nI_add, pk_mul, nI_clp, nI_eqv, nI_lev, nI_ltv, nI_neg, nI_neg', nI_subv, Nat.add_zero, Nat.zero_add, Nat.mul_zero, Nat.reduceAdd, bN_rv, bM_ru, bV_rv, bV_rx, bU_ru, bU_rx, bN_ite, bM_ite, bV_ite, bU_ite, ↓bx_e, ↓sp_e, gA_ok, gZ_n, gB_0, gB_1, gB_i, and_true, and_false, true_and, false_and, decide_true, decide_false, ↓reduceIte, not_true_eq_false, not_false_eq_true, Bool.false_eq_true, Bool.true_eq_false, Bool.and_true, Bool.and_false, Bool.true_and, Bool.false_and, Bool.or_true, Bool.or_false, Bool.true_or, Bool.false_or, Bool.not_true, Bool.not_false, le_f, le_t, lt_f, lt_t, eq_f, ↓reduceIte, not_true_eq_false, not_false_eq_true, ite_10, bt_0, bt_1]
  by_cases hq : f (9 + 4 * k) = f (74 + 21 * i + 11 + k)
  · simp (disch := omega) only [hq, nI_lit, nI_add, pk_mul, nI_clp, nI_eqv, nI_lev, nI_ltv, nI_neg, nI_neg', nI_subv, Nat.add_zero, Nat.zero_add, Nat.mul_zero, Nat.reduceAdd, bN_rv, bM_ru, bV_rv, bV_rx, bU_ru, bU_rx, bN_ite, bM_ite, bV_ite, bU_ite, ↓bx_e, ↓sp_e, gA_ok, gZ_n, gB_0, gB_1, gB_i, and_true, and_false, true_and, false_and, decide_true, decide_false, ↓reduceIte, not_true_eq_false, not_false_eq_true, Bool.false_eq_true, Bool.true_eq_false, Bool.and_true, Bool.and_false, Bool.true_and, Bool.false_and, Bool.or_true, Bool.or_false, Bool.true_or, Bool.false_or, Bool.not_true, Bool.not_false, le_f, le_t, lt_f, lt_t, eq_f, ↓reduceIte, not_true_eq_false, not_false_eq_true, ite_10, bt_0, bt_1]
    have e6 := h.1.2.2.2.2.2.2.2.2.2.1 i hi hu
    have R1 : RS (sI s (a + 6 + 6) i (f (74 + 21 * i + 6) ||| shlI (nI 1) (nI k))) (a + 6) (mWr1 f i k) := RS_6 h.1 hm.1.1 hi _
    have c1 : ∀ b, b < a + 6 ∨ a + 18 ≤ b → (sI s (a + 6 + 6) i (f (74 + 21 * i + 6) ||| shlI (nI 1) (nI k))).1 b = s.1 b := fun b hb => sI_fn (by omega)
    have g1 : ∀ j, j < 74 ∨ 242 ≤ j → mWr1 f i k j = f j := fun j hj => ud_n (by omega)
    have W1 := RW_rs h R1 c1 g1
    have L1 := RLw_rs hL hm.2.2.1 ha c1 g1
    have M1 := IM_w6 hm hi hk hr hn
    have F1 : Fw a s (sI s (a + 6 + 6) i (f (74 + 21 * i + 6) ||| shlI (nI 1) (nI k))) := Fw_I (by omega) (by omega)
    have hu1 : sU (mWr1 f i k) i = true := by unfold mWr1; rw [sU_u (by omega)]; exact hu
    rw [e6]
    generalize sI s (a + 6 + 6) i (f (74 + 21 * i + 6) ||| shlI (nI 1) (nI k)) = s1 at *
    obtain ⟨s2, j1, j2, j3, j4⟩ := p84 W1.1 M1.1 hi hk hu1
    have c2 : ∀ b, b < a + 6 ∨ a + 18 ≤ b → s2.1 b = s1.1 b := fun b hb => j4.1 b (by omega)
    have g2 : ∀ j, j < 74 ∨ 242 ≤ j → mLr (mWr1 f i k) i k j = mWr1 f i k j := fun j hj => mLr_n (fun o ho => by omega)
    have hu2 : sU (mLr (mWr1 f i k) i k) i = true := by rw [sU_c (mLr_n (fun o ho => by omega))]; exact hu1
    obtain ⟨s3, l1, l2, l3, l4, l5⟩ := p117E (RW_rs W1 j2 c2 g2) (RLw_rs L1 M1.2.2.1 ha c2 g2) (IM_lr M1 j3) ha hi hk hu2
    refine ⟨s3, ?_, l2, l3, l4, Fw_t F1 (Fw_t (Fw_z j4 (by omega) (by omega)) l5)⟩
    rw [← l1, j1]
    simp only [bM_ru]
  · simp (disch := omega) only [hq, nI_lit, nI_add, pk_mul, nI_clp, nI_eqv, nI_lev, nI_ltv, nI_neg, nI_neg', nI_subv, Nat.add_zero, Nat.zero_add, Nat.mul_zero, Nat.reduceAdd, bN_rv, bM_ru, bV_rv, bV_rx, bU_ru, bU_rx, bN_ite, bM_ite, bV_ite, bU_ite, ↓bx_e, ↓sp_e, gA_ok, gZ_n, gB_0, gB_1, gB_i, and_true, and_false, true_and, false_and, decide_true, decide_false, ↓reduceIte, not_true_eq_false, not_false_eq_true, Bool.false_eq_true, Bool.true_eq_false, Bool.and_true, Bool.and_false, Bool.true_and, Bool.false_and, Bool.or_true, Bool.or_false, Bool.true_or, Bool.false_or, Bool.not_true, Bool.not_false, le_f, le_t, lt_f, lt_t, eq_f, ↓reduceIte, not_true_eq_false, not_false_eq_true, ite_10, bt_0, bt_1]
    obtain ⟨s1, j1, j2, j3, j4⟩ := p119 h hL hm ha hi hu (w := nI 2)
    obtain ⟨s2, k1, k2, k3, k4, k5⟩ := p120 j2 j3 (IM_ab hm hi hu) ha
    refine ⟨s2, ?_, k2, k3, k4, Fw_t j4 k5⟩
    rw [j1]
    simp only [bM_ru, q117_116, k1]
theorem m139 {t : mS} {T : Nat} (hm : IM T (t.1 513)) : ∃ t', q265_139 t = ru t' ∧ MA t t' (t.1 513) (mSt (t.1 513)) := by
  obtain ⟨t1, t2, h1, h2, h3⟩ := mSet hm
  refine ⟨t2, ?_, h3⟩
  unfold q265_139
  rw [h1]; simp only [bM_ru]; rw [h2]; simp only [bM_ru]
theorem m265 {t : mS} {T : Nat} {f : Nat → Int32} (hf : t.1 513 = f) (hm : IM T f) {i k : Nat} (hi : i < 8) (hk : k < 10) (hr : sR f i = true) (hwt : sWri f k = none ∨ sWri f k = some i) : ∃ t', q265 (nI i) (nI k) t = ru t' ∧ MA t t' f (mWrite f i k) := by
  have hu := sR_U hr
  have hn := nWt_i hm.1 hk hwt
  unfold q265 mWrite
  have e14 : f (74 + 21 * i + (11 + k)) = f (74 + 21 * i + 11 + k) := by rw [show 74 + 21 * i + (11 + k) = 74 + 21 * i + 11 + k by omega]
  simp (disch := omega) only [hf, e14, nI_lit, nI_add, pk_mul, nI_clp, nI_eqv, nI_lev, nI_ltv, nI_neg, nI_neg', nI_subv, Nat.add_zero, Nat.zero_add, Nat.mul_zero, Nat.reduceAdd, bN_rv, bM_ru, bV_rv, bV_rx, bU_ru, bU_rx, bN_ite, bM_ite, bV_ite, bU_ite, ↓bx_e, ↓sp_e, gA_ok, gZ_n, gB_0, gB_1, gB_i, and_true, and_false, true_and, false_and, decide_true, decide_false, ↓reduceIte, not_true_eq_false, not_false_eq_true, Bool.false_eq_true, Bool.true_eq_false, Bool.and_true, Bool.and_false, Bool.true_and, Bool.false_and, Bool.or_true, Bool.or_false, Bool.true_or, Bool.false_or, Bool.not_true, Bool.not_false, le_f, le_t, lt_f, lt_t, eq_f, ↓reduceIte, not_true_eq_false, not_false_eq_true, ite_10, bt_0, bt_1, q198, q199, q200, q201, q202, q203, q204, m190, m205, m206, b2_0, q189, q187]
  by_cases hq : f (9 + 4 * k) = f (74 + 21 * i + 11 + k)
  · simp (disch := omega) only [hq, nI_lit, nI_add, pk_mul, nI_clp, nI_eqv, nI_lev, nI_ltv, nI_neg, nI_neg', nI_subv, Nat.add_zero, Nat.zero_add, Nat.mul_zero, Nat.reduceAdd, bN_rv, bM_ru, bV_rv, bV_rx, bU_ru, bU_rx, bN_ite, bM_ite, bV_ite, bU_ite, ↓bx_e, ↓sp_e, gA_ok, gZ_n, gB_0, gB_1, gB_i, and_true, and_false, true_and, false_and, decide_true, decide_false, ↓reduceIte, not_true_eq_false, not_false_eq_true, Bool.false_eq_true, Bool.true_eq_false, Bool.and_true, Bool.and_false, Bool.true_and, Bool.false_and, Bool.or_true, Bool.or_false, Bool.true_or, Bool.false_or, Bool.not_true, Bool.not_false, le_f, le_t, lt_f, lt_t, eq_f, ↓reduceIte, not_true_eq_false, not_false_eq_true, ite_10, bt_0, bt_1, q198, q199, q200, q201, q202, q203, q204, m190, m205, m206, b2_0, q189, q187]
    have M1 := IM_w6 hm hi hk hr hn
    have hu1 : sU (mWr1 f i k) i = true := by unfold mWr1; rw [sU_u (by omega)]; exact hu
    have M2 := IM_lr (k := k) M1 (IS_lr M1.1 hi hu1)
    have hu2 : sU (mLr (mWr1 f i k) i k) i = true := by rw [sU_c (mLr_n (fun o ho => by omega))]; exact hu1
    have A2 : MA t (wr t (mLr (mWr1 f i k) i k)) f (mLr (mWr1 f i k) i k) := by
      have := MA_wr (t := t) (f' := mLr (mWr1 f i k) i k) (fun j hj => by rw [hf, sR_c (mLr_n (fun o ho => by omega))]; unfold mWr1; rw [sR_u (by omega)])
      rw [hf] at this; exact this
    rw [sI_w0, hf, m265_37 hi hk]
    show ∃ t', q265_88 (nI i) (nI k) (wr t (mLr (mWr1 f i k) i k)) = ru t' ∧ _
    have e1 : (wr t (mLr (mWr1 f i k) i k)).1 513 = mLr (mWr1 f i k) i k := wr_1
    generalize wr t (mLr (mWr1 f i k) i k) = t2 at *
    generalize mLr (mWr1 f i k) i k = g at *
    unfold q265_88 mWrE
    simp (disch := omega) only [e1, nI_lit, nI_add, pk_mul, nI_clp, nI_eqv, nI_lev, nI_ltv, nI_neg, nI_neg', nI_subv, Nat.add_zero, Nat.zero_add, Nat.mul_zero, Nat.reduceAdd, bN_rv, bM_ru, bV_rv, bV_rx, bU_ru, bU_rx, bN_ite, bM_ite, bV_ite, bU_ite, ↓bx_e, ↓sp_e, gA_ok, gZ_n, gB_0, gB_1, gB_i, and_true, and_false, true_and, false_and, decide_true, decide_false, ↓reduceIte, not_true_eq_false, not_false_eq_true, Bool.false_eq_true, Bool.true_eq_false, Bool.and_true, Bool.and_false, Bool.true_and, Bool.false_and, Bool.or_true, Bool.or_false, Bool.true_or, Bool.false_or, Bool.not_true, Bool.not_false, le_f, le_t, lt_f, lt_t, eq_f, ↓reduceIte, not_true_eq_false, not_false_eq_true, ite_10, bt_0, bt_1, q198, q199, q200, q201, q202, q203, q204, m190, m205, m206, b2_0, q189, q187]
    by_cases h1 : g (9 + 4 * k + 1) ≤ g (74 + 21 * i + 2)
    · obtain ⟨t3, j1, j2⟩ := m139 (t := t2) (T := T) (by rw [e1]; exact M2)
      rw [e1] at j2
      refine ⟨t3, ?_, ?_⟩
      · simp only [h1, ↓reduceIte]; exact j1
      · simp only [h1, ↓reduceIte]; exact MA_t A2 j2
    · have M3 : IM T (upd g (74 + 21 * i + 9) (mxI (g (74 + 21 * i + 9)) (g (9 + 4 * k + 1)))) := IM_u M2 hi hu2 (by omega) _
      have A3 := MA_u (t := t2) (k := 74 + 21 * i + 9) (x := mxI (g (74 + 21 * i + 9)) (g (9 + 4 * k + 1))) (fun j hj => by omega)
      rw [e1] at A3
      have e3 : (wr t2 (upd g (74 + 21 * i + 9) (mxI (g (74 + 21 * i + 9)) (g (9 + 4 * k + 1))))).1 513 = upd g (74 + 21 * i + 9) (mxI (g (74 + 21 * i + 9)) (g (9 + 4 * k + 1))) := wr_1
      obtain ⟨t3, j1, j2⟩ := m139 (t := wr t2 (upd g (74 + 21 * i + 9) (mxI (g (74 + 21 * i + 9)) (g (9 + 4 * k + 1))))) (T := T) (by rw [e3]; exact M3)
      rw [e3] at j2
      refine ⟨t3, ?_, ?_⟩
      · simp only [h1, ↓reduceIte]; rw [sI_w0, e1]; exact j1
      · simp only [h1, ↓reduceIte]; exact MA_t A2 (MA_t A3 j2)
  · simp (disch := omega) only [hq, nI_lit, nI_add, pk_mul, nI_clp, nI_eqv, nI_lev, nI_ltv, nI_neg, nI_neg', nI_subv, Nat.add_zero, Nat.zero_add, Nat.mul_zero, Nat.reduceAdd, bN_rv, bM_ru, bV_rv, bV_rx, bU_ru, bU_rx, bN_ite, bM_ite, bV_ite, bU_ite, ↓bx_e, ↓sp_e, gA_ok, gZ_n, gB_0, gB_1, gB_i, and_true, and_false, true_and, false_and, decide_true, decide_false, ↓reduceIte, not_true_eq_false, not_false_eq_true, Bool.false_eq_true, Bool.true_eq_false, Bool.and_true, Bool.and_false, Bool.true_and, Bool.false_and, Bool.or_true, Bool.or_false, Bool.true_or, Bool.false_or, Bool.not_true, Bool.not_false, le_f, le_t, lt_f, lt_t, eq_f, ↓reduceIte, not_true_eq_false, not_false_eq_true, ite_10, bt_0, bt_1, q198, q199, q200, q201, q202, q203, q204, m190, m205, m206, b2_0, q189, q187]
    have ab := MA_ab (t := t) (by rw [hf]; exact hm.1.1) hi (by rw [hf]; exact hr) (w := nI 2)
    have abq := m254 (t := t) (by rw [hf]; exact hm.1.1) hi (w := nI 2)
    rw [hf] at ab abq
    generalize wr (sI t 512 18 (t.1 512 18 ||| shlI (nI 1) (nI i))) (mAbort f i (nI 2)) = t3 at *
    obtain ⟨t4, o1, o2⟩ := m139 (t := t3) (T := T) (by rw [ab.1]; exact IM_ab hm hi hu)
    rw [ab.1] at o2
    refine ⟨t4, ?_, MA_t ab o2⟩
    rw [abq]
    simp only [bM_ru, o1]
