/-! SPOIL, LEAST BEGAN, THE LOG OF THE CLASS -/
theorem m268_189 {K : Int32 → mS → Option mQ} {t : mS} {f : Nat → Int32} (hw : IW f) {i : Nat} {v x : Int32} (hi : i < 8) (hx : ¬ x ≤ nI 0) : q268_189 K 10000 (nI i) v x (nI 0) (wr t f) = K v (wr t (mSp f x i)) := by
  unfold mSp
  refine (lp_inv (e := 8) (Q := fun n f o => q268_189 K n (nI i) v x o (wr t f)) (out := fun f => K v (wr t f)) (J := fun _ f => IW f) (fun n b _ => ?_) (fun n o b ho hw => ?_) 8 0 f 10000 (by omega) hw (by omega)).1
  · simp (disch := omega) only [q268_189, nI_lit, nI_add, pk_mul, nI_clp, nI_eqv, nI_lev, nI_ltv, nI_neg, nI_neg', nI_subv, Nat.add_zero, Nat.zero_add, Nat.mul_zero, bN_rv, bM_ru, bV_rv, bV_rx, bU_ru, bU_rx, bN_ite, bM_ite, bV_ite, bU_ite, bx_e, sp_e, gA_ok, gZ_n, gB_0, gB_1, gB_i, and_true, and_false, true_and, false_and, decide_true, decide_false, ↓reduceIte, not_true_eq_false, not_false_eq_true, Bool.false_eq_true, Bool.true_eq_false, Bool.and_true, Bool.and_false, Bool.true_and, Bool.false_and, Bool.or_true, Bool.or_false, Bool.true_or, Bool.false_or, Bool.not_true, Bool.not_false, le_f, le_t, lt_f, lt_t, eq_f, ↓reduceIte, not_true_eq_false, not_false_eq_true, ite_10, bt_0, bt_1]
  · have hw' : IW ((wr t b).1 513) := by rw [wr_1]; exact hw
    constructor
    · unfold mSpG
      simp (disch := omega) only [q268_189, q268_260, hx, m207 hw', wr_1, sI_wr, nI_lit, nI_add, pk_mul, nI_clp, nI_eqv, nI_lev, nI_ltv, nI_neg, nI_neg', nI_subv, Nat.add_zero, Nat.zero_add, Nat.mul_zero, bN_rv, bM_ru, bV_rv, bV_rx, bU_ru, bU_rx, bN_ite, bM_ite, bV_ite, bU_ite, bx_e, sp_e, gA_ok, gZ_n, gB_0, gB_1, gB_i, and_true, and_false, true_and, false_and, decide_true, decide_false, ↓reduceIte, not_true_eq_false, not_false_eq_true, Bool.false_eq_true, Bool.true_eq_false, Bool.and_true, Bool.and_false, Bool.true_and, Bool.false_and, Bool.or_true, Bool.or_false, Bool.true_or, Bool.false_or, Bool.not_true, Bool.not_false, le_f, le_t, lt_f, lt_t, eq_f, ↓reduceIte, not_true_eq_false, not_false_eq_true, ite_10, bt_0, bt_1, q198, q199, q200, q201, q202, q203, q204, m190, m205, m206, b2_0, q189, q187]
      cases sR b o <;> cases sOn b o <;> by_cases h1 : b (74 + 21 * o + 2) ≤ x <;> by_cases h2 : b (74 + 21 * o + 2) ≤ b (74 + 21 * i + 2) <;> simp only [h1, h2, and_true, and_false, true_and, false_and, decide_true, decide_false, ↓reduceIte, not_true_eq_false, not_false_eq_true, Bool.false_eq_true, Bool.true_eq_false, Bool.and_true, Bool.and_false, Bool.true_and, Bool.false_and, Bool.or_true, Bool.or_false, Bool.true_or, Bool.false_or, Bool.not_true, Bool.not_false]
    · unfold mSpG
      split
      · exact IW_c hw (fun j hj => ud_n (by omega))
      · exact hw
theorem m268_189z {K : Int32 → mS → Option mQ} {s : mS} {i : Nat} {v x : Int32} (hx : x ≤ nI 0) : q268_189 K 10000 (nI i) v x (nI 0) s = K v s := by
  show q268_189 K (9999 + 1) (nI i) v x (nI 0) s = _
  rw [q268_189]
  simp (disch := omega) only [hx, nI_lit, nI_add, pk_mul, nI_clp, nI_eqv, nI_lev, nI_ltv, nI_neg, nI_neg', nI_subv, Nat.add_zero, Nat.zero_add, Nat.mul_zero, bN_rv, bM_ru, bV_rv, bV_rx, bU_ru, bU_rx, bN_ite, bM_ite, bV_ite, bU_ite, bx_e, sp_e, gA_ok, gZ_n, gB_0, gB_1, gB_i, and_true, and_false, true_and, false_and, decide_true, decide_false, ↓reduceIte, not_true_eq_false, not_false_eq_true, Bool.false_eq_true, Bool.true_eq_false, Bool.and_true, Bool.and_false, Bool.true_and, Bool.false_and, Bool.or_true, Bool.or_false, Bool.true_or, Bool.false_or, Bool.not_true, Bool.not_false, le_f, le_t, lt_f, lt_t, eq_f, ↓reduceIte, not_true_eq_false, not_false_eq_true, ite_10, bt_0, bt_1]
def mSpo (f : Nat → Int32) (i : Nat) : Nat → Int32 := if sOn f i = true then f else if sFst f i = nI 0 then f else mSp f (sFst f i) i
theorem p85 {s : mS} {z : Nat} {f : Nat → Int32} (h : RS s z f) (hs : IS f) {i : Nat} (hi : i < 8) (hu : sU f i = true) : ∃ s', q85 z (nI i) s = ru s' ∧ RS s' z (mSpo f i) ∧ IS (mSpo f i) ∧ Fz z s s' := by
  unfold q85 mSpo
  simp (disch := omega) only [p76 h hi hu, h.2.2.1 i, hu, nI_lit, nI_add, pk_mul, nI_clp, nI_eqv, nI_lev, nI_ltv, nI_neg, nI_neg', nI_subv, Nat.add_zero, Nat.zero_add, Nat.mul_zero, bN_rv, bM_ru, bV_rv, bV_rx, bU_ru, bU_rx, bN_ite, bM_ite, bV_ite, bU_ite, bx_e, sp_e, gA_ok, gZ_n, gB_0, gB_1, gB_i, and_true, and_false, true_and, false_and, decide_true, decide_false, ↓reduceIte, not_true_eq_false, not_false_eq_true, Bool.false_eq_true, Bool.true_eq_false, Bool.and_true, Bool.and_false, Bool.true_and, Bool.false_and, Bool.or_true, Bool.or_false, Bool.true_or, Bool.false_or, Bool.not_true, Bool.not_false, le_f, le_t, lt_f, lt_t, eq_f, ↓reduceIte, not_true_eq_false, not_false_eq_true, ite_10, bt_0, bt_1]
  cases ho : sOn f i with
  | true => exact ⟨s, by simp only [and_true, and_false, true_and, false_and, decide_true, decide_false, ↓reduceIte, not_true_eq_false, not_false_eq_true, Bool.false_eq_true, Bool.true_eq_false, Bool.and_true, Bool.and_false, Bool.true_and, Bool.false_and, Bool.or_true, Bool.or_false, Bool.true_or, Bool.false_or, Bool.not_true, Bool.not_false], h, hs, Fz_r⟩
  | false =>
    by_cases h0 : sFst f i = nI 0
    · exact ⟨s, by simp only [h0, and_true, and_false, true_and, false_and, decide_true, decide_false, ↓reduceIte, not_true_eq_false, not_false_eq_true, Bool.false_eq_true, Bool.true_eq_false, Bool.and_true, Bool.and_false, Bool.true_and, Bool.false_and, Bool.or_true, Bool.or_false, Bool.true_or, Bool.false_or, Bool.not_true, Bool.not_false], by simp only [h0, and_true, and_false, true_and, false_and, decide_true, decide_false, ↓reduceIte, not_true_eq_false, not_false_eq_true, Bool.false_eq_true, Bool.true_eq_false, Bool.and_true, Bool.and_false, Bool.true_and, Bool.false_and, Bool.or_true, Bool.or_false, Bool.true_or, Bool.false_or, Bool.not_true, Bool.not_false]; exact h, by simp only [h0, and_true, and_false, true_and, false_and, decide_true, decide_false, ↓reduceIte, not_true_eq_false, not_false_eq_true, Bool.false_eq_true, Bool.true_eq_false, Bool.and_true, Bool.and_false, Bool.true_and, Bool.false_and, Bool.or_true, Bool.or_false, Bool.true_or, Bool.false_or, Bool.not_true, Bool.not_false]; exact hs, Fz_r⟩
    · simp only [h0, and_true, and_false, true_and, false_and, decide_true, decide_false, ↓reduceIte, not_true_eq_false, not_false_eq_true, Bool.false_eq_true, Bool.true_eq_false, Bool.and_true, Bool.and_false, Bool.true_and, Bool.false_and, Bool.or_true, Bool.or_false, Bool.true_or, Bool.false_or, Bool.not_true, Bool.not_false]
      have hb : ∀ k, k < 8 → bt (s.1 z 0 &&& s.1 z 2) k = (sR f k && sOn f k) := by
        intro k hk
        rw [b_and, h.1 k, h.2.2.1 k]
        cases e : sR f k
        · simp only [and_true, and_false, true_and, false_and, decide_true, decide_false, ↓reduceIte, not_true_eq_false, not_false_eq_true, Bool.false_eq_true, Bool.true_eq_false, Bool.and_true, Bool.and_false, Bool.true_and, Bool.false_and, Bool.or_true, Bool.or_false, Bool.true_or, Bool.false_or, Bool.not_true, Bool.not_false]
        · rw [sR_U e]; simp only [hk, and_true, and_false, true_and, false_and, decide_true, decide_false, ↓reduceIte, not_true_eq_false, not_false_eq_true, Bool.false_eq_true, Bool.true_eq_false, Bool.and_true, Bool.and_false, Bool.true_and, Bool.false_and, Bool.or_true, Bool.or_false, Bool.true_or, Bool.false_or, Bool.not_true, Bool.not_false]
      generalize sFst f i = x
      generalize s.1 z 0 &&& s.1 z 2 = w at hb
      unfold mSp
      have H := lp_sim (Q := fun n b o => q85_35 z n (nI i) x w o b) (e := 8) (out := fun b => ru b) (J := fun _ b g => RS b z g ∧ IS g ∧ sU g i = true ∧ (∀ k, k < 8 → bt w k = (sR g k && sOn g k)) ∧ Fz z s b)
        (g := fun o g => mSpG x i o g) (fun n b g _ => ?_) (fun n o b g ho' hJ => ?_) 8 0 s f 10000 (by omega) ⟨h, hs, hu, hb, Fz_r⟩ (by omega)
      · obtain ⟨s', h1, h2, h3, h4, h5, h6⟩ := H
        exact ⟨s', h1, h2, h3, h6⟩
      · simp (disch := omega) only [q85_35, nI_lit, nI_add, pk_mul, nI_clp, nI_eqv, nI_lev, nI_ltv, nI_neg, nI_neg', nI_subv, Nat.add_zero, Nat.zero_add, Nat.mul_zero, bN_rv, bM_ru, bV_rv, bV_rx, bU_ru, bU_rx, bN_ite, bM_ite, bV_ite, bU_ite, bx_e, sp_e, gA_ok, gZ_n, gB_0, gB_1, gB_i, and_true, and_false, true_and, false_and, decide_true, decide_false, ↓reduceIte, not_true_eq_false, not_false_eq_true, Bool.false_eq_true, Bool.true_eq_false, Bool.and_true, Bool.and_false, Bool.true_and, Bool.false_and, Bool.or_true, Bool.or_false, Bool.true_or, Bool.false_or, Bool.not_true, Bool.not_false, le_f, le_t, lt_f, lt_t, eq_f, ↓reduceIte, not_true_eq_false, not_false_eq_true, ite_10, bt_0, bt_1]
      · obtain ⟨hR, hS, hu, hb, hF⟩ := hJ
        unfold mSpG
        cases e1 : sR g o && sOn g o with
        | false =>
          refine ⟨b, ?_, ?_⟩
          · simp (disch := omega) only [q85_35, q85_91, hb o ho', e1, nI_lit, nI_add, pk_mul, nI_clp, nI_eqv, nI_lev, nI_ltv, nI_neg, nI_neg', nI_subv, Nat.add_zero, Nat.zero_add, Nat.mul_zero, bN_rv, bM_ru, bV_rv, bV_rx, bU_ru, bU_rx, bN_ite, bM_ite, bV_ite, bU_ite, bx_e, sp_e, gA_ok, gZ_n, gB_0, gB_1, gB_i, and_true, and_false, true_and, false_and, decide_true, decide_false, ↓reduceIte, not_true_eq_false, not_false_eq_true, Bool.false_eq_true, Bool.true_eq_false, Bool.and_true, Bool.and_false, Bool.true_and, Bool.false_and, Bool.or_true, Bool.or_false, Bool.true_or, Bool.false_or, Bool.not_true, Bool.not_false, le_f, le_t, lt_f, lt_t, eq_f, ↓reduceIte, not_true_eq_false, not_false_eq_true, ite_10, bt_0, bt_1]
          · simp only [and_true, and_false, true_and, false_and, decide_true, decide_false, ↓reduceIte, not_true_eq_false, not_false_eq_true, Bool.false_eq_true, Bool.true_eq_false, Bool.and_true, Bool.and_false, Bool.true_and, Bool.false_and, Bool.or_true, Bool.or_false, Bool.true_or, Bool.false_or, Bool.not_true, Bool.not_false]; exact ⟨hR, hS, hu, hb, hF⟩
        | true =>
          rw [Bool.and_eq_true] at e1
          have hv := sR_U e1.1
          have hb2 := hR.2.2.2.2.2.1 o ho' hv
          have hi2 := hR.2.2.2.2.2.1 i hi hu
          by_cases h1 : g (74 + 21 * o + 2) ≤ x
          · refine ⟨b, ?_, ?_⟩
            · simp (disch := omega) only [q85_35, q85_91, hb o ho', e1.1, e1.2, hb2, h1, nI_lit, nI_add, pk_mul, nI_clp, nI_eqv, nI_lev, nI_ltv, nI_neg, nI_neg', nI_subv, Nat.add_zero, Nat.zero_add, Nat.mul_zero, bN_rv, bM_ru, bV_rv, bV_rx, bU_ru, bU_rx, bN_ite, bM_ite, bV_ite, bU_ite, bx_e, sp_e, gA_ok, gZ_n, gB_0, gB_1, gB_i, and_true, and_false, true_and, false_and, decide_true, decide_false, ↓reduceIte, not_true_eq_false, not_false_eq_true, Bool.false_eq_true, Bool.true_eq_false, Bool.and_true, Bool.and_false, Bool.true_and, Bool.false_and, Bool.or_true, Bool.or_false, Bool.true_or, Bool.false_or, Bool.not_true, Bool.not_false, le_f, le_t, lt_f, lt_t, eq_f, ↓reduceIte, not_true_eq_false, not_false_eq_true, ite_10, bt_0, bt_1]
            · simp only [h1, and_true, and_false, true_and, false_and, decide_true, decide_false, ↓reduceIte, not_true_eq_false, not_false_eq_true, Bool.false_eq_true, Bool.true_eq_false, Bool.and_true, Bool.and_false, Bool.true_and, Bool.false_and, Bool.or_true, Bool.or_false, Bool.true_or, Bool.false_or, Bool.not_true, Bool.not_false]; exact ⟨hR, hS, hu, hb, hF⟩
          · by_cases h2 : g (74 + 21 * o + 2) ≤ g (74 + 21 * i + 2)
            · refine ⟨b, ?_, ?_⟩
              · simp (disch := omega) only [q85_35, q85_91, hb o ho', e1.1, e1.2, hb2, hi2, h1, h2, nI_lit, nI_add, pk_mul, nI_clp, nI_eqv, nI_lev, nI_ltv, nI_neg, nI_neg', nI_subv, Nat.add_zero, Nat.zero_add, Nat.mul_zero, bN_rv, bM_ru, bV_rv, bV_rx, bU_ru, bU_rx, bN_ite, bM_ite, bV_ite, bU_ite, bx_e, sp_e, gA_ok, gZ_n, gB_0, gB_1, gB_i, and_true, and_false, true_and, false_and, decide_true, decide_false, ↓reduceIte, not_true_eq_false, not_false_eq_true, Bool.false_eq_true, Bool.true_eq_false, Bool.and_true, Bool.and_false, Bool.true_and, Bool.false_and, Bool.or_true, Bool.or_false, Bool.true_or, Bool.false_or, Bool.not_true, Bool.not_false, le_f, le_t, lt_f, lt_t, eq_f, ↓reduceIte, not_true_eq_false, not_false_eq_true, ite_10, bt_0, bt_1]
              · simp only [h1, h2, and_true, and_false, true_and, false_and, decide_true, decide_false, ↓reduceIte, not_true_eq_false, not_false_eq_true, Bool.false_eq_true, Bool.true_eq_false, Bool.and_true, Bool.and_false, Bool.true_and, Bool.false_and, Bool.or_true, Bool.or_false, Bool.true_or, Bool.false_or, Bool.not_true, Bool.not_false]; exact ⟨hR, hS, hu, hb, hF⟩
            · refine ⟨?w9, ?x9, ?y9⟩
              case x9 =>
                simp (disch := omega) only [q85_35, q85_91, hb o ho', e1.1, e1.2, hb2, hi2, h1, h2, nI_lit, nI_add, pk_mul, nI_clp, nI_eqv, nI_lev, nI_ltv, nI_neg, nI_neg', nI_subv, Nat.add_zero, Nat.zero_add, Nat.mul_zero, bN_rv, bM_ru, bV_rv, bV_rx, bU_ru, bU_rx, bN_ite, bM_ite, bV_ite, bU_ite, bx_e, sp_e, gA_ok, gZ_n, gB_0, gB_1, gB_i, and_true, and_false, true_and, false_and, decide_true, decide_false, ↓reduceIte, not_true_eq_false, not_false_eq_true, Bool.false_eq_true, Bool.true_eq_false, Bool.and_true, Bool.and_false, Bool.true_and, Bool.false_and, Bool.or_true, Bool.or_false, Bool.true_or, Bool.false_or, Bool.not_true, Bool.not_false, le_f, le_t, lt_f, lt_t, eq_f, ↓reduceIte, not_true_eq_false, not_false_eq_true, ite_10, bt_0, bt_1]
                rfl
              case y9 =>
                simp only [h1, h2, and_true, and_false, true_and, false_and, decide_true, decide_false, ↓reduceIte, not_true_eq_false, not_false_eq_true, Bool.false_eq_true, Bool.true_eq_false, Bool.and_true, Bool.and_false, Bool.true_and, Bool.false_and, Bool.or_true, Bool.or_false, Bool.true_or, Bool.false_or, Bool.not_true, Bool.not_false]
                refine ⟨RS_spo hR hS.1 ho', IS_spo hS ho' hv, ?_, fun k hk => ?_, Fz_t hF (Fz_I (by omega) (by omega))⟩
                · rw [sU_u (by omega)]; exact hu
                · have := (hS.1 k hk).2
                  rw [sR_u (by omega), sOn_u (by omega) (by omega)]; exact hb k hk
def sLb (f : Nat → Int32) : Int32 := fo (fun i b => if (sR f i && !(decide (b ≤ f (74 + 21 * i + 2)))) = true then f (74 + 21 * i + 2) else b) 8 0 (nI 2147483647)
theorem p74 {s : mS} {z : Nat} {f : Nat → Int32} (h : RS s z f) : q74 z s = rv (sLb f) s := by
  unfold q74 sLb
  rw [nI_lit, nI_lit]
  refine lp_fo (Q := fun n b i => q74_5 z n b i s) (out := fun b => rv b s) (fun n b => ?_) (fun n i b hi => ?_) _ 10000 (by omega)
  · simp (disch := omega) only [q74_5, nI_lit, nI_add, pk_mul, nI_clp, nI_eqv, nI_lev, nI_ltv, nI_neg, nI_neg', nI_subv, Nat.add_zero, Nat.zero_add, Nat.mul_zero, bN_rv, bM_ru, bV_rv, bV_rx, bU_ru, bU_rx, bN_ite, bM_ite, bV_ite, bU_ite, bx_e, sp_e, gA_ok, gZ_n, gB_0, gB_1, gB_i, and_true, and_false, true_and, false_and, decide_true, decide_false, ↓reduceIte, not_true_eq_false, not_false_eq_true, Bool.false_eq_true, Bool.true_eq_false, Bool.and_true, Bool.and_false, Bool.true_and, Bool.false_and, Bool.or_true, Bool.or_false, Bool.true_or, Bool.false_or, Bool.not_true, Bool.not_false, le_f, le_t, lt_f, lt_t, eq_f, ↓reduceIte, not_true_eq_false, not_false_eq_true, ite_10, bt_0, bt_1]
  · simp (disch := omega) only [q74_5, q74_39, h.1 i, nI_lit, nI_add, pk_mul, nI_clp, nI_eqv, nI_lev, nI_ltv, nI_neg, nI_neg', nI_subv, Nat.add_zero, Nat.zero_add, Nat.mul_zero, bN_rv, bM_ru, bV_rv, bV_rx, bU_ru, bU_rx, bN_ite, bM_ite, bV_ite, bU_ite, bx_e, sp_e, gA_ok, gZ_n, gB_0, gB_1, gB_i, and_true, and_false, true_and, false_and, decide_true, decide_false, ↓reduceIte, not_true_eq_false, not_false_eq_true, Bool.false_eq_true, Bool.true_eq_false, Bool.and_true, Bool.and_false, Bool.true_and, Bool.false_and, Bool.or_true, Bool.or_false, Bool.true_or, Bool.false_or, Bool.not_true, Bool.not_false, le_f, le_t, lt_f, lt_t, eq_f, ↓reduceIte, not_true_eq_false, not_false_eq_true, ite_10, bt_0, bt_1]
    cases e : sR f i
    · simp only [and_true, and_false, true_and, false_and, decide_true, decide_false, ↓reduceIte, not_true_eq_false, not_false_eq_true, Bool.false_eq_true, Bool.true_eq_false, Bool.and_true, Bool.and_false, Bool.true_and, Bool.false_and, Bool.or_true, Bool.or_false, Bool.true_or, Bool.false_or, Bool.not_true, Bool.not_false]
    · rw [h.2.2.2.2.2.1 i hi (sR_U e)]
      by_cases h1 : b ≤ f (74 + 21 * i + 2) <;> simp only [h1, and_true, and_false, true_and, false_and, decide_true, decide_false, ↓reduceIte, not_true_eq_false, not_false_eq_true, Bool.false_eq_true, Bool.true_eq_false, Bool.and_true, Bool.and_false, Bool.true_and, Bool.false_and, Bool.or_true, Bool.or_false, Bool.true_or, Bool.false_or, Bool.not_true, Bool.not_false]
/-- the log -/
def RLg (s : mS) (y : Nat) (f : Nat → Int32) : Prop := ∃ n x : Nat, n ≤ 60 ∧ x < 60 ∧ f 6 = nI n ∧ s.1 y 0 = nI n ∧ s.1 y 1 = nI x ∧ ∀ g w, g < n → w < 4 → s.1 (y + 1) (4 * ((x + 59 - g) % 60) + w) = f (530 + 4 * g + w)
theorem mn_nI {a b : Nat} (ha : a < 2147483648) (hb : b < 2147483648) : mnI (nI a) (nI b) = nI (min a b) := by
  unfold mnI
  simp only [nI_ltv hb ha]
  by_cases h : b < a
  · rw [if_pos h, Nat.min_eq_right (by omega)]
  · rw [if_neg h, Nat.min_eq_left (by omega)]
theorem mLog_6 {f : Nat → Int32} {i : Nat} {w : Int32} : mLog f i w 6 = mnI (nI 60) (f 6 + nI 1) := if_pos rfl
theorem mLog_n {f : Nat → Int32} {i j : Nat} {w : Int32} (h6 : j ≠ 6) (h : j < 530 ∨ 770 ≤ j) : mLog f i w j = f j := by
  unfold mLog
  rw [if_neg h6, if_neg (by omega), if_neg (by omega), if_neg (by omega), if_neg (by omega), if_neg (by omega)]
theorem mLog_s {f : Nat → Int32} {i j : Nat} {w : Int32} (h : 534 ≤ j) (h2 : j < 770) : mLog f i w j = f (j - 4) := by
  unfold mLog
  rw [if_neg (by omega), if_neg (by omega), if_neg (by omega), if_neg (by omega), if_neg (by omega), if_pos ⟨h, h2⟩]
def Fr (a n : Nat) (s s' : mS) : Prop := (∀ b, (b < a ∨ a + n ≤ b) → s'.1 b = s.1 b) ∧ s'.2 = s.2
theorem p43 {s : mS} {y : Nat} {f : Nat → Int32} (h : RLg s y f) {i : Nat} (hi : i < 8) {w : Int32} : ∃ s', q43 y (f 3) (f (74 + 21 * i + 1)) w (nI i) s = ru s' ∧ RLg s' y (mLog f i w) ∧ Fr y 2 s s' := by
  obtain ⟨n, x, hn, hx, h6, h0, h1, hc⟩ := h
  refine ⟨?w, ?x, ?y⟩
  case x =>
    unfold q43
    simp (disch := omega) only [sI_at, h1, h0, nI_rem, mn_nI, nI_lit, nI_add, pk_mul, nI_clp, nI_eqv, nI_lev, nI_ltv, nI_neg, nI_neg', nI_subv, Nat.add_zero, Nat.zero_add, Nat.mul_zero, bN_rv, bM_ru, bV_rv, bV_rx, bU_ru, bU_rx, bN_ite, bM_ite, bV_ite, bU_ite, bx_e, sp_e, gA_ok, gZ_n, gB_0, gB_1, gB_i, and_true, and_false, true_and, false_and, decide_true, decide_false, ↓reduceIte, not_true_eq_false, not_false_eq_true, Bool.false_eq_true, Bool.true_eq_false, Bool.and_true, Bool.and_false, Bool.true_and, Bool.false_and, Bool.or_true, Bool.or_false, Bool.true_or, Bool.false_or, Bool.not_true, Bool.not_false, le_f, le_t, lt_f, lt_t, eq_f, ↓reduceIte, not_true_eq_false, not_false_eq_true, ite_10, bt_0, bt_1]
    rfl
  case y =>
    refine ⟨⟨min 60 (n + 1), (x + 1) % 60, by omega, by omega, ?_, ?_, ?_, fun g w' hg hw' => ?_⟩, fun b hb => ?_, Eq.trans rfl rfl⟩
    · rw [mLog_6, h6, nI_add, mn_nI (by omega) (by omega)]
    · simp (disch := omega) only [sI_at, eq_f, ↓reduceIte]
    · simp (disch := omega) only [sI_at, eq_f, ↓reduceIte]
    · simp (disch := omega) only [sI_at, eq_f, ↓reduceIte]
      by_cases g0 : g = 0
      · subst g0
        have e : ((x + 1) % 60 + 59 - 0) % 60 = x := by omega
        rw [e]
        have hw4 : w' = 0 ∨ w' = 1 ∨ w' = 2 ∨ w' = 3 := by omega
        rcases hw4 with e | e | e | e <;> subst e
        · rw [if_neg (by omega), if_neg (by omega), if_neg (by omega), if_pos (by omega)]; rfl
        · rw [if_neg (by omega), if_neg (by omega), if_pos (by omega)]; rfl
        · rw [if_neg (by omega), if_pos (by omega)]; rfl
        · rw [if_pos (by omega)]; rfl
      · have e : ((x + 1) % 60 + 59 - g) % 60 = (x + 59 - (g - 1)) % 60 := by omega
        have e2 : (x + 59 - (g - 1)) % 60 ≠ x := by omega
        rw [e, if_neg (by omega), if_neg (by omega), if_neg (by omega), if_neg (by omega), mLog_s (by omega) (by omega), show 530 + 4 * g + w' - 4 = 530 + 4 * (g - 1) + w' by omega]
        exact hc (g - 1) w' (by omega) hw'
    · rw [sI_fn (by omega), sI_fn (by omega), sI_fn (by omega), sI_fn (by omega), sI_fn (by omega), sI_fn (by omega)]
