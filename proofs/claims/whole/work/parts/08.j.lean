/-! TO LEAVE -/
theorem ud_id {f : Nat → Int32} {k : Nat} : upd f k (f k) = f := by
  funext j
  unfold upd
  by_cases h : j = k
  · rw [if_pos h, h]
  · rw [if_neg h]
theorem IS_out {f : Nat → Int32} (h : IS f) {o j : Nat} (ho : o < 8) (hb : bt (f (74 + 21 * o + 7)) j = true) : sU f o = true := by
  cases e : sU f o with
  | true => rfl
  | false =>
    have h0 : f (74 + 21 * o) = nI 0 := by
      unfold sU at e
      simpa using e
    rw [h.2.2.1 o ho h0 7 (by omega), bt_n0] at hb
    cases hb
def mL1 (e : Int32) (s o : Nat) (f : Nat → Int32) : Nat → Int32 := if bt (f (74 + 21 * o + 7)) s = true then upd f (74 + 21 * o + 8) (if f (74 + 21 * o + 8) = nI 0 then e else mnI (f (74 + 21 * o + 8)) e) else f
def mL2 (e : Int32) (s o : Nat) (f : Nat → Int32) : Nat → Int32 := if bt (f (74 + 21 * s + 7)) o = true then upd f (74 + 21 * o + 9) (mxI (f (74 + 21 * o + 9)) e) else f
def mLv (f : Nat → Int32) (e : Int32) (s : Nat) : Nat → Int32 := fo (fun o f => mL2 e s o (mL1 e s o f)) 8 0 f
def mLeave (f : Nat → Int32) (s : Nat) (w : Int32) : Nat → Int32 := mFree (mLv (mLog f s w) (f (74 + 21 * s + 3)) s) s
theorem mL1_n {e : Int32} {s o j : Nat} {f : Nat → Int32} (h : j ≠ 74 + 21 * o + 8) : mL1 e s o f j = f j := by
  unfold mL1
  split
  · rw [ud_n h]
  · rfl
theorem mL2_n {e : Int32} {s o j : Nat} {f : Nat → Int32} (h : j ≠ 74 + 21 * o + 9) : mL2 e s o f j = f j := by
  unfold mL2
  split
  · rw [ud_n h]
  · rfl
theorem mLv_n {e : Int32} {s j : Nat} {f : Nat → Int32} (h : ∀ o, o < 8 → j ≠ 74 + 21 * o + 8 ∧ j ≠ 74 + 21 * o + 9) : mLv f e s j = f j := by
  unfold mLv
  refine fo_pres (P := fun (g : Nat → Int32) => g j = f j) (fun o b _ ho hb => ?_) rfl
  rw [mL2_n (h o (by omega)).2, mL1_n (h o (by omega)).1]; exact hb
theorem m259_16 {K : Int32 → mS → Option mQ} {t : mS} {f : Nat → Int32} {s : Nat} {e : Int32} (hs : s < 8) : q259_16 K 10000 (nI s) e (nI 0) (wr t f) = K (nI s) (wr t (mLv f e s)) := by
  unfold mLv
  refine lp_fo (Q := fun n f o => q259_16 K n (nI s) e o (wr t f)) (out := fun f => K (nI s) (wr t f)) (fun n b => ?_) (fun n o b ho => ?_) f 10000 (by omega)
  · simp (disch := omega) only [q259_16, nI_lit, nI_add, pk_mul, nI_clp, nI_eqv, nI_lev, nI_ltv, nI_neg, nI_neg', nI_subv, Nat.add_zero, Nat.zero_add, Nat.mul_zero, bN_rv, bM_ru, bV_rv, bV_rx, bU_ru, bU_rx, bN_ite, bM_ite, bV_ite, bU_ite, bx_e, sp_e, gA_ok, gZ_n, gB_0, gB_1, gB_i, and_true, and_false, true_and, false_and, decide_true, decide_false, ↓reduceIte, not_true_eq_false, not_false_eq_true, Bool.false_eq_true, Bool.true_eq_false, Bool.and_true, Bool.and_false, Bool.true_and, Bool.false_and, Bool.or_true, Bool.or_false, Bool.true_or, Bool.false_or, Bool.not_true, Bool.not_false, le_f, le_t, lt_f, lt_t, eq_f, ↓reduceIte, not_true_eq_false, not_false_eq_true, ite_10, bt_0, bt_1]
  · have e75 : ∀ f1, q259_75 (q259_16 K n) (nI s) e (nI o) (wr t f1) = q259_16 K n (nI s) e (nI (o + 1)) (wr t (mL2 e s o f1)) := by
      intro f1
      unfold mL2
      simp (disch := omega) only [q259_75, q259_114, wr_1, sI_wr, nI_lit, nI_add, pk_mul, nI_clp, nI_eqv, nI_lev, nI_ltv, nI_neg, nI_neg', nI_subv, Nat.add_zero, Nat.zero_add, Nat.mul_zero, bN_rv, bM_ru, bV_rv, bV_rx, bU_ru, bU_rx, bN_ite, bM_ite, bV_ite, bU_ite, bx_e, sp_e, gA_ok, gZ_n, gB_0, gB_1, gB_i, and_true, and_false, true_and, false_and, decide_true, decide_false, ↓reduceIte, not_true_eq_false, not_false_eq_true, Bool.false_eq_true, Bool.true_eq_false, Bool.and_true, Bool.and_false, Bool.true_and, Bool.false_and, Bool.or_true, Bool.or_false, Bool.true_or, Bool.false_or, Bool.not_true, Bool.not_false, le_f, le_t, lt_f, lt_t, eq_f, ↓reduceIte, not_true_eq_false, not_false_eq_true, ite_10, bt_0, bt_1, q198, q199, q200, q201, q202, q203, q204, m190, m205, m206, b2_0, q189, q187]
      cases bt (f1 (74 + 21 * s + 7)) o <;> simp only [and_true, and_false, true_and, false_and, decide_true, decide_false, ↓reduceIte, not_true_eq_false, not_false_eq_true, Bool.false_eq_true, Bool.true_eq_false, Bool.and_true, Bool.and_false, Bool.true_and, Bool.false_and, Bool.or_true, Bool.or_false, Bool.true_or, Bool.false_or, Bool.not_true, Bool.not_false]
    rw [q259_16]
    simp (disch := omega) only [q259_74, wr_1, sI_wr, e75, nI_lit, nI_add, pk_mul, nI_clp, nI_eqv, nI_lev, nI_ltv, nI_neg, nI_neg', nI_subv, Nat.add_zero, Nat.zero_add, Nat.mul_zero, bN_rv, bM_ru, bV_rv, bV_rx, bU_ru, bU_rx, bN_ite, bM_ite, bV_ite, bU_ite, bx_e, sp_e, gA_ok, gZ_n, gB_0, gB_1, gB_i, and_true, and_false, true_and, false_and, decide_true, decide_false, ↓reduceIte, not_true_eq_false, not_false_eq_true, Bool.false_eq_true, Bool.true_eq_false, Bool.and_true, Bool.and_false, Bool.true_and, Bool.false_and, Bool.or_true, Bool.or_false, Bool.true_or, Bool.false_or, Bool.not_true, Bool.not_false, le_f, le_t, lt_f, lt_t, eq_f, ↓reduceIte, not_true_eq_false, not_false_eq_true, ite_10, bt_0, bt_1, q198, q199, q200, q201, q202, q203, q204, m190, m205, m206, b2_0, q189, q187]
    unfold mL1
    cases bt (b (74 + 21 * o + 7)) s
    · simp only [and_true, and_false, true_and, false_and, decide_true, decide_false, ↓reduceIte, not_true_eq_false, not_false_eq_true, Bool.false_eq_true, Bool.true_eq_false, Bool.and_true, Bool.and_false, Bool.true_and, Bool.false_and, Bool.or_true, Bool.or_false, Bool.true_or, Bool.false_or, Bool.not_true, Bool.not_false]
    · by_cases h0 : b (74 + 21 * o + 8) = nI 0 <;> simp only [h0, and_true, and_false, true_and, false_and, decide_true, decide_false, ↓reduceIte, not_true_eq_false, not_false_eq_true, Bool.false_eq_true, Bool.true_eq_false, Bool.and_true, Bool.and_false, Bool.true_and, Bool.false_and, Bool.or_true, Bool.or_false, Bool.true_or, Bool.false_or, Bool.not_true, Bool.not_false]
theorem m259 {t : mS} {s : Nat} (hs : s < 8) {w : Int32} : q259 (nI s) w t = ru (wr t (mLeave (t.1 513) s w)) := by
  unfold q259 mLeave
  simp (disch := omega) only [m249, nI_lit, nI_add, pk_mul, nI_clp, nI_eqv, nI_lev, nI_ltv, nI_neg, nI_neg', nI_subv, Nat.add_zero, Nat.zero_add, Nat.mul_zero, bN_rv, bM_ru, bV_rv, bV_rx, bU_ru, bU_rx, bN_ite, bM_ite, bV_ite, bU_ite, bx_e, sp_e, gA_ok, gZ_n, gB_0, gB_1, gB_i, and_true, and_false, true_and, false_and, decide_true, decide_false, ↓reduceIte, not_true_eq_false, not_false_eq_true, Bool.false_eq_true, Bool.true_eq_false, Bool.and_true, Bool.and_false, Bool.true_and, Bool.false_and, Bool.or_true, Bool.or_false, Bool.true_or, Bool.false_or, Bool.not_true, Bool.not_false, le_f, le_t, lt_f, lt_t, eq_f, ↓reduceIte, not_true_eq_false, not_false_eq_true, ite_10, bt_0, bt_1, q198, q199, q200, q201, q202, q203, q204, m190, m205, m206, b2_0, q189, q187]
  rw [m259_16 hs]
  unfold q259_120
  simp (disch := omega) only [m253, wr_1, wr_w, nI_lit, nI_add, pk_mul, nI_clp, nI_eqv, nI_lev, nI_ltv, nI_neg, nI_neg', nI_subv, Nat.add_zero, Nat.zero_add, Nat.mul_zero, bN_rv, bM_ru, bV_rv, bV_rx, bU_ru, bU_rx, bN_ite, bM_ite, bV_ite, bU_ite, bx_e, sp_e, gA_ok, gZ_n, gB_0, gB_1, gB_i, and_true, and_false, true_and, false_and, decide_true, decide_false, ↓reduceIte, not_true_eq_false, not_false_eq_true, Bool.false_eq_true, Bool.true_eq_false, Bool.and_true, Bool.and_false, Bool.true_and, Bool.false_and, Bool.or_true, Bool.or_false, Bool.true_or, Bool.false_or, Bool.not_true, Bool.not_false, le_f, le_t, lt_f, lt_t, eq_f, ↓reduceIte, not_true_eq_false, not_false_eq_true, ite_10, bt_0, bt_1, q198, q199, q200, q201, q202, q203, q204, m190, m205, m206, b2_0, q189, q187]
theorem p81 {s : mS} {z : Nat} {f : Nat → Int32} (h : RS s z f) (hs : IS f) {i : Nat} (hi : i < 8) (hu : sU f i = true) : ∃ s', q81 z (nI i) s = ru s' ∧ RS s' z (mFree (mLv f (f (74 + 21 * i + 3)) i) i) ∧ IS (mFree (mLv f (f (74 + 21 * i + 3)) i) i) ∧ Fz z s s' := by
  unfold q81
  simp (disch := omega) only [h.2.2.2.2.2.2.1 i hi hu, nI_lit, nI_add, pk_mul, nI_clp, nI_eqv, nI_lev, nI_ltv, nI_neg, nI_neg', nI_subv, Nat.add_zero, Nat.zero_add, Nat.mul_zero, bN_rv, bM_ru, bV_rv, bV_rx, bU_ru, bU_rx, bN_ite, bM_ite, bV_ite, bU_ite, bx_e, sp_e, gA_ok, gZ_n, gB_0, gB_1, gB_i, and_true, and_false, true_and, false_and, decide_true, decide_false, ↓reduceIte, not_true_eq_false, not_false_eq_true, Bool.false_eq_true, Bool.true_eq_false, Bool.and_true, Bool.and_false, Bool.true_and, Bool.false_and, Bool.or_true, Bool.or_false, Bool.true_or, Bool.false_or, Bool.not_true, Bool.not_false, le_f, le_t, lt_f, lt_t, eq_f, ↓reduceIte, not_true_eq_false, not_false_eq_true, ite_10, bt_0, bt_1]
  generalize f (74 + 21 * i + 3) = e
  have H := lp_sim (Q := fun n b o => q81_9 (q81_89 z) z n (nI i) e o b) (e := 8) (out := fun b => q81_89 z (nI i) b) (J := fun _ b f => RS b z f ∧ IS f ∧ Fz z s b)
    (g := fun o f => mL2 e i o (mL1 e i o f)) (fun n b f _ => ?_) (fun n o b f ho hJ => ?_) 8 0 s f 10000 (by omega) ⟨h, hs, Fz_r⟩ (by omega)
  · obtain ⟨s', h1, h2, h3, h4⟩ := H
    rw [h1]
    refine ⟨cFree s' z i, ?_, RS_free h2 h3.1 hi, IS_free h3 hi, Fz_t h4 Fz_free⟩
    unfold q81_89
    simp (disch := omega) only [p80, nI_lit, nI_add, pk_mul, nI_clp, nI_eqv, nI_lev, nI_ltv, nI_neg, nI_neg', nI_subv, Nat.add_zero, Nat.zero_add, Nat.mul_zero, bN_rv, bM_ru, bV_rv, bV_rx, bU_ru, bU_rx, bN_ite, bM_ite, bV_ite, bU_ite, bx_e, sp_e, gA_ok, gZ_n, gB_0, gB_1, gB_i, and_true, and_false, true_and, false_and, decide_true, decide_false, ↓reduceIte, not_true_eq_false, not_false_eq_true, Bool.false_eq_true, Bool.true_eq_false, Bool.and_true, Bool.and_false, Bool.true_and, Bool.false_and, Bool.or_true, Bool.or_false, Bool.true_or, Bool.false_or, Bool.not_true, Bool.not_false, le_f, le_t, lt_f, lt_t, eq_f, ↓reduceIte, not_true_eq_false, not_false_eq_true, ite_10, bt_0, bt_1]
  · simp (disch := omega) only [q81_9, nI_lit, nI_add, pk_mul, nI_clp, nI_eqv, nI_lev, nI_ltv, nI_neg, nI_neg', nI_subv, Nat.add_zero, Nat.zero_add, Nat.mul_zero, bN_rv, bM_ru, bV_rv, bV_rx, bU_ru, bU_rx, bN_ite, bM_ite, bV_ite, bU_ite, bx_e, sp_e, gA_ok, gZ_n, gB_0, gB_1, gB_i, and_true, and_false, true_and, false_and, decide_true, decide_false, ↓reduceIte, not_true_eq_false, not_false_eq_true, Bool.false_eq_true, Bool.true_eq_false, Bool.and_true, Bool.and_false, Bool.true_and, Bool.false_and, Bool.or_true, Bool.or_false, Bool.true_or, Bool.false_or, Bool.not_true, Bool.not_false, le_f, le_t, lt_f, lt_t, eq_f, ↓reduceIte, not_true_eq_false, not_false_eq_true, ite_10, bt_0, bt_1]
  · obtain ⟨hR, hS, hF⟩ := hJ
    -- the second half
    have k2 : ∀ b f, RS b z f → IS f → Fz z s b → ∃ b', q81_54 (q81_9 (q81_89 z) z n) z (nI i) e (nI o) b = q81_9 (q81_89 z) z n (nI i) e (nI (o + 1)) b' ∧ RS b' z (mL2 e i o f) ∧ IS (mL2 e i o f) ∧ Fz z s b' := by
      intro b f hR hS hF
      unfold mL2
      have hfrom := hR.2.2.2.2.2.2.2.2.2.2.2.2.1 i hi
      cases e2 : bt (f (74 + 21 * i + 7)) o with
      | false =>
        refine ⟨b, ?_, ?_⟩
        · simp (disch := omega) only [q81_54, q81_83, hfrom, e2, nI_lit, nI_add, pk_mul, nI_clp, nI_eqv, nI_lev, nI_ltv, nI_neg, nI_neg', nI_subv, Nat.add_zero, Nat.zero_add, Nat.mul_zero, bN_rv, bM_ru, bV_rv, bV_rx, bU_ru, bU_rx, bN_ite, bM_ite, bV_ite, bU_ite, bx_e, sp_e, gA_ok, gZ_n, gB_0, gB_1, gB_i, and_true, and_false, true_and, false_and, decide_true, decide_false, ↓reduceIte, not_true_eq_false, not_false_eq_true, Bool.false_eq_true, Bool.true_eq_false, Bool.and_true, Bool.and_false, Bool.true_and, Bool.false_and, Bool.or_true, Bool.or_false, Bool.true_or, Bool.false_or, Bool.not_true, Bool.not_false, le_f, le_t, lt_f, lt_t, eq_f, ↓reduceIte, not_true_eq_false, not_false_eq_true, ite_10, bt_0, bt_1]
        · rw [if_neg (by decide)]; exact ⟨hR, hS, hF⟩
      | true =>
        obtain ⟨-, hv⟩ := hS.2.2.2.1 i o hi e2
        refine ⟨?w, ?x, ?y⟩
        case x =>
          simp (disch := omega) only [q81_54, q81_83, hfrom, e2, hR.2.2.2.2.2.2.2.2.2.2.2.1 o ho hv, nI_lit, nI_add, pk_mul, nI_clp, nI_eqv, nI_lev, nI_ltv, nI_neg, nI_neg', nI_subv, Nat.add_zero, Nat.zero_add, Nat.mul_zero, bN_rv, bM_ru, bV_rv, bV_rx, bU_ru, bU_rx, bN_ite, bM_ite, bV_ite, bU_ite, bx_e, sp_e, gA_ok, gZ_n, gB_0, gB_1, gB_i, and_true, and_false, true_and, false_and, decide_true, decide_false, ↓reduceIte, not_true_eq_false, not_false_eq_true, Bool.false_eq_true, Bool.true_eq_false, Bool.and_true, Bool.and_false, Bool.true_and, Bool.false_and, Bool.or_true, Bool.or_false, Bool.true_or, Bool.false_or, Bool.not_true, Bool.not_false, le_f, le_t, lt_f, lt_t, eq_f, ↓reduceIte, not_true_eq_false, not_false_eq_true, ite_10, bt_0, bt_1]
          rfl
        case y =>
          rw [if_pos rfl]
          exact ⟨RS_8 hR hS.1 ho _, IS_u hS ho hv (by omega) _, Fz_t hF (Fz_I (by omega) (by omega))⟩
    have hto : bt (b.1 (z + 10) i) o = bt (f (74 + 21 * o + 7)) i := by
      rw [hR.2.2.2.2.2.2.2.2.2.2.2.2.2.1 i hi, bt_sIn, decide_eq_true ho, Bool.true_and]
    cases e1 : bt (f (74 + 21 * o + 7)) i with
    | false =>
      have em : mL1 e i o f = f := by unfold mL1; rw [e1, if_neg (by decide)]
      obtain ⟨b', h1, h2⟩ := k2 b f hR hS hF
      refine ⟨b', ?_, ?_⟩
      · rw [← h1]; simp (disch := omega) only [q81_9, hto, e1, nI_lit, nI_add, pk_mul, nI_clp, nI_eqv, nI_lev, nI_ltv, nI_neg, nI_neg', nI_subv, Nat.add_zero, Nat.zero_add, Nat.mul_zero, bN_rv, bM_ru, bV_rv, bV_rx, bU_ru, bU_rx, bN_ite, bM_ite, bV_ite, bU_ite, bx_e, sp_e, gA_ok, gZ_n, gB_0, gB_1, gB_i, and_true, and_false, true_and, false_and, decide_true, decide_false, ↓reduceIte, not_true_eq_false, not_false_eq_true, Bool.false_eq_true, Bool.true_eq_false, Bool.and_true, Bool.and_false, Bool.true_and, Bool.false_and, Bool.or_true, Bool.or_false, Bool.true_or, Bool.false_or, Bool.not_true, Bool.not_false, le_f, le_t, lt_f, lt_t, eq_f, ↓reduceIte, not_true_eq_false, not_false_eq_true, ite_10, bt_0, bt_1]
      · rw [em]; exact h2
    | true =>
      have hv := IS_out hS ho e1
      have h7 := hR.2.2.2.2.2.2.2.2.2.2.1 o ho hv
      have hE : ∀ x, RS (sI b (z + 7) o x) z (upd f (74 + 21 * o + 8) x) ∧ IS (upd f (74 + 21 * o + 8) x) ∧ Fz z s (sI b (z + 7) o x) := fun x => ⟨RS_7 hR hS.1 ho x, IS_u hS ho hv (by omega) x, Fz_t hF (Fz_I (by omega) (by omega))⟩
      by_cases h0 : f (74 + 21 * o + 8) = nI 0
      · have em : mL1 e i o f = upd f (74 + 21 * o + 8) e := by unfold mL1; rw [e1, if_pos rfl, if_pos h0]
        obtain ⟨q1, q2, q3⟩ := hE e
        obtain ⟨b', h1, h2⟩ := k2 _ _ q1 q2 q3
        refine ⟨b', ?_, ?_⟩
        · rw [← h1]; simp (disch := omega) only [q81_9, q81_47, hto, e1, h7, h0, nI_lit, nI_add, pk_mul, nI_clp, nI_eqv, nI_lev, nI_ltv, nI_neg, nI_neg', nI_subv, Nat.add_zero, Nat.zero_add, Nat.mul_zero, bN_rv, bM_ru, bV_rv, bV_rx, bU_ru, bU_rx, bN_ite, bM_ite, bV_ite, bU_ite, bx_e, sp_e, gA_ok, gZ_n, gB_0, gB_1, gB_i, and_true, and_false, true_and, false_and, decide_true, decide_false, ↓reduceIte, not_true_eq_false, not_false_eq_true, Bool.false_eq_true, Bool.true_eq_false, Bool.and_true, Bool.and_false, Bool.true_and, Bool.false_and, Bool.or_true, Bool.or_false, Bool.true_or, Bool.false_or, Bool.not_true, Bool.not_false, le_f, le_t, lt_f, lt_t, eq_f, ↓reduceIte, not_true_eq_false, not_false_eq_true, ite_10, bt_0, bt_1]
        · rw [em]; exact h2
      · by_cases hle : f (74 + 21 * o + 8) ≤ e
        · have em : mL1 e i o f = f := by unfold mL1; rw [e1, if_pos rfl, if_neg h0, mnI_le, if_pos hle, ud_id]
          obtain ⟨b', h1, h2⟩ := k2 b f hR hS hF
          refine ⟨b', ?_, ?_⟩
          · rw [← h1]; simp (disch := omega) only [q81_9, q81_47, hto, e1, h7, h0, hle, nI_lit, nI_add, pk_mul, nI_clp, nI_eqv, nI_lev, nI_ltv, nI_neg, nI_neg', nI_subv, Nat.add_zero, Nat.zero_add, Nat.mul_zero, bN_rv, bM_ru, bV_rv, bV_rx, bU_ru, bU_rx, bN_ite, bM_ite, bV_ite, bU_ite, bx_e, sp_e, gA_ok, gZ_n, gB_0, gB_1, gB_i, and_true, and_false, true_and, false_and, decide_true, decide_false, ↓reduceIte, not_true_eq_false, not_false_eq_true, Bool.false_eq_true, Bool.true_eq_false, Bool.and_true, Bool.and_false, Bool.true_and, Bool.false_and, Bool.or_true, Bool.or_false, Bool.true_or, Bool.false_or, Bool.not_true, Bool.not_false, le_f, le_t, lt_f, lt_t, eq_f, ↓reduceIte, not_true_eq_false, not_false_eq_true, ite_10, bt_0, bt_1]
          · rw [em]; exact h2
        · have em : mL1 e i o f = upd f (74 + 21 * o + 8) e := by unfold mL1; rw [e1, if_pos rfl, if_neg h0, mnI_le, if_neg hle]
          obtain ⟨q1, q2, q3⟩ := hE e
          obtain ⟨b', h1, h2⟩ := k2 _ _ q1 q2 q3
          refine ⟨b', ?_, ?_⟩
          · rw [← h1]; simp (disch := omega) only [q81_9, q81_47, hto, e1, h7, h0, hle, nI_lit, nI_add, pk_mul, nI_clp, nI_eqv, nI_lev, nI_ltv, nI_neg, nI_neg', nI_subv, Nat.add_zero, Nat.zero_add, Nat.mul_zero, bN_rv, bM_ru, bV_rv, bV_rx, bU_ru, bU_rx, bN_ite, bM_ite, bV_ite, bU_ite, bx_e, sp_e, gA_ok, gZ_n, gB_0, gB_1, gB_i, and_true, and_false, true_and, false_and, decide_true, decide_false, ↓reduceIte, not_true_eq_false, not_false_eq_true, Bool.false_eq_true, Bool.true_eq_false, Bool.and_true, Bool.and_false, Bool.true_and, Bool.false_and, Bool.or_true, Bool.or_false, Bool.true_or, Bool.false_or, Bool.not_true, Bool.not_false, le_f, le_t, lt_f, lt_t, eq_f, ↓reduceIte, not_true_eq_false, not_false_eq_true, ite_10, bt_0, bt_1]
          · rw [em]; exact h2
