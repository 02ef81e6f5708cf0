/-! WHO IS AHEAD -/
def sEn (f : Nat → Int32) (p : Nat) (x : Int32) (i : Nat) : Bool := bt (f (74 + 21 * i + 7)) p && (sR f i || sR f p) && !(sF f i && decide (f (74 + 21 * i + 3) < x)) && !(sOn f i && decide (f (74 + 21 * i + 2) ≤ x))
def sAh (f : Nat → Int32) (p : Nat) : Option (Option Nat) :=
  if (!(sU f p) || decide (sFst f p = nI 0) || (sF f p && !(decide (sFst f p < f (74 + 21 * p + 3))))) = true then none
  else if (sR f p && !(decide (f (74 + 21 * p + 9) ≤ nI 0)) && !(decide (f (74 + 21 * p + 9) < sFst f p))) = true then some none
  else match fs (sEn f p (sFst f p)) 8 0 with
    | none => none
    | some a => some (some a)
def mAh (o : Option (Option Nat)) : Int32 := match o with
  | none => -nI 1
  | some none => nI 8
  | some (some a) => nI a
def cAh (o : Option (Option Nat)) : Int32 := match o with
  | none => -nI 2
  | some none => -nI 1
  | some (some a) => nI a
theorem m255_75 {t : mS} (hw : IW (t.1 513)) {p : Nat} (hp : p < 8) {x : Int32} : q255_75 (nI p) x t = rv (oI (fs (sEn (t.1 513) p x) 8 0)) t := by
    unfold q255_75
    rw [nI_lit, nI_lit]
    have e : ∀ z : Int32, z = fd (fun k b => if sEn (t.1 513) p x k = true then nI k else b) 8 (-nI 1) → z = oI (fs (sEn (t.1 513) p x) 8 0) := by
      intro z hz
      rw [hz, fd_fs]
      cases fs (sEn (t.1 513) p x) 8 0 <;> rfl
    rw [← e _ rfl]
    have body : ∀ n i b, i < 8 → q255_81 (n + 1) (nI p) x b (nI i) t = q255_81 n (nI p) x (if sEn (t.1 513) p x i = true then nI i else b) (nI i + -nI 1) t := by
      intro n i b hi
      have e1 : q255_118 (q255_81 n) (nI p) x b (nI i) t = q255_81 n (nI p) x (if (!(sF (t.1 513) i && decide (t.1 513 (74 + 21 * i + 3) < x)) && !(sOn (t.1 513) i && decide (t.1 513 (74 + 21 * i + 2) ≤ x))) = true then nI i else b) (nI i + -nI 1) t := by
        simp (disch := omega) only [q255_162, q255_158, q255_163, q255_176, q255_138, q255_118, m207 hw, nI_lit, nI_add, pk_mul, nI_clp, nI_eqv, nI_lev, nI_ltv, nI_neg, nI_neg', nI_subv, Nat.add_zero, Nat.zero_add, Nat.mul_zero, bN_rv, bM_ru, bV_rv, bV_rx, bU_ru, bU_rx, bN_ite, bM_ite, bV_ite, bU_ite, bx_e, sp_e, gA_ok, gZ_n, gB_0, gB_1, gB_i, decide_true, decide_false, ↓reduceIte, not_true_eq_false, not_false_eq_true, Bool.false_eq_true, Bool.true_eq_false, Bool.and_true, Bool.and_false, Bool.true_and, Bool.false_and, Bool.or_true, Bool.or_false, Bool.true_or, Bool.false_or, Bool.not_true, Bool.not_false, le_f, le_t, lt_f, lt_t, eq_f, ↓reduceIte, not_true_eq_false, not_false_eq_true, ite_10, bt_0, bt_1, q198, q199, q200, q201, q202, q203, q204, m190, m205, m206, b2_0, q189, q187]
        cases h4 : sF (t.1 513) i <;> by_cases h5 : t.1 513 (74 + 21 * i + 3) < x <;> cases h6 : sOn (t.1 513) i <;> by_cases h7 : t.1 513 (74 + 21 * i + 2) ≤ x <;>
          simp only [h5, h7, decide_true, decide_false, ↓reduceIte, not_true_eq_false, not_false_eq_true, Bool.false_eq_true, Bool.true_eq_false, Bool.and_true, Bool.and_false, Bool.true_and, Bool.false_and, Bool.or_true, Bool.or_false, Bool.true_or, Bool.false_or, Bool.not_true, Bool.not_false]
      rw [q255_81]
      simp (disch := omega) only [q255_162, q255_163, q255_176, e1, nI_lit, nI_add, pk_mul, nI_clp, nI_eqv, nI_lev, nI_ltv, nI_neg, nI_neg', nI_subv, Nat.add_zero, Nat.zero_add, Nat.mul_zero, bN_rv, bM_ru, bV_rv, bV_rx, bU_ru, bU_rx, bN_ite, bM_ite, bV_ite, bU_ite, bx_e, sp_e, gA_ok, gZ_n, gB_0, gB_1, gB_i, decide_true, decide_false, ↓reduceIte, not_true_eq_false, not_false_eq_true, Bool.false_eq_true, Bool.true_eq_false, Bool.and_true, Bool.and_false, Bool.true_and, Bool.false_and, Bool.or_true, Bool.or_false, Bool.true_or, Bool.false_or, Bool.not_true, Bool.not_false, le_f, le_t, lt_f, lt_t, eq_f, ↓reduceIte, not_true_eq_false, not_false_eq_true, ite_10, bt_0, bt_1, q198, q199, q200, q201, q202, q203, q204, m190, m205, m206, b2_0, q189, q187]
      unfold sEn
      generalize (!(sF (t.1 513) i && decide (t.1 513 (74 + 21 * i + 3) < x))) = z1
      generalize (!(sOn (t.1 513) i && decide (t.1 513 (74 + 21 * i + 2) ≤ x))) = z2
      cases h1 : bt (t.1 513 (74 + 21 * i + 7)) p <;> cases h2 : sR (t.1 513) i <;> cases h3 : sR (t.1 513) p <;> cases z1 <;> cases z2 <;>
        simp only [decide_true, decide_false, ↓reduceIte, not_true_eq_false, not_false_eq_true, Bool.false_eq_true, Bool.true_eq_false, Bool.and_true, Bool.and_false, Bool.true_and, Bool.false_and, Bool.or_true, Bool.or_false, Bool.true_or, Bool.false_or, Bool.not_true, Bool.not_false]
    refine lp_fd (Q := fun n b i => q255_81 n (nI p) x b i t) (e := 8) (out := fun b => rv b t) (fun n b => ?_) (fun n b => ?_) (fun n i b hi => ?_) 7 (-nI 1) 10000 (by omega) (by omega)
    · simp only [q255_81, show (-nI 1 < 0) = True from by decide, decide_true, decide_false, ↓reduceIte, not_true_eq_false, not_false_eq_true, Bool.false_eq_true, Bool.true_eq_false, Bool.and_true, Bool.and_false, Bool.true_and, Bool.false_and, Bool.or_true, Bool.or_false, Bool.true_or, Bool.false_or, Bool.not_true, Bool.not_false]
    · rw [body n 0 b (by omega)]; rfl
    · rw [body n (i + 1) b hi, nI_dec]
theorem m255 {t : mS} (hw : IW (t.1 513)) {p : Nat} (hp : p < 8) : q255 (nI p) t = rv (mAh (sAh (t.1 513) p)) t := by
  unfold q255 sAh
  simp (disch := omega) only [q255_18, q255_43, m255_75 hw, m251, nI_lit, nI_add, pk_mul, nI_clp, nI_eqv, nI_lev, nI_ltv, nI_neg, nI_neg', nI_subv, Nat.add_zero, Nat.zero_add, Nat.mul_zero, bN_rv, bM_ru, bV_rv, bV_rx, bU_ru, bU_rx, bN_ite, bM_ite, bV_ite, bU_ite, bx_e, sp_e, gA_ok, gZ_n, gB_0, gB_1, gB_i, decide_true, decide_false, ↓reduceIte, not_true_eq_false, not_false_eq_true, Bool.false_eq_true, Bool.true_eq_false, Bool.and_true, Bool.and_false, Bool.true_and, Bool.false_and, Bool.or_true, Bool.or_false, Bool.true_or, Bool.false_or, Bool.not_true, Bool.not_false, le_f, le_t, lt_f, lt_t, eq_f, ↓reduceIte, not_true_eq_false, not_false_eq_true, ite_10, bt_0, bt_1, q198, q199, q200, q201, q202, q203, q204, m190, m205, m206, b2_0, q189, q187]
  unfold sU
  generalize sFst (t.1 513) p = x
  by_cases h0 : t.1 513 (74 + 21 * p) = nI 0
  · simp only [h0, mAh, decide_true, decide_false, ↓reduceIte, not_true_eq_false, not_false_eq_true, Bool.false_eq_true, Bool.true_eq_false, Bool.and_true, Bool.and_false, Bool.true_and, Bool.false_and, Bool.or_true, Bool.or_false, Bool.true_or, Bool.false_or, Bool.not_true, Bool.not_false]
  · by_cases h1 : x = nI 0
    · simp only [h0, h1, mAh, decide_true, decide_false, ↓reduceIte, not_true_eq_false, not_false_eq_true, Bool.false_eq_true, Bool.true_eq_false, Bool.and_true, Bool.and_false, Bool.true_and, Bool.false_and, Bool.or_true, Bool.or_false, Bool.true_or, Bool.false_or, Bool.not_true, Bool.not_false]
    · cases h2 : sF (t.1 513) p
      · cases h4 : sR (t.1 513) p <;> by_cases h5 : t.1 513 (74 + 21 * p + 9) ≤ nI 0 <;> by_cases h6 : t.1 513 (74 + 21 * p + 9) < x <;>
          simp only [h0, h1, h5, h6, mAh, decide_true, decide_false, ↓reduceIte, not_true_eq_false, not_false_eq_true, Bool.false_eq_true, Bool.true_eq_false, Bool.and_true, Bool.and_false, Bool.true_and, Bool.false_and, Bool.or_true, Bool.or_false, Bool.true_or, Bool.false_or, Bool.not_true, Bool.not_false] <;>
          (try (cases fs (sEn (t.1 513) p x) 8 0 <;> rfl))
      · have h4 : sR (t.1 513) p = false := by
          cases e : sR (t.1 513) p with
          | false => rfl
          | true => rw [sR_F e] at h2; cases h2
        by_cases h3 : x < t.1 513 (74 + 21 * p + 3) <;> simp only [h0, h1, h3, h4, mAh, decide_true, decide_false, ↓reduceIte, not_true_eq_false, not_false_eq_true, Bool.false_eq_true, Bool.true_eq_false, Bool.and_true, Bool.and_false, Bool.true_and, Bool.false_and, Bool.or_true, Bool.or_false, Bool.true_or, Bool.false_or, Bool.not_true, Bool.not_false] <;>
          (try (cases fs (sEn (t.1 513) p x) 8 0 <;> rfl))
section GE
variable {s : mS} {a : Nat} {f : Nat → Int32}
theorem p88 (h : RS s a f) {i : Nat} (hi : i < 8) (hu : sU f i = true) (x : Int32) : q88 a (nI i) x s = rv (b2 (!(sF f i && decide (f (74 + 21 * i + 3) < x)) && !(sOn f i && decide (f (74 + 21 * i + 2) ≤ x)))) s := by
  unfold q88 q88_23 q88_44
  simp (disch := omega) only [h.2.1 i, h.2.2.1 i, decide_eq_true hi, hu, Bool.true_and, h.2.2.2.2.2.1 i hi hu, h.2.2.2.2.2.2.1 i hi hu, nI_lit, nI_add, pk_mul, nI_clp, nI_eqv, nI_lev, nI_ltv, nI_neg, nI_neg', nI_subv, Nat.add_zero, Nat.zero_add, Nat.mul_zero, bN_rv, bM_ru, bV_rv, bV_rx, bU_ru, bU_rx, bN_ite, bM_ite, bV_ite, bU_ite, bx_e, sp_e, gA_ok, gZ_n, gB_0, gB_1, gB_i, decide_true, decide_false, ↓reduceIte, not_true_eq_false, not_false_eq_true, Bool.false_eq_true, Bool.true_eq_false, Bool.and_true, Bool.and_false, Bool.true_and, Bool.false_and, Bool.or_true, Bool.or_false, Bool.true_or, Bool.false_or, Bool.not_true, Bool.not_false, le_f, le_t, lt_f, lt_t, eq_f, ↓reduceIte, not_true_eq_false, not_false_eq_true, ite_10, bt_0, bt_1]
  have e1 : (x ≤ f (74 + 21 * i + 3)) = ¬ (f (74 + 21 * i + 3) < x) := propext Int32.not_lt.symm
  simp only [e1]
  cases sF f i <;> cases sOn f i <;> by_cases h1 : f (74 + 21 * i + 3) < x <;> by_cases h2 : f (74 + 21 * i + 2) ≤ x <;>
    simp only [h1, h2, b2_t, b2_f, decide_true, decide_false, ↓reduceIte, not_true_eq_false, not_false_eq_true, Bool.false_eq_true, Bool.true_eq_false, Bool.and_true, Bool.and_false, Bool.true_and, Bool.false_and, Bool.or_true, Bool.or_false, Bool.true_or, Bool.false_or, Bool.not_true, Bool.not_false]
theorem p87 (h : RS s a f) (hs : IS f) {p : Nat} (hp : p < 8) (hu : sU f p = true) : q87 a (nI p) s = rv (cAh (sAh f p)) s := by
  have key : ∀ x w, (∀ i, i < 8 → bt w i = (bt (f (74 + 21 * i + 7)) p && (sR f i || sR f p))) → q87_87 a 10000 x w (nI 0) s = rv (cAh (match fs (sEn f p x) 8 0 with
      | none => none
      | some a => some (some a))) s := by
    intro x w hb
    have := lp_fs (Q := fun n i => q87_87 a n x w i s) (p := sEn f p x) (e := 8) (no := rv (-nI 2) s) (yes := fun i => rv (nI i) s) (fun n => ?_) (fun n i hi => ?_) 8 0 10000 (by omega) (by omega)
    · rw [this]
      cases fs (sEn f p x) 8 0 <;> rfl
    · simp (disch := omega) only [q87_87, nI_lit, nI_add, pk_mul, nI_clp, nI_eqv, nI_lev, nI_ltv, nI_neg, nI_neg', nI_subv, Nat.add_zero, Nat.zero_add, Nat.mul_zero, bN_rv, bM_ru, bV_rv, bV_rx, bU_ru, bU_rx, bN_ite, bM_ite, bV_ite, bU_ite, bx_e, sp_e, gA_ok, gZ_n, gB_0, gB_1, gB_i, decide_true, decide_false, ↓reduceIte, not_true_eq_false, not_false_eq_true, Bool.false_eq_true, Bool.true_eq_false, Bool.and_true, Bool.and_false, Bool.true_and, Bool.false_and, Bool.or_true, Bool.or_false, Bool.true_or, Bool.false_or, Bool.not_true, Bool.not_false, le_f, le_t, lt_f, lt_t, eq_f, ↓reduceIte, not_true_eq_false, not_false_eq_true, ite_10, bt_0, bt_1]
    · simp (disch := omega) only [q87_87, q87_117, hb i hi, nI_lit, nI_add, pk_mul, nI_clp, nI_eqv, nI_lev, nI_ltv, nI_neg, nI_neg', nI_subv, Nat.add_zero, Nat.zero_add, Nat.mul_zero, bN_rv, bM_ru, bV_rv, bV_rx, bU_ru, bU_rx, bN_ite, bM_ite, bV_ite, bU_ite, bx_e, sp_e, gA_ok, gZ_n, gB_0, gB_1, gB_i, decide_true, decide_false, ↓reduceIte, not_true_eq_false, not_false_eq_true, Bool.false_eq_true, Bool.true_eq_false, Bool.and_true, Bool.and_false, Bool.true_and, Bool.false_and, Bool.or_true, Bool.or_false, Bool.true_or, Bool.false_or, Bool.not_true, Bool.not_false, le_f, le_t, lt_f, lt_t, eq_f, ↓reduceIte, not_true_eq_false, not_false_eq_true, ite_10, bt_0, bt_1]
      unfold sEn
      cases e : bt (f (74 + 21 * i + 7)) p && (sR f i || sR f p)
      · simp only [decide_true, decide_false, ↓reduceIte, not_true_eq_false, not_false_eq_true, Bool.false_eq_true, Bool.true_eq_false, Bool.and_true, Bool.and_false, Bool.true_and, Bool.false_and, Bool.or_true, Bool.or_false, Bool.true_or, Bool.false_or, Bool.not_true, Bool.not_false]
      · have hui : sU f i = true := by
          cases e2 : sU f i with
          | true => rfl
          | false =>
            rw [Bool.and_eq_true] at e
            have h0 : f (74 + 21 * i) = nI 0 := by
              unfold sU at e2
              simpa using e2
            have := hs.2.2.1 i hi h0 7 (by omega)
            rw [this, bt_n0] at e
            cases e.1
        simp only [p88 h hi hui x, bN_rv, decide_true, decide_false, ↓reduceIte, not_true_eq_false, not_false_eq_true, Bool.false_eq_true, Bool.true_eq_false, Bool.and_true, Bool.and_false, Bool.true_and, Bool.false_and, Bool.or_true, Bool.or_false, Bool.true_or, Bool.false_or, Bool.not_true, Bool.not_false]
        cases (!(sF f i && decide (f (74 + 21 * i + 3) < x)) && !(sOn f i && decide (f (74 + 21 * i + 2) ≤ x))) <;> simp only [b2_0, decide_true, decide_false, ↓reduceIte, not_true_eq_false, not_false_eq_true, Bool.false_eq_true, Bool.true_eq_false, Bool.and_true, Bool.and_false, Bool.true_and, Bool.false_and, Bool.or_true, Bool.or_false, Bool.true_or, Bool.false_or, Bool.not_true, Bool.not_false]
  have hto : ∀ i, i < 8 → bt (s.1 (a + 10) p) i = bt (f (74 + 21 * i + 7)) p := by
    intro i hi
    rw [h.2.2.2.2.2.2.2.2.2.2.2.2.2.1 p hp, bt_sIn, decide_eq_true hi, Bool.true_and]
  have k1 : sR f p = true → ∀ x, q87_87 a 10000 x (s.1 (a + 10) p) (nI 0) s = _ := fun hr x => key x (s.1 (a + 10) p) (fun i hi => by rw [hto i hi, hr, Bool.or_true, Bool.and_true])
  have k2 : sR f p = false → ∀ x, q87_87 a 10000 x (s.1 (a + 10) p &&& s.1 a 0) (nI 0) s = _ := fun hr x => key x (s.1 (a + 10) p &&& s.1 a 0) (fun i hi => by rw [b_and, hto i hi, h.1 i, decide_eq_true hi, Bool.true_and, hr, Bool.or_false])
  unfold q87 sAh
  simp (disch := omega) only [q87_82, q87_58, q87_33, p76 h hp hu, p64 h hp, b2_0, h.2.2.2.2.2.2.1 p hp hu, h.2.2.2.2.2.2.2.2.2.2.2.1 p hp hu, nI_lit, nI_add, pk_mul, nI_clp, nI_eqv, nI_lev, nI_ltv, nI_neg, nI_neg', nI_subv, Nat.add_zero, Nat.zero_add, Nat.mul_zero, bN_rv, bM_ru, bV_rv, bV_rx, bU_ru, bU_rx, bN_ite, bM_ite, bV_ite, bU_ite, bx_e, sp_e, gA_ok, gZ_n, gB_0, gB_1, gB_i, decide_true, decide_false, ↓reduceIte, not_true_eq_false, not_false_eq_true, Bool.false_eq_true, Bool.true_eq_false, Bool.and_true, Bool.and_false, Bool.true_and, Bool.false_and, Bool.or_true, Bool.or_false, Bool.true_or, Bool.false_or, Bool.not_true, Bool.not_false, le_f, le_t, lt_f, lt_t, eq_f, ↓reduceIte, not_true_eq_false, not_false_eq_true, ite_10, bt_0, bt_1]
  generalize sFst f p = x at *
  by_cases h1 : x = nI 0
  · simp only [h1, cAh, decide_true, decide_false, ↓reduceIte, not_true_eq_false, not_false_eq_true, Bool.false_eq_true, Bool.true_eq_false, Bool.and_true, Bool.and_false, Bool.true_and, Bool.false_and, Bool.or_true, Bool.or_false, Bool.true_or, Bool.false_or, Bool.not_true, Bool.not_false]
  · cases hr : sR f p
    · have hf : sF f p = true := by
        have := sU_RF hs hp
        rw [hu, hr, Bool.false_or] at this
        exact this.symm
      rw [k2 hr]
      by_cases h3 : x < f (74 + 21 * p + 3) <;>
        simp only [hu, hf, h1, h3, cAh, decide_true, decide_false, ↓reduceIte, not_true_eq_false, not_false_eq_true, Bool.false_eq_true, Bool.true_eq_false, Bool.and_true, Bool.and_false, Bool.true_and, Bool.false_and, Bool.or_true, Bool.or_false, Bool.true_or, Bool.false_or, Bool.not_true, Bool.not_false]
    · rw [k1 hr]
      have hf := sR_F hr
      by_cases h5 : f (74 + 21 * p + 9) ≤ nI 0 <;> by_cases h6 : f (74 + 21 * p + 9) < x <;>
        simp only [hu, hf, h1, h5, h6, cAh, decide_true, decide_false, ↓reduceIte, not_true_eq_false, not_false_eq_true, Bool.false_eq_true, Bool.true_eq_false, Bool.and_true, Bool.and_false, Bool.true_and, Bool.false_and, Bool.or_true, Bool.or_false, Bool.true_or, Bool.false_or, Bool.not_true, Bool.not_false]
theorem p86 (h : RS s a f) (hs : IS f) : q86 a s = rv (oI (fs (fun i => (sAh f i).isSome) 8 0)) s := by
  unfold q86
  rw [nI_lit]
  have := lp_fs (Q := fun n i => q86_2 a n i s) (p := fun i => (sAh f i).isSome) (e := 8) (no := rv (-nI 1) s) (yes := fun i => rv (nI i) s) (fun n => ?_) (fun n i hi => ?_) 8 0 10000 (by omega) (by omega)
  · rw [this]
    cases fs (fun i => (sAh f i).isSome) 8 0 <;> rfl
  · simp (disch := omega) only [q86_2, nI_lit, nI_add, pk_mul, nI_clp, nI_eqv, nI_lev, nI_ltv, nI_neg, nI_neg', nI_subv, Nat.add_zero, Nat.zero_add, Nat.mul_zero, bN_rv, bM_ru, bV_rv, bV_rx, bU_ru, bU_rx, bN_ite, bM_ite, bV_ite, bU_ite, bx_e, sp_e, gA_ok, gZ_n, gB_0, gB_1, gB_i, decide_true, decide_false, ↓reduceIte, not_true_eq_false, not_false_eq_true, Bool.false_eq_true, Bool.true_eq_false, Bool.and_true, Bool.and_false, Bool.true_and, Bool.false_and, Bool.or_true, Bool.or_false, Bool.true_or, Bool.false_or, Bool.not_true, Bool.not_false, le_f, le_t, lt_f, lt_t, eq_f, ↓reduceIte, not_true_eq_false, not_false_eq_true, ite_10, bt_0, bt_1]
  · simp (disch := omega) only [q86_2, q86_28, p65 h hs, b2_0, nI_lit, nI_add, pk_mul, nI_clp, nI_eqv, nI_lev, nI_ltv, nI_neg, nI_neg', nI_subv, Nat.add_zero, Nat.zero_add, Nat.mul_zero, bN_rv, bM_ru, bV_rv, bV_rx, bU_ru, bU_rx, bN_ite, bM_ite, bV_ite, bU_ite, bx_e, sp_e, gA_ok, gZ_n, gB_0, gB_1, gB_i, decide_true, decide_false, ↓reduceIte, not_true_eq_false, not_false_eq_true, Bool.false_eq_true, Bool.true_eq_false, Bool.and_true, Bool.and_false, Bool.true_and, Bool.false_and, Bool.or_true, Bool.or_false, Bool.true_or, Bool.false_or, Bool.not_true, Bool.not_false, le_f, le_t, lt_f, lt_t, eq_f, ↓reduceIte, not_true_eq_false, not_false_eq_true, ite_10, bt_0, bt_1]
    cases e : sU f i
    · have : sAh f i = none := by unfold sAh; rw [e]; rfl
      simp only [this, Option.isSome_none, decide_true, decide_false, ↓reduceIte, not_true_eq_false, not_false_eq_true, Bool.false_eq_true, Bool.true_eq_false, Bool.and_true, Bool.and_false, Bool.true_and, Bool.false_and, Bool.or_true, Bool.or_false, Bool.true_or, Bool.false_or, Bool.not_true, Bool.not_false]
    · simp only [p87 h hs hi e, bN_rv, decide_true, decide_false, ↓reduceIte, not_true_eq_false, not_false_eq_true, Bool.false_eq_true, Bool.true_eq_false, Bool.and_true, Bool.and_false, Bool.true_and, Bool.false_and, Bool.or_true, Bool.or_false, Bool.true_or, Bool.false_or, Bool.not_true, Bool.not_false]
      have hlt : ∀ z, sAh f i = some (some z) → z < 8 := by
        intro z hz
        unfold sAh at hz
        split at hz
        · cases hz
        · split at hz
          · cases hz
          · split at hz
            · cases hz
            · rename_i z' hz'
              cases hz
              have := fs_some hz'
              omega
      cases e2 : sAh f i with
      | none => simp only [cAh, Option.isSome_none, decide_true, decide_false, ↓reduceIte, not_true_eq_false, not_false_eq_true, Bool.false_eq_true, Bool.true_eq_false, Bool.and_true, Bool.and_false, Bool.true_and, Bool.false_and, Bool.or_true, Bool.or_false, Bool.true_or, Bool.false_or, Bool.not_true, Bool.not_false]
      | some o =>
        cases o with
        | none => simp only [cAh, show (-nI 1 = -nI 2) = False from by decide, Option.isSome_some, decide_true, decide_false, ↓reduceIte, not_true_eq_false, not_false_eq_true, Bool.false_eq_true, Bool.true_eq_false, Bool.and_true, Bool.and_false, Bool.true_and, Bool.false_and, Bool.or_true, Bool.or_false, Bool.true_or, Bool.false_or, Bool.not_true, Bool.not_false]
        | some z =>
          have hz := hlt z e2
          have : (nI z = -nI 2) = False := (by decide : ∀ z, z < 8 → (nI z = -nI 2) = False) z hz
          simp only [cAh, this, Option.isSome_some, decide_true, decide_false, ↓reduceIte, not_true_eq_false, not_false_eq_true, Bool.false_eq_true, Bool.true_eq_false, Bool.and_true, Bool.and_false, Bool.true_and, Bool.false_and, Bool.or_true, Bool.or_false, Bool.true_or, Bool.false_or, Bool.not_true, Bool.not_false]
end GE
