/-! MOST, LED -/
section LOOK
variable {B : Nat} {s : mS}
def msV (f : Nat → Int32) (w c : Nat) : Int32 := if w = 0 then f (49 + 5 * c + 4) else if w = 1 then f (49 + 5 * c + 3) else bc (clU f c)
/-- the class's best so far is the reference's -/
def msB (f : Nat → Int32) (w : Nat) : Nat → Nat → Int32 × Int32 → Int32 × Int32 := fun m i b => fo (fun c b => if msV f w c ≤ b.2 then b else (nI c, msV f w c)) m i b
theorem bc_pos (x : Int32) : nI 0 ≤ bc x := by
  have : ∀ y : Int32, nI 0 ≤ y &&& 63 := fun y => by
    have h31 : bt (y &&& 63) 31 = false := by
      rw [b_and, show bt 63 31 = false by decide, Bool.and_false]
    rw [Int32.le_iff_toInt_le]
    have h1 : (y &&& 63).toInt = (y &&& 63).toBitVec.toInt := rfl
    have h0 : (nI 0).toInt = 0 := by decide
    rw [h0, h1, BitVec.toInt_eq_msb_cond, BitVec.msb_eq_getLsbD_last]
    unfold bt at h31
    simp only [show 32 - 1 = 31 from rfl, h31]
    simp
  unfold bc
  exact this _
theorem msV_pos {U : Nat} {f : Nat → Int32} (h : IU U f) (hU : U < 2147483648) {w c : Nat} (hc : c < 5) : nI 0 ≤ msV f w c := by
  unfold msV
  split
  · exact (IU_pos h hU hc).2
  · split
    · exact (IU_pos h hU hc).1
    · exact bc_pos _
theorem z_most (hG : G B s) (hB : B < 2147483648) (v1 : Int32) : ZT B [(3, 12, 1)] (q161 v1) (q326 v1) s := by
  have hG0 := hG
  obtain ⟨⟨hR, hL, T, hT, hA⟩, -, -, -, -, ⟨hU, -⟩, -⟩ := hG0
  obtain ⟨n, hn, f0, y0, -, y1, y2, y3, y4⟩ := hR.2.1
  have bad : (v1 < nI 0 ∨ nI 3 ≤ v1) → ZT B [(3, 12, 1)] (q161 v1) (q326 v1) s := fun h =>
    ZX_t (x := 3) (u := 3) (w := 12) (c := 1) (v := nI 0) hG (by unfold q161; rw [nI_lit, p184_f (by omega) h]; rfl) rfl (by omega) (by omega) (fun t ht => by
      unfold q326
      rw [nI_lit, nI_lit]; simp only [sp_e]
      rw [in_f (by omega) h, bN_rv, if_neg (not_not_intro rfl)]
      unfold q326_20
      rw [nI_lit, m188_1, bN_rv, nI_lit, if_neg (by decide)])
  rcases ix_of v1 3 (by omega) with h | h | ⟨w, hw, e⟩
  · exact bad (Or.inl h)
  · exact bad (Or.inr h)
  · subst e
    refine ZV_0 (v := (msB (s.1 513) w n 0 (-nI 1, -nI 1)).1) hG ?_ (fun t ht => ?_)
    · unfold q161
      rw [nI_lit, p184_t (by omega) (by omega), bU_ru]
      rw [nI_lit, nI_lit]
      refine lp_fo (Q := fun k (b : Int32 × Int32) i => q161_21 k (nI w) b.1 b.2 i s) (out := fun b => rv b.1 s) (fun k b => ?_) (fun k i b hi => ?_) (-nI 1, -nI 1) 10000 (by omega)
      · simp only [Nat.reduceAdd] at y0
        simp (disch := omega) only [q161_21, y0, nI_lit, nI_add, pk_mul, nI_clp, nI_eqv, nI_lev, nI_ltv, nI_neg, nI_neg', nI_subv, Nat.add_zero, Nat.zero_add, Nat.mul_zero, Nat.reduceAdd, bN_rv, bM_ru, bV_rv, bV_rx, bU_ru, bU_rx, bN_ite, bM_ite, bV_ite, bU_ite, ↓bx_e, ↓sp_e, gA_ok, gZ_n, gB_0, gB_1, gB_i, and_true, and_false, true_and, false_and, decide_true, decide_false, ↓reduceIte, not_true_eq_false, not_false_eq_true, Bool.false_eq_true, Bool.true_eq_false, Bool.and_true, Bool.and_false, Bool.true_and, Bool.false_and, Bool.or_true, Bool.or_false, Bool.true_or, Bool.false_or, Bool.not_true, Bool.not_false, le_f, le_t, lt_f, lt_t, eq_f, ↓reduceIte, not_true_eq_false, not_false_eq_true, ite_10, bt_0, bt_1]
      · have hi5 : i < 5 := by omega
        have c4 := p4 (n := 0) hi5 y1 y2
        have k3 := y3 i hi5
        have k4 := y4 i hi5
        simp only [Nat.reduceAdd] at y0 c4 k3 k4
        unfold msV
        rcases (by omega : w = 0 ∨ w = 1 ∨ w = 2) with e | e | e <;> subst e
        · simp (disch := omega) only [q161_21, q161_68, q161_84, y0, k4, nI_lit, nI_add, pk_mul, nI_clp, nI_eqv, nI_lev, nI_ltv, nI_neg, nI_neg', nI_subv, Nat.add_zero, Nat.zero_add, Nat.mul_zero, Nat.reduceAdd, bN_rv, bM_ru, bV_rv, bV_rx, bU_ru, bU_rx, bN_ite, bM_ite, bV_ite, bU_ite, ↓bx_e, ↓sp_e, gA_ok, gZ_n, gB_0, gB_1, gB_i, and_true, and_false, true_and, false_and, decide_true, decide_false, ↓reduceIte, not_true_eq_false, not_false_eq_true, Bool.false_eq_true, Bool.true_eq_false, Bool.and_true, Bool.and_false, Bool.true_and, Bool.false_and, Bool.or_true, Bool.or_false, Bool.true_or, Bool.false_or, Bool.not_true, Bool.not_false, le_f, le_t, lt_f, lt_t, eq_f, ↓reduceIte, not_true_eq_false, not_false_eq_true, ite_10, bt_0, bt_1]
          by_cases q : s.1 513 (49 + 5 * i + 4) ≤ b.2 <;> simp only [q, ↓reduceIte]
        · simp (disch := omega) only [q161_21, q161_68, q161_84, y0, k3, nI_lit, nI_add, pk_mul, nI_clp, nI_eqv, nI_lev, nI_ltv, nI_neg, nI_neg', nI_subv, Nat.add_zero, Nat.zero_add, Nat.mul_zero, Nat.reduceAdd, bN_rv, bM_ru, bV_rv, bV_rx, bU_ru, bU_rx, bN_ite, bM_ite, bV_ite, bU_ite, ↓bx_e, ↓sp_e, gA_ok, gZ_n, gB_0, gB_1, gB_i, and_true, and_false, true_and, false_and, decide_true, decide_false, ↓reduceIte, not_true_eq_false, not_false_eq_true, Bool.false_eq_true, Bool.true_eq_false, Bool.and_true, Bool.and_false, Bool.true_and, Bool.false_and, Bool.or_true, Bool.or_false, Bool.true_or, Bool.false_or, Bool.not_true, Bool.not_false, le_f, le_t, lt_f, lt_t, eq_f, ↓reduceIte, not_true_eq_false, not_false_eq_true, ite_10, bt_0, bt_1]
          by_cases q : s.1 513 (49 + 5 * i + 3) ≤ b.2 <;> simp only [q, ↓reduceIte]
        · simp (disch := omega) only [q161_21, q161_68, q161_84, y0, c4, q343_e, nI_lit, nI_add, pk_mul, nI_clp, nI_eqv, nI_lev, nI_ltv, nI_neg, nI_neg', nI_subv, Nat.add_zero, Nat.zero_add, Nat.mul_zero, Nat.reduceAdd, bN_rv, bM_ru, bV_rv, bV_rx, bU_ru, bU_rx, bN_ite, bM_ite, bV_ite, bU_ite, ↓bx_e, ↓sp_e, gA_ok, gZ_n, gB_0, gB_1, gB_i, and_true, and_false, true_and, false_and, decide_true, decide_false, ↓reduceIte, not_true_eq_false, not_false_eq_true, Bool.false_eq_true, Bool.true_eq_false, Bool.and_true, Bool.and_false, Bool.true_and, Bool.false_and, Bool.or_true, Bool.or_false, Bool.true_or, Bool.false_or, Bool.not_true, Bool.not_false, le_f, le_t, lt_f, lt_t, eq_f, ↓reduceIte, not_true_eq_false, not_false_eq_true, ite_10, bt_0, bt_1]
          by_cases q : bc (clU (s.1 513) i) ≤ b.2 <;> simp only [q, ↓reduceIte]
    · have e5 : (sI t 512 0 (nI 0)).1 513 = s.1 513 := by rw [t0_513, ht]
      unfold q326
      rw [nI_lit, nI_lit]; simp only [sp_e]
      rw [in_t (by omega) (by omega), bN_rv, if_pos (by decide)]
      unfold q326_20
      rw [nI_lit, m188_0, bN_rv, nI_lit, if_pos rfl]
      generalize sI t 512 0 (nI 0) = u at *
      have v325 : ∀ c, c < 5 → q325 (nI w) (nI c) u = rv (msV (s.1 513) w c) u := fun c hc => by
        unfold q325 msV
        rcases (by omega : w = 0 ∨ w = 1 ∨ w = 2) with e | e | e <;> subst e
        · simp (disch := omega) only [e5, nI_lit, nI_add, pk_mul, nI_clp, nI_eqv, nI_lev, nI_ltv, nI_neg, nI_neg', nI_subv, Nat.add_zero, Nat.zero_add, Nat.mul_zero, Nat.reduceAdd, bN_rv, bM_ru, bV_rv, bV_rx, bU_ru, bU_rx, bN_ite, bM_ite, bV_ite, bU_ite, ↓bx_e, ↓sp_e, gA_ok, gZ_n, gB_0, gB_1, gB_i, and_true, and_false, true_and, false_and, decide_true, decide_false, ↓reduceIte, not_true_eq_false, not_false_eq_true, Bool.false_eq_true, Bool.true_eq_false, Bool.and_true, Bool.and_false, Bool.true_and, Bool.false_and, Bool.or_true, Bool.or_false, Bool.true_or, Bool.false_or, Bool.not_true, Bool.not_false, le_f, le_t, lt_f, lt_t, eq_f, ↓reduceIte, not_true_eq_false, not_false_eq_true, ite_10, bt_0, bt_1, q198, q199, q200, q201, q202, q203, q204, m190, m205, m206, b2_0, q189, q187]
        · simp (disch := omega) only [e5, nI_lit, nI_add, pk_mul, nI_clp, nI_eqv, nI_lev, nI_ltv, nI_neg, nI_neg', nI_subv, Nat.add_zero, Nat.zero_add, Nat.mul_zero, Nat.reduceAdd, bN_rv, bM_ru, bV_rv, bV_rx, bU_ru, bU_rx, bN_ite, bM_ite, bV_ite, bU_ite, ↓bx_e, ↓sp_e, gA_ok, gZ_n, gB_0, gB_1, gB_i, and_true, and_false, true_and, false_and, decide_true, decide_false, ↓reduceIte, not_true_eq_false, not_false_eq_true, Bool.false_eq_true, Bool.true_eq_false, Bool.and_true, Bool.and_false, Bool.true_and, Bool.false_and, Bool.or_true, Bool.or_false, Bool.true_or, Bool.false_or, Bool.not_true, Bool.not_false, le_f, le_t, lt_f, lt_t, eq_f, ↓reduceIte, not_true_eq_false, not_false_eq_true, ite_10, bt_0, bt_1, q198, q199, q200, q201, q202, q203, q204, m190, m205, m206, b2_0, q189, q187]
        · simp (disch := omega) only [e5, m301 hc, q343_e, nI_lit, nI_add, pk_mul, nI_clp, nI_eqv, nI_lev, nI_ltv, nI_neg, nI_neg', nI_subv, Nat.add_zero, Nat.zero_add, Nat.mul_zero, Nat.reduceAdd, bN_rv, bM_ru, bV_rv, bV_rx, bU_ru, bU_rx, bN_ite, bM_ite, bV_ite, bU_ite, ↓bx_e, ↓sp_e, gA_ok, gZ_n, gB_0, gB_1, gB_i, and_true, and_false, true_and, false_and, decide_true, decide_false, ↓reduceIte, not_true_eq_false, not_false_eq_true, Bool.false_eq_true, Bool.true_eq_false, Bool.and_true, Bool.and_false, Bool.true_and, Bool.false_and, Bool.or_true, Bool.or_false, Bool.true_or, Bool.false_or, Bool.not_true, Bool.not_false, le_f, le_t, lt_f, lt_t, eq_f, ↓reduceIte, not_true_eq_false, not_false_eq_true, ite_10, bt_0, bt_1, q198, q199, q200, q201, q202, q203, q204, m190, m205, m206, b2_0, q189, q187]
      have f0' : u.1 513 0 = nI n := by rw [e5]; exact f0
      -- the best so far: none yet at 0, else its own value
      have key : ∀ m i b k, i + m = n → ((i = 0 ∧ b = ((-nI 1, -nI 1) : Int32 × Int32)) ∨ ∃ c, c < 5 ∧ b = (nI c, msV (s.1 513) w c)) → m < k → q326_33 k (nI w) b.1 (nI i) u = rv (msB (s.1 513) w m i b).1 u := by
        intro m
        induction m with
        | zero =>
          intro i b k hi hb hk
          cases k with
          | zero => omega
          | succ k =>
            have : i = n := by omega
            subst this
            simp (disch := omega) only [q326_33, f0', msB, fo, nI_lit, nI_add, pk_mul, nI_clp, nI_eqv, nI_lev, nI_ltv, nI_neg, nI_neg', nI_subv, Nat.add_zero, Nat.zero_add, Nat.mul_zero, Nat.reduceAdd, bN_rv, bM_ru, bV_rv, bV_rx, bU_ru, bU_rx, bN_ite, bM_ite, bV_ite, bU_ite, ↓bx_e, ↓sp_e, gA_ok, gZ_n, gB_0, gB_1, gB_i, and_true, and_false, true_and, false_and, decide_true, decide_false, ↓reduceIte, not_true_eq_false, not_false_eq_true, Bool.false_eq_true, Bool.true_eq_false, Bool.and_true, Bool.and_false, Bool.true_and, Bool.false_and, Bool.or_true, Bool.or_false, Bool.true_or, Bool.false_or, Bool.not_true, Bool.not_false, le_f, le_t, lt_f, lt_t, eq_f, ↓reduceIte, not_true_eq_false, not_false_eq_true, ite_10, bt_0, bt_1, q198, q199, q200, q201, q202, q203, q204, m190, m205, m206, b2_0, q189, q187]
        | succ m ih =>
          intro i b k hi hb hk
          cases k with
          | zero => omega
          | succ k =>
            have hi5 : i < 5 := by omega
            have hmb : msB (s.1 513) w (m + 1) i b = msB (s.1 513) w m (i + 1) (if msV (s.1 513) w i ≤ b.2 then b else (nI i, msV (s.1 513) w i)) := rfl
            rw [hmb]
            rcases hb with ⟨e0, eb⟩ | ⟨c, hc, eb⟩
            · subst e0; subst eb
              have hp := msV_pos hU hB (w := w) (c := 0) (by omega)
              have hlt : ¬ msV (s.1 513) w 0 ≤ -nI 1 := Int32.not_le.mpr (Int32.lt_of_lt_of_le (by decide) hp)
              rw [if_neg hlt, ← ih (0 + 1) (nI 0, msV (s.1 513) w 0) k (by omega) (Or.inr ⟨0, by omega, rfl⟩) (by omega)]
              simp (disch := omega) only [q326_33, q326_61, q326_66, f0', nI_lit, nI_add, pk_mul, nI_clp, nI_eqv, nI_lev, nI_ltv, nI_neg, nI_neg', nI_subv, Nat.add_zero, Nat.zero_add, Nat.mul_zero, Nat.reduceAdd, bN_rv, bM_ru, bV_rv, bV_rx, bU_ru, bU_rx, bN_ite, bM_ite, bV_ite, bU_ite, ↓bx_e, ↓sp_e, gA_ok, gZ_n, gB_0, gB_1, gB_i, and_true, and_false, true_and, false_and, decide_true, decide_false, ↓reduceIte, not_true_eq_false, not_false_eq_true, Bool.false_eq_true, Bool.true_eq_false, Bool.and_true, Bool.and_false, Bool.true_and, Bool.false_and, Bool.or_true, Bool.or_false, Bool.true_or, Bool.false_or, Bool.not_true, Bool.not_false, le_f, le_t, lt_f, lt_t, eq_f, ↓reduceIte, not_true_eq_false, not_false_eq_true, ite_10, bt_0, bt_1, q198, q199, q200, q201, q202, q203, q204, m190, m205, m206, b2_0, q189, q187]
            · subst eb
              by_cases q : msV (s.1 513) w i ≤ msV (s.1 513) w c
              · rw [if_pos q, ← ih (i + 1) (nI c, msV (s.1 513) w c) k (by omega) (Or.inr ⟨c, hc, rfl⟩) (by omega)]
                simp (disch := omega) only [q326_33, q326_61, q326_66, f0', v325, q, nI_lit, nI_add, pk_mul, nI_clp, nI_eqv, nI_lev, nI_ltv, nI_neg, nI_neg', nI_subv, Nat.add_zero, Nat.zero_add, Nat.mul_zero, Nat.reduceAdd, bN_rv, bM_ru, bV_rv, bV_rx, bU_ru, bU_rx, bN_ite, bM_ite, bV_ite, bU_ite, ↓bx_e, ↓sp_e, gA_ok, gZ_n, gB_0, gB_1, gB_i, and_true, and_false, true_and, false_and, decide_true, decide_false, ↓reduceIte, not_true_eq_false, not_false_eq_true, Bool.false_eq_true, Bool.true_eq_false, Bool.and_true, Bool.and_false, Bool.true_and, Bool.false_and, Bool.or_true, Bool.or_false, Bool.true_or, Bool.false_or, Bool.not_true, Bool.not_false, le_f, le_t, lt_f, lt_t, eq_f, ↓reduceIte, not_true_eq_false, not_false_eq_true, ite_10, bt_0, bt_1, q198, q199, q200, q201, q202, q203, q204, m190, m205, m206, b2_0, q189, q187]
              · rw [if_neg q, ← ih (i + 1) (nI i, msV (s.1 513) w i) k (by omega) (Or.inr ⟨i, hi5, rfl⟩) (by omega)]
                simp (disch := omega) only [q326_33, q326_61, q326_66, f0', v325, q, nI_lit, nI_add, pk_mul, nI_clp, nI_eqv, nI_lev, nI_ltv, nI_neg, nI_neg', nI_subv, Nat.add_zero, Nat.zero_add, Nat.mul_zero, Nat.reduceAdd, bN_rv, bM_ru, bV_rv, bV_rx, bU_ru, bU_rx, bN_ite, bM_ite, bV_ite, bU_ite, ↓bx_e, ↓sp_e, gA_ok, gZ_n, gB_0, gB_1, gB_i, and_true, and_false, true_and, false_and, decide_true, decide_false, ↓reduceIte, not_true_eq_false, not_false_eq_true, Bool.false_eq_true, Bool.true_eq_false, Bool.and_true, Bool.and_false, Bool.true_and, Bool.false_and, Bool.or_true, Bool.or_false, Bool.true_or, Bool.false_or, Bool.not_true, Bool.not_false, le_f, le_t, lt_f, lt_t, eq_f, ↓reduceIte, not_true_eq_false, not_false_eq_true, ite_10, bt_0, bt_1, q198, q199, q200, q201, q202, q203, q204, m190, m205, m206, b2_0, q189, q187]
      exact key n 0 (-nI 1, -nI 1) 10000 (by omega) (Or.inl ⟨rfl, rfl⟩) (by omega)
end LOOK
