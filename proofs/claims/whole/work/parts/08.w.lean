/-! SUMMARIES; TIDY -/
def mS1 (e : Int32) (j k : Nat) (g : Nat → Int32) : Nat → Int32 := if bt (g (74 + 21 * j + 5)) k = true then upd g (9 + 4 * k + 1) (mxI (g (9 + 4 * k + 1)) e) else g
def mS3 (e x : Int32) (k : Nat) (g : Nat → Int32) : Nat → Int32 := if (decide (x ≤ nI 0) || decide (e ≤ x)) = true then g else upd g (9 + 4 * k + 3) (if g (9 + 4 * k + 3) = nI 0 then x else mnI (g (9 + 4 * k + 3)) x)
def mS2 (e x : Int32) (j k : Nat) (g : Nat → Int32) : Nat → Int32 := if bt (g (74 + 21 * j + 6)) k = true then mS3 e x k (upd g (9 + 4 * k + 2) (mxI (g (9 + 4 * k + 2)) e)) else g
def mSm (f : Nat → Int32) (e x : Int32) (j : Nat) : Nat → Int32 := fo (fun k g => mS2 e x j k (mS1 e j k g)) 10 0 f
def mSumm (f : Nat → Int32) (j : Nat) : Nat → Int32 := mLeave (mSm f (f (74 + 21 * j + 3)) (sFst f j) j) j (nI 5)
theorem mS1_n {e : Int32} {j k l : Nat} {g : Nat → Int32} (h : l ≠ 9 + 4 * k + 1) : mS1 e j k g l = g l := by
  unfold mS1
  split
  · rw [ud_n h]
  · rfl
theorem mS3_n {e x : Int32} {k l : Nat} {g : Nat → Int32} (h : l ≠ 9 + 4 * k + 3) : mS3 e x k g l = g l := by
  unfold mS3
  split
  · rfl
  · rw [ud_n h]
theorem mS2_n {e x : Int32} {j k l : Nat} {g : Nat → Int32} (h : l ≠ 9 + 4 * k + 2) (h3 : l ≠ 9 + 4 * k + 3) : mS2 e x j k g l = g l := by
  unfold mS2
  split
  · rw [mS3_n h3, ud_n h]
  · rfl
theorem mSm_n {f : Nat → Int32} {e x : Int32} {j l : Nat} (h : l < 9 ∨ 49 ≤ l ∨ (l - 9) % 4 = 0) : mSm f e x j l = f l := by
  unfold mSm
  refine fo_pres (P := fun (g : Nat → Int32) => g l = f l) (fun k b _ hk hb => ?_) rfl
  rw [mS2_n (by omega) (by omega), mS1_n (by omega)]; exact hb
theorem m260_16 {K : Int32 → mS → Option mQ} {t : mS} {f : Nat → Int32} {j : Nat} {e x : Int32} (hj : j < 8) : q260_16 K 10000 (nI j) e x (nI 0) (wr t f) = K (nI j) (wr t (mSm f e x j)) := by
  unfold mSm
  refine lp_fo (Q := fun n f k => q260_16 K n (nI j) e x k (wr t f)) (out := fun f => K (nI j) (wr t f)) (fun n b => ?_) (fun n k b hk => ?_) f 10000 (by omega)
  · simp (disch := omega) only [q260_16, nI_lit, nI_add, pk_mul, nI_clp, nI_eqv, nI_lev, nI_ltv, nI_neg, nI_neg', nI_subv, Nat.add_zero, Nat.zero_add, Nat.mul_zero, Nat.reduceAdd, bN_rv, bM_ru, bV_rv, bV_rx, bU_ru, bU_rx, bN_ite, bM_ite, bV_ite, bU_ite, ↓bx_e, ↓sp_e, gA_ok, gZ_n, gB_0, gB_1, gB_i, and_true, and_false, true_and, false_and, decide_true, decide_false, ↓reduceIte, not_true_eq_false, not_false_eq_true, Bool.false_eq_true, Bool.true_eq_false, Bool.and_true, Bool.and_false, Bool.true_and, Bool.false_and, Bool.or_true, Bool.or_false, Bool.true_or, Bool.false_or, Bool.not_true, Bool.not_false, le_f, le_t, lt_f, lt_t, eq_f, ↓reduceIte, not_true_eq_false, not_false_eq_true, ite_10, bt_0, bt_1]
  · have e59 : ∀ g, q260_59 (q260_16 K n) (nI j) e x (nI k) (wr t g) = q260_16 K n (nI j) e x (nI (k + 1)) (wr t (mS2 e x j k g)) := by
      intro g
      unfold mS2 mS3
      simp (disch := omega) only [q260_59, q260_143, q260_142, wr_1, sI_wr, nI_lit, nI_add, pk_mul, nI_clp, nI_eqv, nI_lev, nI_ltv, nI_neg, nI_neg', nI_subv, Nat.add_zero, Nat.zero_add, Nat.mul_zero, Nat.reduceAdd, bN_rv, bM_ru, bV_rv, bV_rx, bU_ru, bU_rx, bN_ite, bM_ite, bV_ite, bU_ite, ↓bx_e, ↓sp_e, gA_ok, gZ_n, gB_0, gB_1, gB_i, and_true, and_false, true_and, false_and, decide_true, decide_false, ↓reduceIte, not_true_eq_false, not_false_eq_true, Bool.false_eq_true, Bool.true_eq_false, Bool.and_true, Bool.and_false, Bool.true_and, Bool.false_and, Bool.or_true, Bool.or_false, Bool.true_or, Bool.false_or, Bool.not_true, Bool.not_false, le_f, le_t, lt_f, lt_t, eq_f, ↓reduceIte, not_true_eq_false, not_false_eq_true, ite_10, bt_0, bt_1, q198, q199, q200, q201, q202, q203, q204, m190, m205, m206, b2_0, q189, q187]
      cases bt (g (74 + 21 * j + 6)) k
      · simp only [and_true, and_false, true_and, false_and, decide_true, decide_false, ↓reduceIte, not_true_eq_false, not_false_eq_true, Bool.false_eq_true, Bool.true_eq_false, Bool.and_true, Bool.and_false, Bool.true_and, Bool.false_and, Bool.or_true, Bool.or_false, Bool.true_or, Bool.false_or, Bool.not_true, Bool.not_false]
      · by_cases h1 : x ≤ nI 0 <;> by_cases h2 : e ≤ x <;> simp only [h1, h2, and_true, and_false, true_and, false_and, decide_true, decide_false, ↓reduceIte, not_true_eq_false, not_false_eq_true, Bool.false_eq_true, Bool.true_eq_false, Bool.and_true, Bool.and_false, Bool.true_and, Bool.false_and, Bool.or_true, Bool.or_false, Bool.true_or, Bool.false_or, Bool.not_true, Bool.not_false]
        by_cases h3 : upd g (9 + 4 * k + 2) (mxI (g (9 + 4 * k + 2)) e) (9 + 4 * k + 3) = nI 0 <;> simp only [h3, and_true, and_false, true_and, false_and, decide_true, decide_false, ↓reduceIte, not_true_eq_false, not_false_eq_true, Bool.false_eq_true, Bool.true_eq_false, Bool.and_true, Bool.and_false, Bool.true_and, Bool.false_and, Bool.or_true, Bool.or_false, Bool.true_or, Bool.false_or, Bool.not_true, Bool.not_false]
    unfold mS1
    simp (disch := omega) only [q260_16, wr_1, sI_wr, e59, nI_lit, nI_add, pk_mul, nI_clp, nI_eqv, nI_lev, nI_ltv, nI_neg, nI_neg', nI_subv, Nat.add_zero, Nat.zero_add, Nat.mul_zero, Nat.reduceAdd, bN_rv, bM_ru, bV_rv, bV_rx, bU_ru, bU_rx, bN_ite, bM_ite, bV_ite, bU_ite, ↓bx_e, ↓sp_e, gA_ok, gZ_n, gB_0, gB_1, gB_i, and_true, and_false, true_and, false_and, decide_true, decide_false, ↓reduceIte, not_true_eq_false, not_false_eq_true, Bool.false_eq_true, Bool.true_eq_false, Bool.and_true, Bool.and_false, Bool.true_and, Bool.false_and, Bool.or_true, Bool.or_false, Bool.true_or, Bool.false_or, Bool.not_true, Bool.not_false, le_f, le_t, lt_f, lt_t, eq_f, ↓reduceIte, not_true_eq_false, not_false_eq_true, ite_10, bt_0, bt_1, q198, q199, q200, q201, q202, q203, q204, m190, m205, m206, b2_0, q189, q187]
    cases bt (b (74 + 21 * j + 5)) k <;> simp only [and_true, and_false, true_and, false_and, decide_true, decide_false, ↓reduceIte, not_true_eq_false, not_false_eq_true, Bool.false_eq_true, Bool.true_eq_false, Bool.and_true, Bool.and_false, Bool.true_and, Bool.false_and, Bool.or_true, Bool.or_false, Bool.true_or, Bool.false_or, Bool.not_true, Bool.not_false]
theorem m260 {t : mS} {j : Nat} (hj : j < 8) : q260 (nI j) t = ru (wr t (mSumm (t.1 513) j)) := by
  unfold q260 mSumm
  simp (disch := omega) only [m251, nI_lit, nI_add, pk_mul, nI_clp, nI_eqv, nI_lev, nI_ltv, nI_neg, nI_neg', nI_subv, Nat.add_zero, Nat.zero_add, Nat.mul_zero, Nat.reduceAdd, bN_rv, bM_ru, bV_rv, bV_rx, bU_ru, bU_rx, bN_ite, bM_ite, bV_ite, bU_ite, ↓bx_e, ↓sp_e, gA_ok, gZ_n, gB_0, gB_1, gB_i, and_true, and_false, true_and, false_and, decide_true, decide_false, ↓reduceIte, not_true_eq_false, not_false_eq_true, Bool.false_eq_true, Bool.true_eq_false, Bool.and_true, Bool.and_false, Bool.true_and, Bool.false_and, Bool.or_true, Bool.or_false, Bool.true_or, Bool.false_or, Bool.not_true, Bool.not_false, le_f, le_t, lt_f, lt_t, eq_f, ↓reduceIte, not_true_eq_false, not_false_eq_true, ite_10, bt_0, bt_1, q198, q199, q200, q201, q202, q203, q204, m190, m205, m206, b2_0, q189, q187]
  conv => lhs; rw [← wr_s (t := t)]
  rw [m260_16 hj]
  unfold q260_149
  simp (disch := omega) only [m259, wr_1, wr_w, wr_s, nI_lit, nI_add, pk_mul, nI_clp, nI_eqv, nI_lev, nI_ltv, nI_neg, nI_neg', nI_subv, Nat.add_zero, Nat.zero_add, Nat.mul_zero, Nat.reduceAdd, bN_rv, bM_ru, bV_rv, bV_rx, bU_ru, bU_rx, bN_ite, bM_ite, bV_ite, bU_ite, ↓bx_e, ↓sp_e, gA_ok, gZ_n, gB_0, gB_1, gB_i, and_true, and_false, true_and, false_and, decide_true, decide_false, ↓reduceIte, not_true_eq_false, not_false_eq_true, Bool.false_eq_true, Bool.true_eq_false, Bool.and_true, Bool.and_false, Bool.true_and, Bool.false_and, Bool.or_true, Bool.or_false, Bool.true_or, Bool.false_or, Bool.not_true, Bool.not_false, le_f, le_t, lt_f, lt_t, eq_f, ↓reduceIte, not_true_eq_false, not_false_eq_true, ite_10, bt_0, bt_1, q198, q199, q200, q201, q202, q203, q204, m190, m205, m206, b2_0, q189, q187]
def mTd2 : Nat → (Nat → Int32) → (Nat → Int32)
  | 0, f => f
  | n + 1, f => if bc (sAll f (nI 2)) ≤ f 4 then f else match oOld f (sF f) with
    | none => f
    | some j => mTd2 n (mSumm f j)
theorem mTd2_k {f : Nat → Int32} {n : Nat} (h : bc (sAll f (nI 2)) ≤ f 4) : mTd2 (n + 1) f = f := by rw [mTd2, if_pos h]
theorem mTd2_s {f : Nat → Int32} {n j : Nat} (h : ¬ bc (sAll f (nI 2)) ≤ f 4) (h2 : oOld f (sF f) = some j) : mTd2 (n + 1) f = mTd2 n (mSumm f j) := by rw [mTd2, if_neg h, h2]
theorem sFm {f : Nat → Int32} {e x : Int32} {j k : Nat} : sF (mSm f e x j) k = sF f k := sF_c (mSm_n (by omega))
theorem sF_sm {f : Nat → Int32} {j k : Nat} (hk : k < 8) : sF (mSumm f j) k = (sF f k && !(decide (k = j))) := by
  unfold mSumm
  rw [(sX_le hk).2.1, sFm]
theorem sAll_0 {f : Nat → Int32} (h : ∀ k, k < 8 → sF f k = false) : sAll f (nI 2) = nI 0 := by
  apply bt_z
  intro j hj
  rw [bt_sAll]
  by_cases h8 : j < 8
  · have := h j h8
    unfold sF at this
    rw [this]; simp only [and_true, and_false, true_and, false_and, decide_true, decide_false, ↓reduceIte, not_true_eq_false, not_false_eq_true, Bool.false_eq_true, Bool.true_eq_false, Bool.and_true, Bool.and_false, Bool.true_and, Bool.false_and, Bool.or_true, Bool.or_false, Bool.true_or, Bool.false_or, Bool.not_true, Bool.not_false]
  · simp only [h8, and_true, and_false, true_and, false_and, decide_true, decide_false, ↓reduceIte, not_true_eq_false, not_false_eq_true, Bool.false_eq_true, Bool.true_eq_false, Bool.and_true, Bool.and_false, Bool.true_and, Bool.false_and, Bool.or_true, Bool.or_false, Bool.true_or, Bool.false_or, Bool.not_true, Bool.not_false]
theorem m261_93 : ∀ N (t : mS) n k, k ≤ 6 → (t.1 513) 4 = nI k → cF (t.1 513) 8 ≤ N → N < n → q261_93 n t = ru (wr t (mTd2 N (t.1 513))) := by
  intro N
  induction N with
  | zero =>
    intro t n k hk h4 hc hn
    cases n with
    | zero => omega
    | succ n =>
      have hz := sAll_0 (f := t.1 513) (fun j hj => cF_0 (f := t.1 513) 8 (by omega) j hj)
      have hb : (bc (nI 0) ≤ nI k) = True := by
        have : bc (nI 0) = nI 0 := by decide
        rw [this, nI_lev (by omega) (by omega)]; simp
      rw [q261_93]
      simp (disch := omega) only [m208, q343_e, hz, h4, hb, mTd2, wr_s, nI_lit, nI_add, pk_mul, nI_clp, nI_eqv, nI_lev, nI_ltv, nI_neg, nI_neg', nI_subv, Nat.add_zero, Nat.zero_add, Nat.mul_zero, Nat.reduceAdd, bN_rv, bM_ru, bV_rv, bV_rx, bU_ru, bU_rx, bN_ite, bM_ite, bV_ite, bU_ite, ↓bx_e, ↓sp_e, gA_ok, gZ_n, gB_0, gB_1, gB_i, and_true, and_false, true_and, false_and, decide_true, decide_false, ↓reduceIte, not_true_eq_false, not_false_eq_true, Bool.false_eq_true, Bool.true_eq_false, Bool.and_true, Bool.and_false, Bool.true_and, Bool.false_and, Bool.or_true, Bool.or_false, Bool.true_or, Bool.false_or, Bool.not_true, Bool.not_false, le_f, le_t, lt_f, lt_t, eq_f, ↓reduceIte, not_true_eq_false, not_false_eq_true, ite_10, bt_0, bt_1, q198, q199, q200, q201, q202, q203, q204, m190, m205, m206, b2_0, q189, q187]
  | succ N ih =>
    intro t n k hk h4 hc hn
    cases n with
    | zero => omega
    | succ n =>
      rw [q261_93]
      by_cases hq : bc (sAll (t.1 513) (nI 2)) ≤ t.1 513 4
      · rw [mTd2_k hq]
        simp (disch := omega) only [m208, q343_e, hq, wr_s, nI_lit, nI_add, pk_mul, nI_clp, nI_eqv, nI_lev, nI_ltv, nI_neg, nI_neg', nI_subv, Nat.add_zero, Nat.zero_add, Nat.mul_zero, Nat.reduceAdd, bN_rv, bM_ru, bV_rv, bV_rx, bU_ru, bU_rx, bN_ite, bM_ite, bV_ite, bU_ite, ↓bx_e, ↓sp_e, gA_ok, gZ_n, gB_0, gB_1, gB_i, and_true, and_false, true_and, false_and, decide_true, decide_false, ↓reduceIte, not_true_eq_false, not_false_eq_true, Bool.false_eq_true, Bool.true_eq_false, Bool.and_true, Bool.and_false, Bool.true_and, Bool.false_and, Bool.or_true, Bool.or_false, Bool.true_or, Bool.false_or, Bool.not_true, Bool.not_false, le_f, le_t, lt_f, lt_t, eq_f, ↓reduceIte, not_true_eq_false, not_false_eq_true, ite_10, bt_0, bt_1, q198, q199, q200, q201, q202, q203, q204, m190, m205, m206, b2_0, q189, q187]
      · have ho : oOld (t.1 513) (fun i => bt (sAll (t.1 513) (nI 2)) i) = oOld (t.1 513) (sF (t.1 513)) := oOld_c (fun k hk => by rw [bt_sAll]; unfold sF; simp only [hk, and_true, and_false, true_and, false_and, decide_true, decide_false, ↓reduceIte, not_true_eq_false, not_false_eq_true, Bool.false_eq_true, Bool.true_eq_false, Bool.and_true, Bool.and_false, Bool.true_and, Bool.false_and, Bool.or_true, Bool.or_false, Bool.true_or, Bool.false_or, Bool.not_true, Bool.not_false])
        cases e : oOld (t.1 513) (sF (t.1 513)) with
        | none =>
          have hz := sAll_0 (oOld_n e)
          rw [hz, h4, show bc (nI 0) = nI 0 by decide, nI_lev (by omega) (by omega)] at hq
          omega
        | some j =>
          obtain ⟨a1, a2, -, -⟩ := oOld_s e
          rw [mTd2_s hq e]
          simp (disch := omega) only [m208, q343_e, hq, m258, ho, e, oI_s, m260, nI_lit, nI_add, pk_mul, nI_clp, nI_eqv, nI_lev, nI_ltv, nI_neg, nI_neg', nI_subv, Nat.add_zero, Nat.zero_add, Nat.mul_zero, Nat.reduceAdd, bN_rv, bM_ru, bV_rv, bV_rx, bU_ru, bU_rx, bN_ite, bM_ite, bV_ite, bU_ite, ↓bx_e, ↓sp_e, gA_ok, gZ_n, gB_0, gB_1, gB_i, and_true, and_false, true_and, false_and, decide_true, decide_false, ↓reduceIte, not_true_eq_false, not_false_eq_true, Bool.false_eq_true, Bool.true_eq_false, Bool.and_true, Bool.and_false, Bool.true_and, Bool.false_and, Bool.or_true, Bool.or_false, Bool.true_or, Bool.false_or, Bool.not_true, Bool.not_false, le_f, le_t, lt_f, lt_t, eq_f, ↓reduceIte, not_true_eq_false, not_false_eq_true, ite_10, bt_0, bt_1, q198, q199, q200, q201, q202, q203, q204, m190, m205, m206, b2_0, q189, q187]
          have := ih (wr t (mSumm (t.1 513) j)) n k hk ?_ ?_ (by omega)
          · rw [wr_1, wr_w] at this; exact this
          · rw [wr_1]
            unfold mSumm
            rw [mLe_n a1 (by omega) (by omega), mSm_n (by omega)]; exact h4
          · rw [wr_1]
            have := cF_lv a1 a2 (g := mSumm (t.1 513) j) (fun k hk => sF_sm hk) 8 (by omega)
            rw [if_pos a1] at this
            omega
def mTidy (f : Nat → Int32) : Nat → Int32 := mTd2 8 (mTd1 8 f)
theorem mTd1_4 : ∀ n (f : Nat → Int32), mTd1 n f 4 = f 4 := by
  intro n
  induction n with
  | zero => intro f; rfl
  | succ n ih =>
    intro f
    cases e : oOld f (sDn f) with
    | none => rw [mTd1_n e]
    | some j => rw [mTd1_s e, ih, mLe_n (oOld_s e).1 (by omega) (by omega)]
theorem m261 {t : mS} {k : Nat} (hk : k ≤ 6) (h4 : t.1 513 4 = nI k) : q261 t = ru (wr t (mTidy (t.1 513))) := by
  unfold q261 mTidy
  rw [nI_lit, nI_lit, m208]
  simp only [bN_rv]
  rw [m261_8, m261_65 8 t _ 10000 (cF_le 8) ?_ (by omega), m261_93 8 _ 10000 k hk ?_ (cF_le 8) (by omega), wr_1, wr_w]
  · rw [wr_1, mTd1_4]; exact h4
  · intro j
    rw [gDn_o 8 0 _ j (by omega), bt_sAll]
    unfold sDn sF
    by_cases h8 : j < 8
    · rw [decide_eq_true (show 0 ≤ j ∧ j < 0 + 8 by omega)]; simp only [h8, and_true, and_false, true_and, false_and, decide_true, decide_false, ↓reduceIte, not_true_eq_false, not_false_eq_true, Bool.false_eq_true, Bool.true_eq_false, Bool.and_true, Bool.and_false, Bool.true_and, Bool.false_and, Bool.or_true, Bool.or_false, Bool.true_or, Bool.false_or, Bool.not_true, Bool.not_false]
    · simp only [h8, and_true, and_false, true_and, false_and, decide_true, decide_false, ↓reduceIte, not_true_eq_false, not_false_eq_true, Bool.false_eq_true, Bool.true_eq_false, Bool.and_true, Bool.and_false, Bool.true_and, Bool.false_and, Bool.or_true, Bool.or_false, Bool.true_or, Bool.false_or, Bool.not_true, Bool.not_false]
