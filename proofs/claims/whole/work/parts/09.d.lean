/-! HISTORY -/
def hN (f : Nat → Int32) : Nat := (f 7).toNatClampNeg
/-- the row that is told, of slot i -/
def hRow (f : Nat → Int32) (i d : Nat) : Int32 := if d = 0 then f (74 + 21 * i + 1) else if d = 1 then f (74 + 21 * i + 3) else if d = 2 then f (74 + 21 * i + 4) else if d = 3 then f (74 + 21 * i + 6) else if d < 14 then f (74 + 21 * i + 11 + (d - 4)) else f (9 + 4 * (d - 14))
def hAt (f : Nat → Int32) : Nat := if hN f = 12 then 11 else hN f
def hSh (f : Nat → Int32) : Nat → Int32 := fun j => if j = 7 then nI (hAt f + 1) else if hN f = 12 ∧ 242 ≤ j ∧ j < 506 then f (j + 24) else f j
def mHis (f : Nat → Int32) (i : Nat) : Nat → Int32 := fun j => if 242 + 24 * hAt f ≤ j ∧ j < 242 + 24 * hAt f + 24 then hRow f i (j - (242 + 24 * hAt f)) else hSh f j
theorem hSh_n {f : Nat → Int32} {j : Nat} (h : j ≠ 7) (h2 : j < 242 ∨ 506 ≤ j) : hSh f j = f j := by
  unfold hSh; rw [if_neg h, if_neg (by omega)]
theorem mHis_n {f : Nat → Int32} {i j : Nat} (hn : hN f ≤ 12) (h : j ≠ 7) (h2 : j < 242 ∨ 530 ≤ j) : mHis f i j = f j := by
  unfold mHis
  have : hAt f ≤ 11 := by unfold hAt; split <;> omega
  rw [if_neg (by omega), hSh_n h (by omega)]
theorem mHis_7 {f : Nat → Int32} {i : Nat} : mHis f i 7 = nI (hAt f + 1) := by
  unfold mHis; rw [if_neg (by omega)]; rfl
theorem mHis_r {f : Nat → Int32} {i d : Nat} (h : d < 24) : mHis f i (242 + 24 * hAt f + d) = hRow f i d := by
  unfold mHis; rw [if_pos (by omega), show 242 + 24 * hAt f + d - (242 + 24 * hAt f) = d by omega]
def hS2 (f : Nat → Int32) (i : Nat) : Nat → Int32 := fun j => if 242 ≤ j ∧ j < 242 + i then f (j + 24) else f j
theorem hS2_o {f : Nat → Int32} {i j : Nat} (h : j < 242 ∨ 242 + i ≤ j) : hS2 f i j = f j := by unfold hS2; rw [if_neg (by omega)]
theorem hS2_i {f : Nat → Int32} {i j : Nat} (h : 242 ≤ j) (h2 : j < 242 + i) : hS2 f i j = f (j + 24) := by unfold hS2; rw [if_pos ⟨h, h2⟩]
theorem m267_14 {K : Int32 → mS → Option mQ} {t : mS} {f : Nat → Int32} {v : Int32} : ∀ m i n, i + m = 264 → m < n → q267_14 K n v (nI i) (wr t (hS2 f i)) = K v (wr t (hS2 f 264)) := by
  intro m
  induction m with
  | zero =>
    intro i n h1 h2
    cases n with
    | zero => omega
    | succ n =>
      have : i = 264 := by omega
      subst this
      simp (disch := omega) only [q267_14, nI_lit, nI_add, pk_mul, nI_clp, nI_eqv, nI_lev, nI_ltv, nI_neg, nI_neg', nI_subv, Nat.add_zero, Nat.zero_add, Nat.mul_zero, Nat.reduceAdd, bN_rv, bM_ru, bV_rv, bV_rx, bU_ru, bU_rx, bN_ite, bM_ite, bV_ite, bU_ite, ↓bx_e, ↓sp_e, gA_ok, gZ_n, gB_0, gB_1, gB_i, and_true, and_false, true_and, false_and, decide_true, decide_false, ↓reduceIte, not_true_eq_false, not_false_eq_true, Bool.false_eq_true, Bool.true_eq_false, Bool.and_true, Bool.and_false, Bool.true_and, Bool.false_and, Bool.or_true, Bool.or_false, Bool.true_or, Bool.false_or, Bool.not_true, Bool.not_false, le_f, le_t, lt_f, lt_t, eq_f, ↓reduceIte, not_true_eq_false, not_false_eq_true, ite_10, bt_0, bt_1]
  | succ m ih =>
    intro i n h1 h2
    cases n with
    | zero => omega
    | succ n =>
      rw [q267_14]
      simp (disch := omega) only [wr_1, sI_wr, hS2_o, nI_lit, nI_add, pk_mul, nI_clp, nI_eqv, nI_lev, nI_ltv, nI_neg, nI_neg', nI_subv, Nat.add_zero, Nat.zero_add, Nat.mul_zero, Nat.reduceAdd, bN_rv, bM_ru, bV_rv, bV_rx, bU_ru, bU_rx, bN_ite, bM_ite, bV_ite, bU_ite, ↓bx_e, ↓sp_e, gA_ok, gZ_n, gB_0, gB_1, gB_i, and_true, and_false, true_and, false_and, decide_true, decide_false, ↓reduceIte, not_true_eq_false, not_false_eq_true, Bool.false_eq_true, Bool.true_eq_false, Bool.and_true, Bool.and_false, Bool.true_and, Bool.false_and, Bool.or_true, Bool.or_false, Bool.true_or, Bool.false_or, Bool.not_true, Bool.not_false, le_f, le_t, lt_f, lt_t, eq_f, ↓reduceIte, not_true_eq_false, not_false_eq_true, ite_10, bt_0, bt_1]
      rw [← ih (i + 1) n (by omega) (by omega)]
      congr 2
      funext j
      by_cases e : j = 242 + i
      · rw [ud_e e, hS2_i (by omega) (by omega), e]
      · rw [ud_n e]
        by_cases e2 : 242 ≤ j ∧ j < 242 + i
        · rw [hS2_i e2.1 e2.2, hS2_i (by omega) (by omega)]
        · rw [hS2_o (by omega), hS2_o (by omega)]
/-- the row as far as it is told -/
def hPt (f g : Nat → Int32) (i A m : Nat) : Nat → Int32 := fun j => if 242 + 24 * A ≤ j ∧ j < 242 + 24 * A + 4 then hRow f i (j - (242 + 24 * A)) else if 242 + 24 * A + 4 ≤ j ∧ j < 242 + 24 * A + 4 + m then hRow f i (j - (242 + 24 * A)) else if 242 + 24 * A + 14 ≤ j ∧ j < 242 + 24 * A + 14 + m then hRow f i (j - (242 + 24 * A)) else g j
theorem m267_137 {t : mS} {f g : Nat → Int32} {i A : Nat} (hi : i < 8) (hA : A < 12) (hg : ∀ j, j ≠ 7 → j < 242 → g j = f j) : ∀ m k n, k + m = 10 → m < n → q267_137 n (nI i) (nI (242 + 24 * A)) (nI k) (wr t (hPt f g i A k)) = ru (wr t (hPt f g i A 10)) := by
  intro m
  induction m with
  | zero =>
    intro k n h1 h2
    cases n with
    | zero => omega
    | succ n =>
      have : k = 10 := by omega
      subst this
      simp (disch := omega) only [q267_137, nI_lit, nI_add, pk_mul, nI_clp, nI_eqv, nI_lev, nI_ltv, nI_neg, nI_neg', nI_subv, Nat.add_zero, Nat.zero_add, Nat.mul_zero, Nat.reduceAdd, bN_rv, bM_ru, bV_rv, bV_rx, bU_ru, bU_rx, bN_ite, bM_ite, bV_ite, bU_ite, ↓bx_e, ↓sp_e, gA_ok, gZ_n, gB_0, gB_1, gB_i, and_true, and_false, true_and, false_and, decide_true, decide_false, ↓reduceIte, not_true_eq_false, not_false_eq_true, Bool.false_eq_true, Bool.true_eq_false, Bool.and_true, Bool.and_false, Bool.true_and, Bool.false_and, Bool.or_true, Bool.or_false, Bool.true_or, Bool.false_or, Bool.not_true, Bool.not_false, le_f, le_t, lt_f, lt_t, eq_f, ↓reduceIte, not_true_eq_false, not_false_eq_true, ite_10, bt_0, bt_1]
  | succ m ih =>
    intro k n h1 h2
    cases n with
    | zero => omega
    | succ n =>
      have e1 : hPt f g i A k (74 + 21 * i + (11 + k)) = f (74 + 21 * i + 11 + k) := by
        unfold hPt
        rw [if_neg (by omega), if_neg (by omega), if_neg (by omega), hg _ (by omega) (by omega), show 74 + 21 * i + (11 + k) = 74 + 21 * i + 11 + k by omega]
      have e2 : hPt f g i A k (9 + 4 * k) = f (9 + 4 * k) := by
        unfold hPt
        rw [if_neg (by omega), if_neg (by omega), if_neg (by omega), hg _ (by omega) (by omega)]
      rw [q267_137]
      simp (disch := omega) only [wr_1, sI_wr, e1, e2, ud_n, nI_lit, nI_add, pk_mul, nI_clp, nI_eqv, nI_lev, nI_ltv, nI_neg, nI_neg', nI_subv, Nat.add_zero, Nat.zero_add, Nat.mul_zero, Nat.reduceAdd, bN_rv, bM_ru, bV_rv, bV_rx, bU_ru, bU_rx, bN_ite, bM_ite, bV_ite, bU_ite, ↓bx_e, ↓sp_e, gA_ok, gZ_n, gB_0, gB_1, gB_i, and_true, and_false, true_and, false_and, decide_true, decide_false, ↓reduceIte, not_true_eq_false, not_false_eq_true, Bool.false_eq_true, Bool.true_eq_false, Bool.and_true, Bool.and_false, Bool.true_and, Bool.false_and, Bool.or_true, Bool.or_false, Bool.true_or, Bool.false_or, Bool.not_true, Bool.not_false, le_f, le_t, lt_f, lt_t, eq_f, ↓reduceIte, not_true_eq_false, not_false_eq_true, ite_10, bt_0, bt_1, q198, q199, q200, q201, q202, q203, q204, m190, m205, m206, b2_0, q189, q187]
      rw [← ih (k + 1) n (by omega) (by omega)]
      congr 2
      funext j
      unfold upd hPt
      by_cases q1 : j = 242 + 24 * A + 14 + k
      · rw [if_pos q1, if_neg (by omega), if_neg (by omega), if_pos (by omega)]
        unfold hRow
        rw [if_neg (by omega), if_neg (by omega), if_neg (by omega), if_neg (by omega), if_neg (by omega), show j - (242 + 24 * A) - 14 = k by omega]
      · rw [if_neg q1]
        by_cases q2 : j = 242 + 24 * A + 4 + k
        · rw [if_pos q2, if_neg (by omega), if_pos (by omega)]
          unfold hRow
          rw [if_neg (by omega), if_neg (by omega), if_neg (by omega), if_neg (by omega), if_pos (by omega), show j - (242 + 24 * A) - 4 = k by omega]
        · rw [if_neg q2]
          by_cases q3 : 242 + 24 * A ≤ j ∧ j < 242 + 24 * A + 4
          · rw [if_pos q3, if_pos q3]
          · rw [if_neg q3, if_neg q3]
            by_cases q4 : 242 + 24 * A + 4 ≤ j ∧ j < 242 + 24 * A + 4 + k
            · rw [if_pos q4, if_pos (by omega)]
            · by_cases q5 : 242 + 24 * A + 14 ≤ j ∧ j < 242 + 24 * A + 14 + k
              · rw [if_neg q4, if_pos q5, if_neg (by omega), if_pos (by omega)]
              · rw [if_neg q4, if_neg q5, if_neg (by omega), if_neg (by omega)]
theorem m267_64 {t : mS} {f g : Nat → Int32} {i A : Nat} (hi : i < 8) (hA : A < 12) (h7 : g 7 = nI (A + 1)) (hg : ∀ j, j ≠ 7 → j < 242 → g j = f j) : q267_64 (nI i) (wr t g) = ru (wr t (fun j => if 242 + 24 * A ≤ j ∧ j < 242 + 24 * A + 24 then hRow f i (j - (242 + 24 * A)) else g j)) := by
  unfold q267_64
  simp (disch := omega) only [wr_1, sI_wr, h7, q266, Nat.add_sub_cancel, ud_n, hg, nI_lit, nI_add, pk_mul, nI_clp, nI_eqv, nI_lev, nI_ltv, nI_neg, nI_neg', nI_subv, Nat.add_zero, Nat.zero_add, Nat.mul_zero, Nat.reduceAdd, bN_rv, bM_ru, bV_rv, bV_rx, bU_ru, bU_rx, bN_ite, bM_ite, bV_ite, bU_ite, ↓bx_e, ↓sp_e, gA_ok, gZ_n, gB_0, gB_1, gB_i, and_true, and_false, true_and, false_and, decide_true, decide_false, ↓reduceIte, not_true_eq_false, not_false_eq_true, Bool.false_eq_true, Bool.true_eq_false, Bool.and_true, Bool.and_false, Bool.true_and, Bool.false_and, Bool.or_true, Bool.or_false, Bool.true_or, Bool.false_or, Bool.not_true, Bool.not_false, le_f, le_t, lt_f, lt_t, eq_f, ↓reduceIte, not_true_eq_false, not_false_eq_true, ite_10, bt_0, bt_1, q198, q199, q200, q201, q202, q203, q204, m190, m205, m206, b2_0, q189, q187]
  have e : upd (upd (upd (upd g (242 + 24 * A) (f (74 + 21 * i + 1))) (242 + 24 * A + 1) (f (74 + 21 * i + 3))) (242 + 24 * A + 2) (f (74 + 21 * i + 4))) (242 + 24 * A + 3) (f (74 + 21 * i + 6)) = hPt f g i A 0 := by
    funext j
    unfold upd hPt hRow
    by_cases q3 : j = 242 + 24 * A + 3
    · rw [if_pos q3, if_pos (by omega), if_neg (by omega), if_neg (by omega), if_neg (by omega), if_pos (by omega)]
    · rw [if_neg q3]
      by_cases q2 : j = 242 + 24 * A + 2
      · rw [if_pos q2, if_pos (by omega), if_neg (by omega), if_neg (by omega), if_pos (by omega)]
      · rw [if_neg q2]
        by_cases q1 : j = 242 + 24 * A + 1
        · rw [if_pos q1, if_pos (by omega), if_neg (by omega), if_pos (by omega)]
        · rw [if_neg q1]
          by_cases q0 : j = 242 + 24 * A
          · rw [if_pos q0, if_pos (by omega), if_pos (by omega)]
          · rw [if_neg q0, if_neg (by omega), if_neg (by omega), if_neg (by omega)]
  rw [e, m267_137 hi hA hg 10 0 10000 (by omega) (by omega)]
  congr 2
  funext j
  unfold hPt
  by_cases q3 : 242 + 24 * A ≤ j ∧ j < 242 + 24 * A + 24
  · rw [if_pos q3]
    by_cases q4 : 242 + 24 * A ≤ j ∧ j < 242 + 24 * A + 4
    · rw [if_pos q4]
    · rw [if_neg q4]
      by_cases q5 : 242 + 24 * A + 4 ≤ j ∧ j < 242 + 24 * A + 4 + 10
      · rw [if_pos q5]
      · rw [if_neg q5, if_pos (by omega)]
  · rw [if_neg q3, if_neg (by omega), if_neg (by omega), if_neg (by omega)]
theorem m267 {t : mS} {f : Nat → Int32} (hf : t.1 513 = f) {i : Nat} (hi : i < 8) (hn : hN f ≤ 12) (h7 : f 7 = nI (hN f)) : q267 (nI i) t = ru (wr t (mHis f i)) := by
  unfold q267
  simp (disch := omega) only [hf, h7, nI_lit, nI_add, pk_mul, nI_clp, nI_eqv, nI_lev, nI_ltv, nI_neg, nI_neg', nI_subv, Nat.add_zero, Nat.zero_add, Nat.mul_zero, Nat.reduceAdd, bN_rv, bM_ru, bV_rv, bV_rx, bU_ru, bU_rx, bN_ite, bM_ite, bV_ite, bU_ite, ↓bx_e, ↓sp_e, gA_ok, gZ_n, gB_0, gB_1, gB_i, and_true, and_false, true_and, false_and, decide_true, decide_false, ↓reduceIte, not_true_eq_false, not_false_eq_true, Bool.false_eq_true, Bool.true_eq_false, Bool.and_true, Bool.and_false, Bool.true_and, Bool.false_and, Bool.or_true, Bool.or_false, Bool.true_or, Bool.false_or, Bool.not_true, Bool.not_false, le_f, le_t, lt_f, lt_t, eq_f, ↓reduceIte, not_true_eq_false, not_false_eq_true, ite_10, bt_0, bt_1, q198, q199, q200, q201, q202, q203, q204, m190, m205, m206, b2_0, q189, q187]
  by_cases h12 : hN f = 12
  · simp (disch := omega) only [h12, nI_lit, nI_add, pk_mul, nI_clp, nI_eqv, nI_lev, nI_ltv, nI_neg, nI_neg', nI_subv, Nat.add_zero, Nat.zero_add, Nat.mul_zero, Nat.reduceAdd, bN_rv, bM_ru, bV_rv, bV_rx, bU_ru, bU_rx, bN_ite, bM_ite, bV_ite, bU_ite, ↓bx_e, ↓sp_e, gA_ok, gZ_n, gB_0, gB_1, gB_i, and_true, and_false, true_and, false_and, decide_true, decide_false, ↓reduceIte, not_true_eq_false, not_false_eq_true, Bool.false_eq_true, Bool.true_eq_false, Bool.and_true, Bool.and_false, Bool.true_and, Bool.false_and, Bool.or_true, Bool.or_false, Bool.true_or, Bool.false_or, Bool.not_true, Bool.not_false, le_f, le_t, lt_f, lt_t, eq_f, ↓reduceIte, not_true_eq_false, not_false_eq_true, ite_10, bt_0, bt_1, q198, q199, q200, q201, q202, q203, q204, m190, m205, m206, b2_0, q189, q187]
    have e0 : t = wr t (hS2 f 0) := by
      have : hS2 f 0 = t.1 513 := by
        funext j; rw [hS2_o (by omega), hf]
      rw [this, wr_s]
    conv => lhs; rw [e0]
    rw [m267_14 264 0 10000 (by omega) (by omega)]
    unfold q267_50
    have hA : hAt f = 11 := by unfold hAt; rw [if_pos h12]
    rw [m267_64 (f := f) (A := 11) hi (by omega) (by rw [hS2_o (by omega), h7, h12]) (fun j _ h2 => hS2_o (by omega))]
    congr 2
    funext j
    unfold mHis hSh
    rw [hA]
    by_cases q : 242 + 24 * 11 ≤ j ∧ j < 242 + 24 * 11 + 24
    · rw [if_pos q, if_pos q]
    · rw [if_neg q, if_neg q]
      by_cases q7 : j = 7
      · rw [if_pos q7, hS2_o (by omega), q7, h7, h12]
      · rw [if_neg q7]
        by_cases q8 : 242 ≤ j ∧ j < 242 + 264
        · rw [hS2_i q8.1 q8.2, if_pos (by omega)]
        · rw [hS2_o (by omega), if_neg (by omega)]
  · simp (disch := omega) only [h12, nI_lit, nI_add, pk_mul, nI_clp, nI_eqv, nI_lev, nI_ltv, nI_neg, nI_neg', nI_subv, Nat.add_zero, Nat.zero_add, Nat.mul_zero, Nat.reduceAdd, bN_rv, bM_ru, bV_rv, bV_rx, bU_ru, bU_rx, bN_ite, bM_ite, bV_ite, bU_ite, ↓bx_e, ↓sp_e, gA_ok, gZ_n, gB_0, gB_1, gB_i, and_true, and_false, true_and, false_and, decide_true, decide_false, ↓reduceIte, not_true_eq_false, not_false_eq_true, Bool.false_eq_true, Bool.true_eq_false, Bool.and_true, Bool.and_false, Bool.true_and, Bool.false_and, Bool.or_true, Bool.or_false, Bool.true_or, Bool.false_or, Bool.not_true, Bool.not_false, le_f, le_t, lt_f, lt_t, eq_f, ↓reduceIte, not_true_eq_false, not_false_eq_true, ite_10, bt_0, bt_1, q198, q199, q200, q201, q202, q203, q204, m190, m205, m206, b2_0, q189, q187]
    have hA : hAt f = hN f := by unfold hAt; rw [if_neg h12]
    rw [sI_w0, hf, m267_64 (f := f) (A := hN f) hi (by omega) (ud_e rfl) (fun j h1 _ => ud_n h1)]
    congr 2
    funext j
    unfold mHis hSh
    rw [hA]
    by_cases q : 242 + 24 * hN f ≤ j ∧ j < 242 + 24 * hN f + 24
    · rw [if_pos q, if_pos q]
    · rw [if_neg q, if_neg q]
      by_cases q7 : j = 7
      · rw [if_pos q7, ud_e q7]
      · rw [if_neg q7, ud_n q7, if_neg (by omega)]
theorem p15 {s : mS} {y b c : Nat} {f : Nat → Int32} (h : RH s y f) {i : Nat} (hi : i < 8) (h1 : s.1 (b + 1) i = f (74 + 21 * i + 1)) (h3 : s.1 (b + 3) i = f (74 + 21 * i + 3)) (h4 : s.1 (b + 4) i = f (74 + 21 * i + 4)) (h6 : s.1 (b + 6) i = f (74 + 21 * i + 6))
    (h11 : ∀ k, k < 10 → s.1 (b + 11) (10 * i + k) = f (74 + 21 * i + 11 + k)) (hv : ∀ k, k < 10 → s.1 c k = f (9 + 4 * k)) (hb : b + 12 ≤ y) (hc : y + 7 ≤ c) : hN f ≤ 12 ∧ f 7 = nI (hN f) ∧ ∃ s', q15 y b c (nI i) s = ru s' ∧ RH s' y (mHis f i) ∧ Fr y 7 s s' := by
  obtain ⟨n, o, hn, ho, e7, e0, e1, er⟩ := h
  have hNn : hN f = n := by unfold hN; rw [e7, nI_clp (by omega)]
  refine ⟨by omega, by rw [hNn]; exact e7, ?_⟩
  -- the row is laid at p, in a state whose rows and oldest are told
  have key : ∀ (s0 : mS) (A o' p : Nat), (∀ d, d ≠ y → s0.1 d = s.1 d) → s0.2 = s.2 → s0.1 y 0 = nI (A + 1) → s0.1 y 1 = nI o' → A < 12 → o' < 12 → p < 12 → hAt f = A → (o' + A) % 12 = p →
      (∀ r, r < A → (o' + r) % 12 ≠ p ∧ (s.1 (y + 1) ((o' + r) % 12) = hSh f (242 + 24 * r) ∧ s.1 (y + 2) ((o' + r) % 12) = hSh f (242 + 24 * r + 1) ∧ s.1 (y + 3) ((o' + r) % 12) = hSh f (242 + 24 * r + 2) ∧ s.1 (y + 4) ((o' + r) % 12) = hSh f (242 + 24 * r + 3) ∧
        ∀ k, k < 10 → s.1 (y + 5) (10 * ((o' + r) % 12) + k) = hSh f (242 + 24 * r + 4 + k) ∧ s.1 (y + 6) (10 * ((o' + r) % 12) + k) = hSh f (242 + 24 * r + 14 + k))) →
      ∃ s', q15_41 y b c (nI i) (nI p) s0 = ru s' ∧ RH s' y (mHis f i) ∧ Fr y 7 s s' := by
    intro s0 A o' p g1 g2 g3 g4 hA ho' hp hAt' hpA hr
    refine ⟨?w, ?x, ?y⟩
    case x =>
      unfold q15_41
      simp (disch := omega) only [gC_ok, nI_lit, nI_add, pk_mul, nI_clp, nI_eqv, nI_lev, nI_ltv, nI_neg, nI_neg', nI_subv, Nat.add_zero, Nat.zero_add, Nat.mul_zero, Nat.reduceAdd, bN_rv, bM_ru, bV_rv, bV_rx, bU_ru, bU_rx, bN_ite, bM_ite, bV_ite, bU_ite, ↓bx_e, ↓sp_e, gA_ok, gZ_n, gB_0, gB_1, gB_i, and_true, and_false, true_and, false_and, decide_true, decide_false, ↓reduceIte, not_true_eq_false, not_false_eq_true, Bool.false_eq_true, Bool.true_eq_false, Bool.and_true, Bool.and_false, Bool.true_and, Bool.false_and, Bool.or_true, Bool.or_false, Bool.true_or, Bool.false_or, Bool.not_true, Bool.not_false, le_f, le_t, lt_f, lt_t, eq_f, ↓reduceIte, not_true_eq_false, not_false_eq_true, ite_10, bt_0, bt_1]
      rfl
    case y =>
      refine ⟨⟨A + 1, o', by omega, ho', by rw [mHis_7, hAt'], ?_, ?_, fun r hr' => ?_⟩, fun d hd => ?_, g2⟩
      · simp (disch := omega) only [sC_at, sI_at, eq_f, ↓reduceIte]; exact g3
      · simp (disch := omega) only [sC_at, sI_at, eq_f, ↓reduceIte]; exact g4
      · by_cases eA : r = A
        · subst eA
          rw [hpA]
          have hh : ∀ d, d < 24 → mHis f i (242 + 24 * r + d) = hRow f i d := by
            intro d hd
            have := mHis_r (f := f) (i := i) hd
            rw [hAt'] at this; exact this
          refine ⟨?_, ?_, ?_, ?_, fun k hk => ⟨?_, ?_⟩⟩
          · rw [show 242 + 24 * r = 242 + 24 * r + 0 by omega, hh 0 (by omega)]
            simp (disch := omega) only [sC_at, sI_at, eq_f, ↓reduceIte, g1]; rw [h1]; rfl
          · rw [hh 1 (by omega)]
            simp (disch := omega) only [sC_at, sI_at, eq_f, ↓reduceIte, g1]; rw [h3]; rfl
          · rw [hh 2 (by omega)]
            simp (disch := omega) only [sC_at, sI_at, eq_f, ↓reduceIte, g1]; rw [h4]; rfl
          · rw [hh 3 (by omega)]
            simp (disch := omega) only [sC_at, sI_at, eq_f, ↓reduceIte, g1]; rw [h6]; rfl
          · rw [show 242 + 24 * r + 4 + k = 242 + 24 * r + (4 + k) by omega, hh (4 + k) (by omega)]
            simp (disch := omega) only [sC_at, sI_at, eq_f, ↓reduceIte, g1]
            rw [if_pos (by omega), show i * 10 + (10 * p + k - p * 10) = 10 * i + k by omega, h11 k hk]
            unfold hRow
            rw [if_neg (by omega), if_neg (by omega), if_neg (by omega), if_neg (by omega), if_pos (by omega), show 4 + k - 4 = k by omega]
          · rw [show 242 + 24 * r + 14 + k = 242 + 24 * r + (14 + k) by omega, hh (14 + k) (by omega)]
            simp (disch := omega) only [sC_at, sI_at, eq_f, ↓reduceIte, g1]
            rw [if_pos (by omega), show 0 + (10 * p + k - p * 10) = k by omega, hv k hk]
            unfold hRow
            rw [if_neg (by omega), if_neg (by omega), if_neg (by omega), if_neg (by omega), if_neg (by omega), show 14 + k - 14 = k by omega]
        · obtain ⟨hne, q1, q2, q3, q4, q5⟩ := hr r (by omega)
          have hh : ∀ d, d < 24 → mHis f i (242 + 24 * r + d) = hSh f (242 + 24 * r + d) := by
            intro d hd
            unfold mHis
            rw [if_neg (by omega)]
          refine ⟨?_, ?_, ?_, ?_, fun k hk => ⟨?_, ?_⟩⟩
          · have := hh 0 (by omega)
            rw [Nat.add_zero] at this
            rw [this]; simp (disch := omega) only [sC_at, sI_at, eq_f, hne, ↓reduceIte, g1]; exact q1
          · rw [hh 1 (by omega)]; simp (disch := omega) only [sC_at, sI_at, eq_f, hne, ↓reduceIte, g1]; exact q2
          · rw [hh 2 (by omega)]; simp (disch := omega) only [sC_at, sI_at, eq_f, hne, ↓reduceIte, g1]; exact q3
          · rw [hh 3 (by omega)]; simp (disch := omega) only [sC_at, sI_at, eq_f, hne, ↓reduceIte, g1]; exact q4
          · rw [show 242 + 24 * r + 4 + k = 242 + 24 * r + (4 + k) by omega, hh (4 + k) (by omega), show 242 + 24 * r + (4 + k) = 242 + 24 * r + 4 + k by omega]
            simp (disch := omega) only [sC_at, sI_at, eq_f, ↓reduceIte, g1]
            rw [if_neg (by omega)]; exact (q5 k hk).1
          · rw [show 242 + 24 * r + 14 + k = 242 + 24 * r + (14 + k) by omega, hh (14 + k) (by omega), show 242 + 24 * r + (14 + k) = 242 + 24 * r + 14 + k by omega]
            simp (disch := omega) only [sC_at, sI_at, eq_f, ↓reduceIte, g1]
            rw [if_neg (by omega)]; exact (q5 k hk).2
      · funext j
        simp (disch := omega) only [sC_at, sI_at, eq_f, ↓reduceIte, g1]
  unfold q15
  simp (disch := omega) only [q14, e0, e1, nI_rem, nI_lit, nI_add, pk_mul, nI_clp, nI_eqv, nI_lev, nI_ltv, nI_neg, nI_neg', nI_subv, Nat.add_zero, Nat.zero_add, Nat.mul_zero, Nat.reduceAdd, bN_rv, bM_ru, bV_rv, bV_rx, bU_ru, bU_rx, bN_ite, bM_ite, bV_ite, bU_ite, ↓bx_e, ↓sp_e, gA_ok, gZ_n, gB_0, gB_1, gB_i, and_true, and_false, true_and, false_and, decide_true, decide_false, ↓reduceIte, not_true_eq_false, not_false_eq_true, Bool.false_eq_true, Bool.true_eq_false, Bool.and_true, Bool.and_false, Bool.true_and, Bool.false_and, Bool.or_true, Bool.or_false, Bool.true_or, Bool.false_or, Bool.not_true, Bool.not_false, le_f, le_t, lt_f, lt_t, eq_f, ↓reduceIte, not_true_eq_false, not_false_eq_true, ite_10, bt_0, bt_1]
  by_cases h12 : n = 12
  · subst h12
    simp (disch := omega) only [nI_lit, nI_add, pk_mul, nI_clp, nI_eqv, nI_lev, nI_ltv, nI_neg, nI_neg', nI_subv, Nat.add_zero, Nat.zero_add, Nat.mul_zero, Nat.reduceAdd, bN_rv, bM_ru, bV_rv, bV_rx, bU_ru, bU_rx, bN_ite, bM_ite, bV_ite, bU_ite, ↓bx_e, ↓sp_e, gA_ok, gZ_n, gB_0, gB_1, gB_i, and_true, and_false, true_and, false_and, decide_true, decide_false, ↓reduceIte, not_true_eq_false, not_false_eq_true, Bool.false_eq_true, Bool.true_eq_false, Bool.and_true, Bool.and_false, Bool.true_and, Bool.false_and, Bool.or_true, Bool.or_false, Bool.true_or, Bool.false_or, Bool.not_true, Bool.not_false, le_f, le_t, lt_f, lt_t, eq_f, ↓reduceIte, not_true_eq_false, not_false_eq_true, ite_10, bt_0, bt_1]
    have hA : hAt f = 11 := by unfold hAt; rw [hNn, if_pos rfl]
    refine key _ 11 ((o + 1) % 12) ((o + 12) % 12) (fun d hd => sI_fn hd) (Eq.trans rfl rfl) ?_ ?_ (by omega) (by omega) (by omega) hA (by omega) (fun r hr => ?_)
    · simp (disch := omega) only [sI_at, eq_f, ↓reduceIte]; exact e0
    · simp (disch := omega) only [sI_at, eq_f, ↓reduceIte]
    · have e : ((o + 1) % 12 + r) % 12 = (o + (r + 1)) % 12 := by omega
      obtain ⟨q1, q2, q3, q4, q5⟩ := er (r + 1) (by omega)
      have hs : ∀ d, d < 24 → hSh f (242 + 24 * r + d) = f (242 + 24 * (r + 1) + d) := by
        intro d hd
        unfold hSh
        rw [if_neg (by omega), if_pos (by omega), show 242 + 24 * r + d + 24 = 242 + 24 * (r + 1) + d by omega]
      refine ⟨by omega, ?_, ?_, ?_, ?_, fun k hk => ⟨?_, ?_⟩⟩
      · have := hs 0 (by omega)
        rw [Nat.add_zero, Nat.add_zero] at this
        rw [e, this]; exact q1
      · rw [e, hs 1 (by omega)]; exact q2
      · rw [e, hs 2 (by omega)]; exact q3
      · rw [e, hs 3 (by omega)]; exact q4
      · rw [e, show 242 + 24 * r + 4 + k = 242 + 24 * r + (4 + k) by omega, hs (4 + k) (by omega), show 242 + 24 * (r + 1) + (4 + k) = 242 + 24 * (r + 1) + 4 + k by omega]; exact (q5 k hk).1
      · rw [e, show 242 + 24 * r + 14 + k = 242 + 24 * r + (14 + k) by omega, hs (14 + k) (by omega), show 242 + 24 * (r + 1) + (14 + k) = 242 + 24 * (r + 1) + 14 + k by omega]; exact (q5 k hk).2
  · simp (disch := omega) only [nI_lit, nI_add, pk_mul, nI_clp, nI_eqv, nI_lev, nI_ltv, nI_neg, nI_neg', nI_subv, Nat.add_zero, Nat.zero_add, Nat.mul_zero, Nat.reduceAdd, bN_rv, bM_ru, bV_rv, bV_rx, bU_ru, bU_rx, bN_ite, bM_ite, bV_ite, bU_ite, ↓bx_e, ↓sp_e, gA_ok, gZ_n, gB_0, gB_1, gB_i, and_true, and_false, true_and, false_and, decide_true, decide_false, ↓reduceIte, not_true_eq_false, not_false_eq_true, Bool.false_eq_true, Bool.true_eq_false, Bool.and_true, Bool.and_false, Bool.true_and, Bool.false_and, Bool.or_true, Bool.or_false, Bool.true_or, Bool.false_or, Bool.not_true, Bool.not_false, le_f, le_t, lt_f, lt_t, eq_f, ↓reduceIte, not_true_eq_false, not_false_eq_true, ite_10, bt_0, bt_1]
    have hA : hAt f = n := by unfold hAt; rw [hNn, if_neg h12]
    refine key _ n o ((o + n) % 12) (fun d hd => sI_fn hd) (Eq.trans rfl rfl) ?_ ?_ (by omega) (by omega) (by omega) hA rfl (fun r hr => ?_)
    · simp (disch := omega) only [sI_at, eq_f, ↓reduceIte]
    · simp (disch := omega) only [sI_at, eq_f, ↓reduceIte]; exact e1
    · obtain ⟨q1, q2, q3, q4, q5⟩ := er r hr
      have hs : ∀ d, d < 24 → hSh f (242 + 24 * r + d) = f (242 + 24 * r + d) := by
        intro d hd
        unfold hSh
        rw [if_neg (by omega), if_neg (by omega)]
      refine ⟨by omega, ?_, ?_, ?_, ?_, fun k hk => ⟨?_, ?_⟩⟩
      · have := hs 0 (by omega)
        rw [Nat.add_zero] at this
        rw [this]; exact q1
      · rw [hs 1 (by omega)]; exact q2
      · rw [hs 2 (by omega)]; exact q3
      · rw [hs 3 (by omega)]; exact q4
      · rw [show 242 + 24 * r + 4 + k = 242 + 24 * r + (4 + k) by omega, hs (4 + k) (by omega), show 242 + 24 * r + (4 + k) = 242 + 24 * r + 4 + k by omega]; exact (q5 k hk).1
      · rw [show 242 + 24 * r + 14 + k = 242 + 24 * r + (14 + k) by omega, hs (14 + k) (by omega), show 242 + 24 * r + (14 + k) = 242 + 24 * r + 14 + k by omega]; exact (q5 k hk).2
