/-! CHANGES OF THE ROW AND OF THE SLOTS -/
theorem ud_n {f : Nat → Int32} {k j : Nat} {x : Int32} (h : j ≠ k) : upd f k x j = f j := if_neg h
theorem ud_e {f : Nat → Int32} {k j : Nat} {x : Int32} (h : j = k) : upd f k x j = x := if_pos h
def wr (t : mS) (f : Nat → Int32) : mS := (fun b => if b = 513 then f else t.1 b, t.2)
theorem wr_1 {t : mS} {f : Nat → Int32} : (wr t f).1 513 = f := by show (if 513 = 513 then f else t.1 513) = f; exact if_pos rfl
theorem wr_n {t : mS} {f : Nat → Int32} {b : Nat} (h : b ≠ 513) : (wr t f).1 b = t.1 b := by show (if b = 513 then f else t.1 b) = _; exact if_neg h
theorem wr_2 {t : mS} {f : Nat → Int32} : (wr t f).2 = t.2 := Eq.trans rfl rfl
theorem wr_w {t : mS} {f g : Nat → Int32} : wr (wr t f) g = wr t g := by
  unfold wr
  congr 1
  funext b
  by_cases h : b = 513
  · simp only [h, ↓reduceIte]
  · simp only [h, ↓reduceIte]
theorem wr_s {t : mS} : wr t (t.1 513) = t := by
  unfold wr
  have : (fun b => if b = 513 then t.1 513 else t.1 b) = t.1 := by
    funext b
    by_cases h : b = 513
    · rw [if_pos h, h]
    · rw [if_neg h]
  rw [this]
theorem sI_wr {t : mS} {f : Nat → Int32} {k : Nat} {x : Int32} : sI (wr t f) 513 k x = wr t (upd f k x) := by
  unfold sI
  rw [wr_1]
  unfold wr
  congr 1
  funext b
  by_cases h : b = 513
  · simp only [h, ↓reduceIte]
  · simp only [h, ↓reduceIte]
theorem sI_w0 {t : mS} {k : Nat} {x : Int32} : sI t 513 k x = wr t (upd (t.1 513) k x) := by
  conv => lhs; rw [← wr_s (t := t)]
  rw [sI_wr]
theorem sI_wc {t : mS} {f : Nat → Int32} {a k : Nat} {x : Int32} (h : a ≠ 513) : sI (wr t f) a k x = wr (sI t a k x) f := by
  unfold sI
  rw [wr_n h]
  unfold wr
  congr 1
  funext b
  by_cases h2 : b = a
  · subst h2; simp only [h, ↓reduceIte]
  · by_cases h3 : b = 513
    · subst h3; simp only [h2, ↓reduceIte]
    · simp only [h2, h3, ↓reduceIte]
/-- the log goes down by a row, and one is told -/
def mLog (f : Nat → Int32) (s : Nat) (w : Int32) : Nat → Int32 := fun j =>
  if j = 6 then mnI (nI 60) (f 6 + nI 1) else if j = 530 then f 3 else if j = 531 then f (74 + 21 * s + 1) else if j = 532 then w else if j = 533 then nI s
  else if 534 ≤ j ∧ j < 770 then f (j - 4) else f j
def mLg (f : Nat → Int32) (m : Nat) : Nat → Int32 := fun j => if 530 + m < j ∧ j < 770 then f (j - 4) else f j
theorem mLg_s {f : Nat → Int32} {m : Nat} (h : 4 ≤ m) (h2 : m < 240) : upd (mLg f m) (530 + m) (mLg f m (530 + m - 4)) = mLg f (m - 1) := by
  funext j
  unfold upd
  by_cases e : j = 530 + m
  · rw [if_pos e]
    unfold mLg
    rw [if_neg (by omega), if_pos (by omega), e]
  · rw [if_neg e]
    unfold mLg
    by_cases e2 : 530 + m < j ∧ j < 770
    · rw [if_pos e2, if_pos (by omega)]
    · rw [if_neg e2, if_neg (by omega)]
theorem m249_4 {K : Int32 → Int32 → mS → Option mQ} {v1 v2 : Int32} {t : mS} {f : Nat → Int32} : ∀ m n, m + 3 < 240 → m < n → q249_4 K n v1 v2 (nI (m + 3)) (wr t (mLg f (m + 3))) = K v1 v2 (wr t (mLg f 3)) := by
  intro m
  induction m with
  | zero =>
    intro n h1 h2
    cases n with
    | zero => omega
    | succ n => simp (disch := omega) only [q249_4, nI_lit, nI_add, pk_mul, nI_clp, nI_eqv, nI_lev, nI_ltv, nI_neg, nI_neg', nI_subv, Nat.add_zero, Nat.zero_add, Nat.mul_zero, bN_rv, bM_ru, bV_rv, bV_rx, bU_ru, bU_rx, bN_ite, bM_ite, bV_ite, bU_ite, bx_e, sp_e, gA_ok, gZ_n, gB_0, gB_1, gB_i, and_true, and_false, true_and, false_and, decide_true, decide_false, ↓reduceIte, not_true_eq_false, not_false_eq_true, Bool.false_eq_true, Bool.true_eq_false, Bool.and_true, Bool.and_false, Bool.true_and, Bool.false_and, Bool.or_true, Bool.or_false, Bool.true_or, Bool.false_or, Bool.not_true, Bool.not_false, le_f, le_t, lt_f, lt_t, eq_f, ↓reduceIte, not_true_eq_false, not_false_eq_true, ite_10, bt_0, bt_1]
  | succ m ih =>
    intro n h1 h2
    cases n with
    | zero => omega
    | succ n =>
      rw [q249_4]
      simp (disch := omega) only [wr_1, sI_wr, nI_lit, nI_add, pk_mul, nI_clp, nI_eqv, nI_lev, nI_ltv, nI_neg, nI_neg', nI_subv, Nat.add_zero, Nat.zero_add, Nat.mul_zero, bN_rv, bM_ru, bV_rv, bV_rx, bU_ru, bU_rx, bN_ite, bM_ite, bV_ite, bU_ite, bx_e, sp_e, gA_ok, gZ_n, gB_0, gB_1, gB_i, and_true, and_false, true_and, false_and, decide_true, decide_false, ↓reduceIte, not_true_eq_false, not_false_eq_true, Bool.false_eq_true, Bool.true_eq_false, Bool.and_true, Bool.and_false, Bool.true_and, Bool.false_and, Bool.or_true, Bool.or_false, Bool.true_or, Bool.false_or, Bool.not_true, Bool.not_false, le_f, le_t, lt_f, lt_t, eq_f, ↓reduceIte, not_true_eq_false, not_false_eq_true, ite_10, bt_0, bt_1]
      rw [show 530 + (m + 1 + 3) - 4 = 530 + (m + 1 + 3) - 4 from rfl, mLg_s (by omega) (by omega), show m + 1 + 3 - 1 = m + 3 by omega, show m + 1 + 3 = (m + 3) + 1 by omega, nI_dec]
      exact ih n (by omega) (by omega)
theorem m249 {t : mS} {s : Nat} (hs : s < 8) {w : Int32} : q249 (nI s) w t = ru (wr t (mLog (t.1 513) s w)) := by
  unfold q249
  have e : t = wr t (mLg (t.1 513) 239) := by
    have : mLg (t.1 513) 239 = t.1 513 := by
      funext j; unfold mLg; rw [if_neg (by omega)]
    rw [this, wr_s]
  rw [nI_lit]
  conv => lhs; rw [e]
  rw [m249_4 236 10000 (by omega) (by omega)]
  unfold q249_37
  simp (disch := omega) only [wr_1, sI_wr, q203, q204, ud_n, nI_lit, nI_add, pk_mul, nI_clp, nI_eqv, nI_lev, nI_ltv, nI_neg, nI_neg', nI_subv, Nat.add_zero, Nat.zero_add, Nat.mul_zero, bN_rv, bM_ru, bV_rv, bV_rx, bU_ru, bU_rx, bN_ite, bM_ite, bV_ite, bU_ite, bx_e, sp_e, gA_ok, gZ_n, gB_0, gB_1, gB_i, and_true, and_false, true_and, false_and, decide_true, decide_false, ↓reduceIte, not_true_eq_false, not_false_eq_true, Bool.false_eq_true, Bool.true_eq_false, Bool.and_true, Bool.and_false, Bool.true_and, Bool.false_and, Bool.or_true, Bool.or_false, Bool.true_or, Bool.false_or, Bool.not_true, Bool.not_false, le_f, le_t, lt_f, lt_t, eq_f, ↓reduceIte, not_true_eq_false, not_false_eq_true, ite_10, bt_0, bt_1]
  congr 2
  funext j
  unfold mLog upd mLg
  by_cases h1 : j = 6
  · subst h1; simp (disch := omega) only [and_true, and_false, true_and, false_and, decide_true, decide_false, ↓reduceIte, not_true_eq_false, not_false_eq_true, Bool.false_eq_true, Bool.true_eq_false, Bool.and_true, Bool.and_false, Bool.true_and, Bool.false_and, Bool.or_true, Bool.or_false, Bool.true_or, Bool.false_or, Bool.not_true, Bool.not_false, le_f, le_t, lt_f, lt_t, eq_f, ↓reduceIte, not_true_eq_false, not_false_eq_true, ite_10, bt_0, bt_1]
  · by_cases h2 : j = 533
    · subst h2; simp (disch := omega) only [and_true, and_false, true_and, false_and, decide_true, decide_false, ↓reduceIte, not_true_eq_false, not_false_eq_true, Bool.false_eq_true, Bool.true_eq_false, Bool.and_true, Bool.and_false, Bool.true_and, Bool.false_and, Bool.or_true, Bool.or_false, Bool.true_or, Bool.false_or, Bool.not_true, Bool.not_false, le_f, le_t, lt_f, lt_t, eq_f, ↓reduceIte, not_true_eq_false, not_false_eq_true, ite_10, bt_0, bt_1]
    · by_cases h3 : j = 532
      · subst h3; simp (disch := omega) only [and_true, and_false, true_and, false_and, decide_true, decide_false, ↓reduceIte, not_true_eq_false, not_false_eq_true, Bool.false_eq_true, Bool.true_eq_false, Bool.and_true, Bool.and_false, Bool.true_and, Bool.false_and, Bool.or_true, Bool.or_false, Bool.true_or, Bool.false_or, Bool.not_true, Bool.not_false, le_f, le_t, lt_f, lt_t, eq_f, ↓reduceIte, not_true_eq_false, not_false_eq_true, ite_10, bt_0, bt_1]
      · by_cases h4 : j = 531
        · subst h4
          simp (disch := omega) only [and_true, and_false, true_and, false_and, decide_true, decide_false, ↓reduceIte, not_true_eq_false, not_false_eq_true, Bool.false_eq_true, Bool.true_eq_false, Bool.and_true, Bool.and_false, Bool.true_and, Bool.false_and, Bool.or_true, Bool.or_false, Bool.true_or, Bool.false_or, Bool.not_true, Bool.not_false, le_f, le_t, lt_f, lt_t, eq_f, ↓reduceIte, not_true_eq_false, not_false_eq_true, ite_10, bt_0, bt_1]
        · by_cases h5 : j = 530
          · subst h5; simp (disch := omega) only [and_true, and_false, true_and, false_and, decide_true, decide_false, ↓reduceIte, not_true_eq_false, not_false_eq_true, Bool.false_eq_true, Bool.true_eq_false, Bool.and_true, Bool.and_false, Bool.true_and, Bool.false_and, Bool.or_true, Bool.or_false, Bool.true_or, Bool.false_or, Bool.not_true, Bool.not_false, le_f, le_t, lt_f, lt_t, eq_f, ↓reduceIte, not_true_eq_false, not_false_eq_true, ite_10, bt_0, bt_1]
          · simp (disch := omega) only [h1, h2, h3, h4, h5, and_true, and_false, true_and, false_and, decide_true, decide_false, ↓reduceIte, not_true_eq_false, not_false_eq_true, Bool.false_eq_true, Bool.true_eq_false, Bool.and_true, Bool.and_false, Bool.true_and, Bool.false_and, Bool.or_true, Bool.or_false, Bool.true_or, Bool.false_or, Bool.not_true, Bool.not_false]
            by_cases h6 : 534 ≤ j ∧ j < 770
            · rw [if_pos h6, if_pos (by omega)]
            · rw [if_neg h6, if_neg (by omega)]
/-- a slot is made free -/
def mFree (f : Nat → Int32) (s : Nat) : Nat → Int32 := fun j =>
  if 74 + 21 * s ≤ j ∧ j < 74 + 21 * s + 21 then nI 0 else if 81 ≤ j ∧ j < 81 + 21 * 8 ∧ (j - 81) % 21 = 0 then f j &&& (shlI (nI 1) (nI s) ^^^ -nI 1) else f j
def mFr1 (f : Nat → Int32) (x : Int32) (m : Nat) : Nat → Int32 := fun j => if 81 ≤ j ∧ j < 81 + 21 * m ∧ (j - 81) % 21 = 0 then f j &&& x else f j
def mFr2 (f : Nat → Int32) (s m : Nat) : Nat → Int32 := fun j => if 74 + 21 * s ≤ j ∧ j < 74 + 21 * s + m then nI 0 else f j
theorem m253_2 {K : Int32 → mS → Option mQ} {s : Nat} {t : mS} {f : Nat → Int32} : ∀ m i n, i + m = 8 → m < n → q253_2 K n (nI s) (nI i) (wr t (mFr1 f (shlI (nI 1) (nI s) ^^^ -nI 1) i)) = K (nI s) (wr t (mFr1 f (shlI (nI 1) (nI s) ^^^ -nI 1) 8)) := by
  intro m
  induction m with
  | zero =>
    intro i n h1 h2
    cases n with
    | zero => omega
    | succ n =>
      have : i = 8 := by omega
      subst this
      simp (disch := omega) only [q253_2, nI_lit, nI_add, pk_mul, nI_clp, nI_eqv, nI_lev, nI_ltv, nI_neg, nI_neg', nI_subv, Nat.add_zero, Nat.zero_add, Nat.mul_zero, bN_rv, bM_ru, bV_rv, bV_rx, bU_ru, bU_rx, bN_ite, bM_ite, bV_ite, bU_ite, bx_e, sp_e, gA_ok, gZ_n, gB_0, gB_1, gB_i, and_true, and_false, true_and, false_and, decide_true, decide_false, ↓reduceIte, not_true_eq_false, not_false_eq_true, Bool.false_eq_true, Bool.true_eq_false, Bool.and_true, Bool.and_false, Bool.true_and, Bool.false_and, Bool.or_true, Bool.or_false, Bool.true_or, Bool.false_or, Bool.not_true, Bool.not_false, le_f, le_t, lt_f, lt_t, eq_f, ↓reduceIte, not_true_eq_false, not_false_eq_true, ite_10, bt_0, bt_1]
  | succ m ih =>
    intro i n h1 h2
    cases n with
    | zero => omega
    | succ n =>
      rw [q253_2]
      simp (disch := omega) only [wr_1, sI_wr, q203, nI_lit, nI_add, pk_mul, nI_clp, nI_eqv, nI_lev, nI_ltv, nI_neg, nI_neg', nI_subv, Nat.add_zero, Nat.zero_add, Nat.mul_zero, bN_rv, bM_ru, bV_rv, bV_rx, bU_ru, bU_rx, bN_ite, bM_ite, bV_ite, bU_ite, bx_e, sp_e, gA_ok, gZ_n, gB_0, gB_1, gB_i, and_true, and_false, true_and, false_and, decide_true, decide_false, ↓reduceIte, not_true_eq_false, not_false_eq_true, Bool.false_eq_true, Bool.true_eq_false, Bool.and_true, Bool.and_false, Bool.true_and, Bool.false_and, Bool.or_true, Bool.or_false, Bool.true_or, Bool.false_or, Bool.not_true, Bool.not_false, le_f, le_t, lt_f, lt_t, eq_f, ↓reduceIte, not_true_eq_false, not_false_eq_true, ite_10, bt_0, bt_1]
      have e : upd (mFr1 f (shlI (nI 1) (nI s) ^^^ -nI 1) i) (74 + 21 * i + 7) (mFr1 f (shlI (nI 1) (nI s) ^^^ -nI 1) i (74 + 21 * i + 7) &&& (shlI (nI 1) (nI s) ^^^ -nI 1)) = mFr1 f (shlI (nI 1) (nI s) ^^^ -nI 1) (i + 1) := by
        funext j
        unfold upd mFr1
        by_cases e : j = 74 + 21 * i + 7
        · rw [if_pos e, if_neg (by omega), if_pos (by omega), e]
        · rw [if_neg e]
          by_cases e2 : 81 ≤ j ∧ j < 81 + 21 * i ∧ (j - 81) % 21 = 0
          · rw [if_pos e2, if_pos (by omega)]
          · rw [if_neg e2, if_neg (by omega)]
      rw [e]
      exact ih (i + 1) n (by omega) (by omega)
theorem m253_35 {s : Nat} (hs : s < 8) {t : mS} {f : Nat → Int32} : ∀ m i n, i + m = 21 → m < n → q253_35 n (nI s) (nI i) (wr t (mFr2 f s i)) = ru (wr t (mFr2 f s 21)) := by
  intro m
  induction m with
  | zero =>
    intro i n h1 h2
    cases n with
    | zero => omega
    | succ n =>
      have : i = 21 := by omega
      subst this
      simp (disch := omega) only [q253_35, nI_lit, nI_add, pk_mul, nI_clp, nI_eqv, nI_lev, nI_ltv, nI_neg, nI_neg', nI_subv, Nat.add_zero, Nat.zero_add, Nat.mul_zero, bN_rv, bM_ru, bV_rv, bV_rx, bU_ru, bU_rx, bN_ite, bM_ite, bV_ite, bU_ite, bx_e, sp_e, gA_ok, gZ_n, gB_0, gB_1, gB_i, and_true, and_false, true_and, false_and, decide_true, decide_false, ↓reduceIte, not_true_eq_false, not_false_eq_true, Bool.false_eq_true, Bool.true_eq_false, Bool.and_true, Bool.and_false, Bool.true_and, Bool.false_and, Bool.or_true, Bool.or_false, Bool.true_or, Bool.false_or, Bool.not_true, Bool.not_false, le_f, le_t, lt_f, lt_t, eq_f, ↓reduceIte, not_true_eq_false, not_false_eq_true, ite_10, bt_0, bt_1]
  | succ m ih =>
    intro i n h1 h2
    cases n with
    | zero => omega
    | succ n =>
      rw [q253_35]
      simp (disch := omega) only [wr_1, sI_wr, q203, nI_lit, nI_add, pk_mul, nI_clp, nI_eqv, nI_lev, nI_ltv, nI_neg, nI_neg', nI_subv, Nat.add_zero, Nat.zero_add, Nat.mul_zero, bN_rv, bM_ru, bV_rv, bV_rx, bU_ru, bU_rx, bN_ite, bM_ite, bV_ite, bU_ite, bx_e, sp_e, gA_ok, gZ_n, gB_0, gB_1, gB_i, and_true, and_false, true_and, false_and, decide_true, decide_false, ↓reduceIte, not_true_eq_false, not_false_eq_true, Bool.false_eq_true, Bool.true_eq_false, Bool.and_true, Bool.and_false, Bool.true_and, Bool.false_and, Bool.or_true, Bool.or_false, Bool.true_or, Bool.false_or, Bool.not_true, Bool.not_false, le_f, le_t, lt_f, lt_t, eq_f, ↓reduceIte, not_true_eq_false, not_false_eq_true, ite_10, bt_0, bt_1]
      have e : upd (mFr2 f s i) (74 + 21 * s + i) (nI 0) = mFr2 f s (i + 1) := by
        funext j
        unfold upd mFr2
        by_cases e : j = 74 + 21 * s + i
        · rw [if_pos e, if_pos (by omega)]
        · rw [if_neg e]
          by_cases e2 : 74 + 21 * s ≤ j ∧ j < 74 + 21 * s + i
          · rw [if_pos e2, if_pos (by omega)]
          · rw [if_neg e2, if_neg (by omega)]
      rw [e]
      exact ih (i + 1) n (by omega) (by omega)
theorem m253 {t : mS} {s : Nat} (hs : s < 8) : q253 (nI s) t = ru (wr t (mFree (t.1 513) s)) := by
  unfold q253
  have e : t = wr t (mFr1 (t.1 513) (shlI (nI 1) (nI s) ^^^ -nI 1) 0) := by
    have : mFr1 (t.1 513) (shlI (nI 1) (nI s) ^^^ -nI 1) 0 = t.1 513 := by
      funext j; unfold mFr1; rw [if_neg (by omega)]
    rw [this, wr_s]
  rw [nI_lit]
  conv => lhs; rw [e]
  rw [m253_2 8 0 10000 (by omega) (by omega)]
  unfold q253_33
  generalize hg : mFr1 (t.1 513) (shlI (nI 1) (nI s) ^^^ -nI 1) 8 = g
  have e2 : g = mFr2 g s 0 := by
    funext j; unfold mFr2; rw [if_neg (by omega)]
  rw [nI_lit]
  conv => lhs; rw [e2]
  rw [m253_35 hs 21 0 10000 (by omega) (by omega)]
  congr 2
  funext j
  rw [← hg]
  unfold mFr2 mFr1 mFree
  by_cases h1 : 74 + 21 * s ≤ j ∧ j < 74 + 21 * s + 21 <;> by_cases h2 : 81 ≤ j ∧ j < 81 + 21 * 8 ∧ (j - 81) % 21 = 0 <;> simp only [h1, h2, ↓reduceIte]
