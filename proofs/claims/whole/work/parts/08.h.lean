/-! A SLOT IS MADE FREE, IN THE CLASS -/
theorem mS_ext {s s' : mS} (h : ∀ b j, s.1 b j = s'.1 b j) (h2 : s.2 = s'.2) : s = s' := by
  have : s.1 = s'.1 := by funext b j; exact h b j
  exact Prod.ext this h2
/-- two loops side by side: Q runs, g says what comes of it -/
theorem lp_sim {σ τ ρ : Type} {Q : Nat → σ → Int32 → ρ} {g : Nat → τ → τ} {J : Nat → σ → τ → Prop} {e : Nat} {out : σ → ρ}
    (hx : ∀ n b f, J e b f → Q (n + 1) b (nI e) = out b)
    (hs : ∀ n i b f, i < e → J i b f → ∃ b', Q (n + 1) b (nI i) = Q n b' (nI (i + 1)) ∧ J (i + 1) b' (g i f)) :
    ∀ m i b f n, i + m = e → J i b f → m < n → ∃ b', Q n b (nI i) = out b' ∧ J e b' (fo g m i f) := by
  intro m
  induction m with
  | zero =>
    intro i b f n he hj hn
    cases n with
    | zero => omega
    | succ n => subst he; exact ⟨b, hx n b f hj, hj⟩
  | succ m ih =>
    intro i b f n he hj hn
    cases n with
    | zero => omega
    | succ n =>
      obtain ⟨b', h1, h2⟩ := hs n i b f (by omega) hj
      obtain ⟨b'', h3, h4⟩ := ih (i + 1) b' (g i f) n (by omega) h2 (by omega)
      exact ⟨b'', h1.trans h3, h4⟩
def cFr1 (s : mS) (z : Nat) (x : Int32) (m : Nat) : mS := (fun b j => if b = z + 9 ∨ b = z + 10 then (if j < m then s.1 b j &&& x else s.1 b j) else s.1 b j, s.2)
theorem cFr1_at {s : mS} {z m b j : Nat} {x : Int32} : (cFr1 s z x m).1 b j = if b = z + 9 ∨ b = z + 10 then (if j < m then s.1 b j &&& x else s.1 b j) else s.1 b j := Eq.trans rfl rfl
theorem p80_48 {K : Int32 → mS → Option mQ} {s : mS} {z : Nat} {v x : Int32} : ∀ m i n, i + m = 8 → m < n → q80_48 K z n v x (nI i) (cFr1 s z x i) = K v (cFr1 s z x 8) := by
  intro m
  induction m with
  | zero =>
    intro i n h1 h2
    cases n with
    | zero => omega
    | succ n =>
      have : i = 8 := by omega
      subst this
      simp (disch := omega) only [q80_48, nI_lit, nI_add, pk_mul, nI_clp, nI_eqv, nI_lev, nI_ltv, nI_neg, nI_neg', nI_subv, Nat.add_zero, Nat.zero_add, Nat.mul_zero, bN_rv, bM_ru, bV_rv, bV_rx, bU_ru, bU_rx, bN_ite, bM_ite, bV_ite, bU_ite, bx_e, sp_e, gA_ok, gZ_n, gB_0, gB_1, gB_i, and_true, and_false, true_and, false_and, decide_true, decide_false, ↓reduceIte, not_true_eq_false, not_false_eq_true, Bool.false_eq_true, Bool.true_eq_false, Bool.and_true, Bool.and_false, Bool.true_and, Bool.false_and, Bool.or_true, Bool.or_false, Bool.true_or, Bool.false_or, Bool.not_true, Bool.not_false, le_f, le_t, lt_f, lt_t, eq_f, ↓reduceIte, not_true_eq_false, not_false_eq_true, ite_10, bt_0, bt_1]
  | succ m ih =>
    intro i n h1 h2
    cases n with
    | zero => omega
    | succ n =>
      rw [q80_48]
      simp (disch := omega) only [nI_lit, nI_add, pk_mul, nI_clp, nI_eqv, nI_lev, nI_ltv, nI_neg, nI_neg', nI_subv, Nat.add_zero, Nat.zero_add, Nat.mul_zero, bN_rv, bM_ru, bV_rv, bV_rx, bU_ru, bU_rx, bN_ite, bM_ite, bV_ite, bU_ite, bx_e, sp_e, gA_ok, gZ_n, gB_0, gB_1, gB_i, and_true, and_false, true_and, false_and, decide_true, decide_false, ↓reduceIte, not_true_eq_false, not_false_eq_true, Bool.false_eq_true, Bool.true_eq_false, Bool.and_true, Bool.and_false, Bool.true_and, Bool.false_and, Bool.or_true, Bool.or_false, Bool.true_or, Bool.false_or, Bool.not_true, Bool.not_false, le_f, le_t, lt_f, lt_t, eq_f, ↓reduceIte, not_true_eq_false, not_false_eq_true, ite_10, bt_0, bt_1]
      rw [← ih (i + 1) n (by omega) (by omega)]
      congr 1
      refine mS_ext (fun b j => ?_) (Eq.trans rfl rfl)
      simp only [sI_at, cFr1_at]
      by_cases e9 : b = z + 9
      · subst e9
        by_cases ej : j = i
        · subst ej; simp (disch := omega) only [true_or, and_true, and_false, true_and, false_and, decide_true, decide_false, ↓reduceIte, not_true_eq_false, not_false_eq_true, Bool.false_eq_true, Bool.true_eq_false, Bool.and_true, Bool.and_false, Bool.true_and, Bool.false_and, Bool.or_true, Bool.or_false, Bool.true_or, Bool.false_or, Bool.not_true, Bool.not_false, le_f, le_t, lt_f, lt_t, eq_f, ↓reduceIte, not_true_eq_false, not_false_eq_true, ite_10, bt_0, bt_1]
        · by_cases el : j < i
          · simp (disch := omega) only [true_or, ej, el, show j < i + 1 by omega, and_true, and_false, true_and, false_and, decide_true, decide_false, ↓reduceIte, not_true_eq_false, not_false_eq_true, Bool.false_eq_true, Bool.true_eq_false, Bool.and_true, Bool.and_false, Bool.true_and, Bool.false_and, Bool.or_true, Bool.or_false, Bool.true_or, Bool.false_or, Bool.not_true, Bool.not_false, le_f, le_t, lt_f, lt_t, eq_f, ↓reduceIte, not_true_eq_false, not_false_eq_true, ite_10, bt_0, bt_1]
          · simp (disch := omega) only [true_or, ej, el, show ¬ j < i + 1 by omega, and_true, and_false, true_and, false_and, decide_true, decide_false, ↓reduceIte, not_true_eq_false, not_false_eq_true, Bool.false_eq_true, Bool.true_eq_false, Bool.and_true, Bool.and_false, Bool.true_and, Bool.false_and, Bool.or_true, Bool.or_false, Bool.true_or, Bool.false_or, Bool.not_true, Bool.not_false, le_f, le_t, lt_f, lt_t, eq_f, ↓reduceIte, not_true_eq_false, not_false_eq_true, ite_10, bt_0, bt_1]
      · by_cases e10 : b = z + 10
        · subst e10
          by_cases ej : j = i
          · subst ej; simp (disch := omega) only [or_true, and_true, and_false, true_and, false_and, decide_true, decide_false, ↓reduceIte, not_true_eq_false, not_false_eq_true, Bool.false_eq_true, Bool.true_eq_false, Bool.and_true, Bool.and_false, Bool.true_and, Bool.false_and, Bool.or_true, Bool.or_false, Bool.true_or, Bool.false_or, Bool.not_true, Bool.not_false, le_f, le_t, lt_f, lt_t, eq_f, ↓reduceIte, not_true_eq_false, not_false_eq_true, ite_10, bt_0, bt_1]
          · by_cases el : j < i
            · simp (disch := omega) only [or_true, ej, el, show j < i + 1 by omega, and_true, and_false, true_and, false_and, decide_true, decide_false, ↓reduceIte, not_true_eq_false, not_false_eq_true, Bool.false_eq_true, Bool.true_eq_false, Bool.and_true, Bool.and_false, Bool.true_and, Bool.false_and, Bool.or_true, Bool.or_false, Bool.true_or, Bool.false_or, Bool.not_true, Bool.not_false, le_f, le_t, lt_f, lt_t, eq_f, ↓reduceIte, not_true_eq_false, not_false_eq_true, ite_10, bt_0, bt_1]
            · simp (disch := omega) only [or_true, ej, el, show ¬ j < i + 1 by omega, and_true, and_false, true_and, false_and, decide_true, decide_false, ↓reduceIte, not_true_eq_false, not_false_eq_true, Bool.false_eq_true, Bool.true_eq_false, Bool.and_true, Bool.and_false, Bool.true_and, Bool.false_and, Bool.or_true, Bool.or_false, Bool.true_or, Bool.false_or, Bool.not_true, Bool.not_false, le_f, le_t, lt_f, lt_t, eq_f, ↓reduceIte, not_true_eq_false, not_false_eq_true, ite_10, bt_0, bt_1]
        · simp (disch := omega) only [e9, e10, or_self, and_true, and_false, true_and, false_and, decide_true, decide_false, ↓reduceIte, not_true_eq_false, not_false_eq_true, Bool.false_eq_true, Bool.true_eq_false, Bool.and_true, Bool.and_false, Bool.true_and, Bool.false_and, Bool.or_true, Bool.or_false, Bool.true_or, Bool.false_or, Bool.not_true, Bool.not_false, le_f, le_t, lt_f, lt_t, eq_f, ↓reduceIte, not_true_eq_false, not_false_eq_true, ite_10, bt_0, bt_1]
def cFree (s : mS) (z i : Nat) : mS := (fun b j => if b = z then (if j < 4 then s.1 b j &&& (shlI (nI 1) (nI i) ^^^ -nI 1) else s.1 b j) else if b = z + 9 ∨ b = z + 10 then (if j = i then nI 0 else if j < 8 then s.1 b j &&& (shlI (nI 1) (nI i) ^^^ -nI 1) else s.1 b j) else s.1 b j, s.2)
theorem cFree_at {s : mS} {z i b j : Nat} : (cFree s z i).1 b j = if b = z then (if j < 4 then s.1 b j &&& (shlI (nI 1) (nI i) ^^^ -nI 1) else s.1 b j) else if b = z + 9 ∨ b = z + 10 then (if j = i then nI 0 else if j < 8 then s.1 b j &&& (shlI (nI 1) (nI i) ^^^ -nI 1) else s.1 b j) else s.1 b j := Eq.trans rfl rfl
theorem p80 {s : mS} {z i : Nat} (hi : i < 8) : q80 z (nI i) s = ru (cFree s z i) := by
  unfold q80
  simp (disch := omega) only [nI_lit, nI_add, pk_mul, nI_clp, nI_eqv, nI_lev, nI_ltv, nI_neg, nI_neg', nI_subv, Nat.add_zero, Nat.zero_add, Nat.mul_zero, bN_rv, bM_ru, bV_rv, bV_rx, bU_ru, bU_rx, bN_ite, bM_ite, bV_ite, bU_ite, bx_e, sp_e, gA_ok, gZ_n, gB_0, gB_1, gB_i, and_true, and_false, true_and, false_and, decide_true, decide_false, ↓reduceIte, not_true_eq_false, not_false_eq_true, Bool.false_eq_true, Bool.true_eq_false, Bool.and_true, Bool.and_false, Bool.true_and, Bool.false_and, Bool.or_true, Bool.or_false, Bool.true_or, Bool.false_or, Bool.not_true, Bool.not_false, le_f, le_t, lt_f, lt_t, eq_f, ↓reduceIte, not_true_eq_false, not_false_eq_true, ite_10, bt_0, bt_1]
  generalize hm : shlI (nI 1) (nI i) ^^^ -nI 1 = x
  generalize hs : sI (sI (sI (sI s z 0 (s.1 z 0 &&& x)) z 1 ((sI s z 0 (s.1 z 0 &&& x)).1 z 1 &&& x)) z 2 ((sI (sI s z 0 (s.1 z 0 &&& x)) z 1 ((sI s z 0 (s.1 z 0 &&& x)).1 z 1 &&& x)).1 z 2 &&& x)) z 3 ((sI (sI (sI s z 0 (s.1 z 0 &&& x)) z 1 ((sI s z 0 (s.1 z 0 &&& x)).1 z 1 &&& x)) z 2 ((sI (sI s z 0 (s.1 z 0 &&& x)) z 1 ((sI s z 0 (s.1 z 0 &&& x)).1 z 1 &&& x)).1 z 2 &&& x)).1 z 3 &&& x) = s1
  have e0 : cFr1 s1 z x 0 = s1 := by
    refine mS_ext (fun b j => ?_) (Eq.trans rfl rfl)
    rw [cFr1_at]
    by_cases e : b = z + 9 ∨ b = z + 10
    · rw [if_pos e, if_neg (by omega)]
    · rw [if_neg e]
  conv => lhs; rw [← e0]
  rw [p80_48 8 0 10000 (by omega) (by omega)]
  unfold q80_80
  simp (disch := omega) only [nI_lit, nI_add, pk_mul, nI_clp, nI_eqv, nI_lev, nI_ltv, nI_neg, nI_neg', nI_subv, Nat.add_zero, Nat.zero_add, Nat.mul_zero, bN_rv, bM_ru, bV_rv, bV_rx, bU_ru, bU_rx, bN_ite, bM_ite, bV_ite, bU_ite, bx_e, sp_e, gA_ok, gZ_n, gB_0, gB_1, gB_i, and_true, and_false, true_and, false_and, decide_true, decide_false, ↓reduceIte, not_true_eq_false, not_false_eq_true, Bool.false_eq_true, Bool.true_eq_false, Bool.and_true, Bool.and_false, Bool.true_and, Bool.false_and, Bool.or_true, Bool.or_false, Bool.true_or, Bool.false_or, Bool.not_true, Bool.not_false, le_f, le_t, lt_f, lt_t, eq_f, ↓reduceIte, not_true_eq_false, not_false_eq_true, ite_10, bt_0, bt_1]
  congr 1
  refine mS_ext (fun b j => ?_) (by rw [← hs]; exact Eq.trans rfl rfl)
  rw [cFree_at, hm]
  simp only [sI_at, cFr1_at]
  rw [← hs]
  simp only [sI_at]
  by_cases e9 : b = z + 9
  · subst e9
    by_cases ej : j = i <;> by_cases el : j < 8 <;> simp (disch := omega) only [true_or, ej, el, hi, and_true, and_false, true_and, false_and, decide_true, decide_false, ↓reduceIte, not_true_eq_false, not_false_eq_true, Bool.false_eq_true, Bool.true_eq_false, Bool.and_true, Bool.and_false, Bool.true_and, Bool.false_and, Bool.or_true, Bool.or_false, Bool.true_or, Bool.false_or, Bool.not_true, Bool.not_false, le_f, le_t, lt_f, lt_t, eq_f, ↓reduceIte, not_true_eq_false, not_false_eq_true, ite_10, bt_0, bt_1]
  · by_cases e10 : b = z + 10
    · subst e10
      by_cases ej : j = i <;> by_cases el : j < 8 <;> simp (disch := omega) only [or_true, ej, el, hi, and_true, and_false, true_and, false_and, decide_true, decide_false, ↓reduceIte, not_true_eq_false, not_false_eq_true, Bool.false_eq_true, Bool.true_eq_false, Bool.and_true, Bool.and_false, Bool.true_and, Bool.false_and, Bool.or_true, Bool.or_false, Bool.true_or, Bool.false_or, Bool.not_true, Bool.not_false, le_f, le_t, lt_f, lt_t, eq_f, ↓reduceIte, not_true_eq_false, not_false_eq_true, ite_10, bt_0, bt_1]
    · by_cases ez : b = z
      · subst ez
        by_cases j0 : j = 0
        · subst j0; simp (disch := omega) only [or_self, and_true, and_false, true_and, false_and, decide_true, decide_false, ↓reduceIte, not_true_eq_false, not_false_eq_true, Bool.false_eq_true, Bool.true_eq_false, Bool.and_true, Bool.and_false, Bool.true_and, Bool.false_and, Bool.or_true, Bool.or_false, Bool.true_or, Bool.false_or, Bool.not_true, Bool.not_false, le_f, le_t, lt_f, lt_t, eq_f, ↓reduceIte, not_true_eq_false, not_false_eq_true, ite_10, bt_0, bt_1]
        · by_cases j1 : j = 1
          · subst j1; simp (disch := omega) only [or_self, and_true, and_false, true_and, false_and, decide_true, decide_false, ↓reduceIte, not_true_eq_false, not_false_eq_true, Bool.false_eq_true, Bool.true_eq_false, Bool.and_true, Bool.and_false, Bool.true_and, Bool.false_and, Bool.or_true, Bool.or_false, Bool.true_or, Bool.false_or, Bool.not_true, Bool.not_false, le_f, le_t, lt_f, lt_t, eq_f, ↓reduceIte, not_true_eq_false, not_false_eq_true, ite_10, bt_0, bt_1]
          · by_cases j2 : j = 2
            · subst j2; simp (disch := omega) only [or_self, and_true, and_false, true_and, false_and, decide_true, decide_false, ↓reduceIte, not_true_eq_false, not_false_eq_true, Bool.false_eq_true, Bool.true_eq_false, Bool.and_true, Bool.and_false, Bool.true_and, Bool.false_and, Bool.or_true, Bool.or_false, Bool.true_or, Bool.false_or, Bool.not_true, Bool.not_false, le_f, le_t, lt_f, lt_t, eq_f, ↓reduceIte, not_true_eq_false, not_false_eq_true, ite_10, bt_0, bt_1]
            · by_cases j3 : j = 3
              · subst j3; simp (disch := omega) only [or_self, and_true, and_false, true_and, false_and, decide_true, decide_false, ↓reduceIte, not_true_eq_false, not_false_eq_true, Bool.false_eq_true, Bool.true_eq_false, Bool.and_true, Bool.and_false, Bool.true_and, Bool.false_and, Bool.or_true, Bool.or_false, Bool.true_or, Bool.false_or, Bool.not_true, Bool.not_false, le_f, le_t, lt_f, lt_t, eq_f, ↓reduceIte, not_true_eq_false, not_false_eq_true, ite_10, bt_0, bt_1]
              · simp (disch := omega) only [j0, j1, j2, j3, or_self, and_true, and_false, true_and, false_and, decide_true, decide_false, ↓reduceIte, not_true_eq_false, not_false_eq_true, Bool.false_eq_true, Bool.true_eq_false, Bool.and_true, Bool.and_false, Bool.true_and, Bool.false_and, Bool.or_true, Bool.or_false, Bool.true_or, Bool.false_or, Bool.not_true, Bool.not_false, le_f, le_t, lt_f, lt_t, eq_f, ↓reduceIte, not_true_eq_false, not_false_eq_true, ite_10, bt_0, bt_1]
      · simp only [e9, e10, ez, or_self, and_true, and_false, true_and, false_and, decide_true, decide_false, ↓reduceIte, not_true_eq_false, not_false_eq_true, Bool.false_eq_true, Bool.true_eq_false, Bool.and_true, Bool.and_false, Bool.true_and, Bool.false_and, Bool.or_true, Bool.or_false, Bool.true_or, Bool.false_or, Bool.not_true, Bool.not_false]
theorem bt_mk {x : Int32} {i j : Nat} (hi : i < 32) (hj : j < 32) : bt (x &&& (shlI (nI 1) (nI i) ^^^ -nI 1)) j = (bt x j && !(decide (j = i))) := by
  rw [b_and, bt_no hj, bt_sh hi]
theorem mFree_i {f : Nat → Int32} {i w : Nat} (hw : w < 21) : mFree f i (74 + 21 * i + w) = nI 0 := if_pos (by omega)
theorem mFree_o {f : Nat → Int32} {i j w : Nat} (hj : j ≠ i) (hw : w < 21) (h7 : w ≠ 7) : mFree f i (74 + 21 * j + w) = f (74 + 21 * j + w) := by
  unfold mFree
  rw [if_neg (by omega), if_neg (by omega)]
theorem mFree_7 {f : Nat → Int32} {i j : Nat} (hj : j ≠ i) (h8 : j < 8) : mFree f i (74 + 21 * j + 7) = f (74 + 21 * j + 7) &&& (shlI (nI 1) (nI i) ^^^ -nI 1) := by
  unfold mFree
  rw [if_neg (by omega), if_pos (by omega)]
theorem mFree_x {f : Nat → Int32} {i j : Nat} (hi : i < 8) (hj : j < 74 ∨ 242 ≤ j) : mFree f i j = f j := by
  unfold mFree
  rw [if_neg (by omega), if_neg (by omega)]
theorem mFree_0 {f : Nat → Int32} {i j : Nat} (hj : j ≠ i) : mFree f i (74 + 21 * j) = f (74 + 21 * j) := mFree_o (w := 0) hj (by omega) (by omega)
theorem mFree_i0 {f : Nat → Int32} {i : Nat} : mFree f i (74 + 21 * i) = nI 0 := mFree_i (w := 0) (by omega)
theorem sR_fr {f : Nat → Int32} {i j : Nat} : sR (mFree f i) j = (sR f j && !(decide (j = i))) := by
  by_cases e : j = i
  · subst e; unfold sR; rw [mFree_i0]; simp only [show (nI 0 = nI 1) = False from by decide, and_true, and_false, true_and, false_and, decide_true, decide_false, ↓reduceIte, not_true_eq_false, not_false_eq_true, Bool.false_eq_true, Bool.true_eq_false, Bool.and_true, Bool.and_false, Bool.true_and, Bool.false_and, Bool.or_true, Bool.or_false, Bool.true_or, Bool.false_or, Bool.not_true, Bool.not_false]
  · rw [sR_c (mFree_0 e)]; simp only [e, and_true, and_false, true_and, false_and, decide_true, decide_false, ↓reduceIte, not_true_eq_false, not_false_eq_true, Bool.false_eq_true, Bool.true_eq_false, Bool.and_true, Bool.and_false, Bool.true_and, Bool.false_and, Bool.or_true, Bool.or_false, Bool.true_or, Bool.false_or, Bool.not_true, Bool.not_false]
theorem sF_fr {f : Nat → Int32} {i j : Nat} : sF (mFree f i) j = (sF f j && !(decide (j = i))) := by
  by_cases e : j = i
  · subst e; unfold sF; rw [mFree_i0]; simp only [show (nI 0 = nI 2) = False from by decide, and_true, and_false, true_and, false_and, decide_true, decide_false, ↓reduceIte, not_true_eq_false, not_false_eq_true, Bool.false_eq_true, Bool.true_eq_false, Bool.and_true, Bool.and_false, Bool.true_and, Bool.false_and, Bool.or_true, Bool.or_false, Bool.true_or, Bool.false_or, Bool.not_true, Bool.not_false]
  · rw [sF_c (mFree_0 e)]; simp only [e, and_true, and_false, true_and, false_and, decide_true, decide_false, ↓reduceIte, not_true_eq_false, not_false_eq_true, Bool.false_eq_true, Bool.true_eq_false, Bool.and_true, Bool.and_false, Bool.true_and, Bool.false_and, Bool.or_true, Bool.or_false, Bool.true_or, Bool.false_or, Bool.not_true, Bool.not_false]
theorem sU_fr {f : Nat → Int32} {i j : Nat} : sU (mFree f i) j = (sU f j && !(decide (j = i))) := by
  by_cases e : j = i
  · subst e; unfold sU; rw [mFree_i0]; simp only [and_true, and_false, true_and, false_and, decide_true, decide_false, ↓reduceIte, not_true_eq_false, not_false_eq_true, Bool.false_eq_true, Bool.true_eq_false, Bool.and_true, Bool.and_false, Bool.true_and, Bool.false_and, Bool.or_true, Bool.or_false, Bool.true_or, Bool.false_or, Bool.not_true, Bool.not_false]
  · rw [sU_c (mFree_0 e)]; simp only [e, and_true, and_false, true_and, false_and, decide_true, decide_false, ↓reduceIte, not_true_eq_false, not_false_eq_true, Bool.false_eq_true, Bool.true_eq_false, Bool.and_true, Bool.and_false, Bool.true_and, Bool.false_and, Bool.or_true, Bool.or_false, Bool.true_or, Bool.false_or, Bool.not_true, Bool.not_false]
theorem sOn_fr {f : Nat → Int32} (hw : IW f) {i j : Nat} (hi : i < 8) (hj : j < 8) (e : j ≠ i) : sOn (mFree f i) j = sOn f j := by
  have := (hw j hj).2
  exact sOn_c (mFree_o e (by omega) (by omega)) (mFree_x hi (by omega))
theorem sIn_fr {f : Nat → Int32} {i j : Nat} (hi : i < 8) (hj : j < 8) : sIn (mFree f i) j = if j = i then nI 0 else sIn f j &&& (shlI (nI 1) (nI i) ^^^ -nI 1) := by
  apply b_ext
  intro k hk
  rw [bt_sIn]
  by_cases hk8 : k < 8
  · by_cases ek : k = i
    · subst ek
      rw [mFree_i (by omega), bt_n0, Bool.and_false]
      by_cases ej : j = k
      · rw [if_pos ej, bt_n0]
      · rw [if_neg ej, bt_mk (by omega) hk]; simp only [and_true, and_false, true_and, false_and, decide_true, decide_false, ↓reduceIte, not_true_eq_false, not_false_eq_true, Bool.false_eq_true, Bool.true_eq_false, Bool.and_true, Bool.and_false, Bool.true_and, Bool.false_and, Bool.or_true, Bool.or_false, Bool.true_or, Bool.false_or, Bool.not_true, Bool.not_false]
    · rw [mFree_7 ek hk8, bt_mk (by omega) (by omega)]
      by_cases ej : j = i
      · rw [if_pos ej, bt_n0]; simp only [ej, and_true, and_false, true_and, false_and, decide_true, decide_false, ↓reduceIte, not_true_eq_false, not_false_eq_true, Bool.false_eq_true, Bool.true_eq_false, Bool.and_true, Bool.and_false, Bool.true_and, Bool.false_and, Bool.or_true, Bool.or_false, Bool.true_or, Bool.false_or, Bool.not_true, Bool.not_false]
      · rw [if_neg ej, bt_mk (by omega) hk, bt_sIn]; simp only [ej, ek, and_true, and_false, true_and, false_and, decide_true, decide_false, ↓reduceIte, not_true_eq_false, not_false_eq_true, Bool.false_eq_true, Bool.true_eq_false, Bool.and_true, Bool.and_false, Bool.true_and, Bool.false_and, Bool.or_true, Bool.or_false, Bool.true_or, Bool.false_or, Bool.not_true, Bool.not_false]
  · by_cases ej : j = i
    · rw [if_pos ej, bt_n0]; simp only [hk8, and_true, and_false, true_and, false_and, decide_true, decide_false, ↓reduceIte, not_true_eq_false, not_false_eq_true, Bool.false_eq_true, Bool.true_eq_false, Bool.and_true, Bool.and_false, Bool.true_and, Bool.false_and, Bool.or_true, Bool.or_false, Bool.true_or, Bool.false_or, Bool.not_true, Bool.not_false]
    · rw [if_neg ej, bt_mk (by omega) hk, bt_sIn]; simp only [hk8, and_true, and_false, true_and, false_and, decide_true, decide_false, ↓reduceIte, not_true_eq_false, not_false_eq_true, Bool.false_eq_true, Bool.true_eq_false, Bool.and_true, Bool.and_false, Bool.true_and, Bool.false_and, Bool.or_true, Bool.or_false, Bool.true_or, Bool.false_or, Bool.not_true, Bool.not_false]
theorem bt_mk' {x : Int32} {i j : Nat} (hi : i < 32) : bt (x &&& (shlI (nI 1) (nI i) ^^^ -nI 1)) j = (bt x j && !(decide (j = i))) := by
  by_cases hj : j < 32
  · exact bt_mk hi hj
  · rw [b_big (by omega), b_big (by omega), Bool.false_and]
theorem RS_free {s : mS} {z : Nat} {f : Nat → Int32} (h : RS s z f) (hw : IW f) {i : Nat} (hi : i < 8) : RS (cFree s z i) z (mFree f i) := by
  obtain ⟨a0, a1, a2, a3, a4, a5, a6, a7, a8, a9, a10, a11, a12, a13, a14⟩ := h
  have key : ∀ j, (sU (mFree f i) j = true) → sU f j = true ∧ j ≠ i := by
    intro j hu
    rw [sU_fr, Bool.and_eq_true] at hu
    refine ⟨hu.1, fun e => ?_⟩
    rw [decide_eq_true e] at hu
    cases hu.2
  refine ⟨fun j => ?_, fun j => ?_, fun j => ?_, fun j => ?_, fun j hj hu => ?_, fun j hj hu => ?_, fun j hj hu => ?_, fun j hj hu => ?_, fun j hj hu => ?_, fun j hj hu => ?_, fun j hj hu => ?_, fun j hj hu => ?_, fun j hj => ?_, fun j hj => ?_, fun j hj hu k hk => ?_⟩
  · simp (disch := omega) only [cFree_at, and_true, and_false, true_and, false_and, decide_true, decide_false, ↓reduceIte, not_true_eq_false, not_false_eq_true, Bool.false_eq_true, Bool.true_eq_false, Bool.and_true, Bool.and_false, Bool.true_and, Bool.false_and, Bool.or_true, Bool.or_false, Bool.true_or, Bool.false_or, Bool.not_true, Bool.not_false, le_f, le_t, lt_f, lt_t, eq_f, ↓reduceIte, not_true_eq_false, not_false_eq_true, ite_10, bt_0, bt_1]; rw [bt_mk' (by omega), a0 j, sR_fr, Bool.and_assoc]
  · simp (disch := omega) only [cFree_at, and_true, and_false, true_and, false_and, decide_true, decide_false, ↓reduceIte, not_true_eq_false, not_false_eq_true, Bool.false_eq_true, Bool.true_eq_false, Bool.and_true, Bool.and_false, Bool.true_and, Bool.false_and, Bool.or_true, Bool.or_false, Bool.true_or, Bool.false_or, Bool.not_true, Bool.not_false, le_f, le_t, lt_f, lt_t, eq_f, ↓reduceIte, not_true_eq_false, not_false_eq_true, ite_10, bt_0, bt_1]; rw [bt_mk' (by omega), a1 j, sF_fr, Bool.and_assoc]
  · simp (disch := omega) only [cFree_at, and_true, and_false, true_and, false_and, decide_true, decide_false, ↓reduceIte, not_true_eq_false, not_false_eq_true, Bool.false_eq_true, Bool.true_eq_false, Bool.and_true, Bool.and_false, Bool.true_and, Bool.false_and, Bool.or_true, Bool.or_false, Bool.true_or, Bool.false_or, Bool.not_true, Bool.not_false, le_f, le_t, lt_f, lt_t, eq_f, ↓reduceIte, not_true_eq_false, not_false_eq_true, ite_10, bt_0, bt_1]
    rw [bt_mk' (by omega), a2 j, sU_fr]
    by_cases hj : j < 8
    · by_cases e : j = i
      · simp only [e, and_true, and_false, true_and, false_and, decide_true, decide_false, ↓reduceIte, not_true_eq_false, not_false_eq_true, Bool.false_eq_true, Bool.true_eq_false, Bool.and_true, Bool.and_false, Bool.true_and, Bool.false_and, Bool.or_true, Bool.or_false, Bool.true_or, Bool.false_or, Bool.not_true, Bool.not_false]
      · rw [sOn_fr hw hi hj e]; simp only [e, and_true, and_false, true_and, false_and, decide_true, decide_false, ↓reduceIte, not_true_eq_false, not_false_eq_true, Bool.false_eq_true, Bool.true_eq_false, Bool.and_true, Bool.and_false, Bool.true_and, Bool.false_and, Bool.or_true, Bool.or_false, Bool.true_or, Bool.false_or, Bool.not_true, Bool.not_false]
    · simp only [hj, and_true, and_false, true_and, false_and, decide_true, decide_false, ↓reduceIte, not_true_eq_false, not_false_eq_true, Bool.false_eq_true, Bool.true_eq_false, Bool.and_true, Bool.and_false, Bool.true_and, Bool.false_and, Bool.or_true, Bool.or_false, Bool.true_or, Bool.false_or, Bool.not_true, Bool.not_false]
  · simp (disch := omega) only [cFree_at, and_true, and_false, true_and, false_and, decide_true, decide_false, ↓reduceIte, not_true_eq_false, not_false_eq_true, Bool.false_eq_true, Bool.true_eq_false, Bool.and_true, Bool.and_false, Bool.true_and, Bool.false_and, Bool.or_true, Bool.or_false, Bool.true_or, Bool.false_or, Bool.not_true, Bool.not_false, le_f, le_t, lt_f, lt_t, eq_f, ↓reduceIte, not_true_eq_false, not_false_eq_true, ite_10, bt_0, bt_1]
    rw [bt_mk' (by omega), a3 j]
    by_cases e : j = i
    · subst e; rw [mFree_i (by omega)]; simp only [show (nI 0 = nI 1) = False from by decide, and_true, and_false, true_and, false_and, decide_true, decide_false, ↓reduceIte, not_true_eq_false, not_false_eq_true, Bool.false_eq_true, Bool.true_eq_false, Bool.and_true, Bool.and_false, Bool.true_and, Bool.false_and, Bool.or_true, Bool.or_false, Bool.true_or, Bool.false_or, Bool.not_true, Bool.not_false]
    · rw [mFree_o e (by omega) (by omega)]; simp only [e, and_true, and_false, true_and, false_and, decide_true, decide_false, ↓reduceIte, not_true_eq_false, not_false_eq_true, Bool.false_eq_true, Bool.true_eq_false, Bool.and_true, Bool.and_false, Bool.true_and, Bool.false_and, Bool.or_true, Bool.or_false, Bool.true_or, Bool.false_or, Bool.not_true, Bool.not_false]
  · obtain ⟨h1, h2⟩ := key j hu; rw [mFree_o h2 (by omega) (by omega)]; simp (disch := omega) only [cFree_at, or_self, and_true, and_false, true_and, false_and, decide_true, decide_false, ↓reduceIte, not_true_eq_false, not_false_eq_true, Bool.false_eq_true, Bool.true_eq_false, Bool.and_true, Bool.and_false, Bool.true_and, Bool.false_and, Bool.or_true, Bool.or_false, Bool.true_or, Bool.false_or, Bool.not_true, Bool.not_false, le_f, le_t, lt_f, lt_t, eq_f, ↓reduceIte, not_true_eq_false, not_false_eq_true, ite_10, bt_0, bt_1]; exact a4 j hj h1
  · obtain ⟨h1, h2⟩ := key j hu; rw [mFree_o h2 (by omega) (by omega)]; simp (disch := omega) only [cFree_at, or_self, and_true, and_false, true_and, false_and, decide_true, decide_false, ↓reduceIte, not_true_eq_false, not_false_eq_true, Bool.false_eq_true, Bool.true_eq_false, Bool.and_true, Bool.and_false, Bool.true_and, Bool.false_and, Bool.or_true, Bool.or_false, Bool.true_or, Bool.false_or, Bool.not_true, Bool.not_false, le_f, le_t, lt_f, lt_t, eq_f, ↓reduceIte, not_true_eq_false, not_false_eq_true, ite_10, bt_0, bt_1]; exact a5 j hj h1
  · obtain ⟨h1, h2⟩ := key j hu; rw [mFree_o h2 (by omega) (by omega)]; simp (disch := omega) only [cFree_at, or_self, and_true, and_false, true_and, false_and, decide_true, decide_false, ↓reduceIte, not_true_eq_false, not_false_eq_true, Bool.false_eq_true, Bool.true_eq_false, Bool.and_true, Bool.and_false, Bool.true_and, Bool.false_and, Bool.or_true, Bool.or_false, Bool.true_or, Bool.false_or, Bool.not_true, Bool.not_false, le_f, le_t, lt_f, lt_t, eq_f, ↓reduceIte, not_true_eq_false, not_false_eq_true, ite_10, bt_0, bt_1]; exact a6 j hj h1
  · obtain ⟨h1, h2⟩ := key j hu; rw [mFree_o h2 (by omega) (by omega)]; simp (disch := omega) only [cFree_at, or_self, and_true, and_false, true_and, false_and, decide_true, decide_false, ↓reduceIte, not_true_eq_false, not_false_eq_true, Bool.false_eq_true, Bool.true_eq_false, Bool.and_true, Bool.and_false, Bool.true_and, Bool.false_and, Bool.or_true, Bool.or_false, Bool.true_or, Bool.false_or, Bool.not_true, Bool.not_false, le_f, le_t, lt_f, lt_t, eq_f, ↓reduceIte, not_true_eq_false, not_false_eq_true, ite_10, bt_0, bt_1]; exact a7 j hj h1
  · obtain ⟨h1, h2⟩ := key j hu; rw [mFree_o h2 (by omega) (by omega)]; simp (disch := omega) only [cFree_at, or_self, and_true, and_false, true_and, false_and, decide_true, decide_false, ↓reduceIte, not_true_eq_false, not_false_eq_true, Bool.false_eq_true, Bool.true_eq_false, Bool.and_true, Bool.and_false, Bool.true_and, Bool.false_and, Bool.or_true, Bool.or_false, Bool.true_or, Bool.false_or, Bool.not_true, Bool.not_false, le_f, le_t, lt_f, lt_t, eq_f, ↓reduceIte, not_true_eq_false, not_false_eq_true, ite_10, bt_0, bt_1]; exact a8 j hj h1
  · obtain ⟨h1, h2⟩ := key j hu; rw [mFree_o h2 (by omega) (by omega)]; simp (disch := omega) only [cFree_at, or_self, and_true, and_false, true_and, false_and, decide_true, decide_false, ↓reduceIte, not_true_eq_false, not_false_eq_true, Bool.false_eq_true, Bool.true_eq_false, Bool.and_true, Bool.and_false, Bool.true_and, Bool.false_and, Bool.or_true, Bool.or_false, Bool.true_or, Bool.false_or, Bool.not_true, Bool.not_false, le_f, le_t, lt_f, lt_t, eq_f, ↓reduceIte, not_true_eq_false, not_false_eq_true, ite_10, bt_0, bt_1]; exact a9 j hj h1
  · obtain ⟨h1, h2⟩ := key j hu; rw [mFree_o h2 (by omega) (by omega)]; simp (disch := omega) only [cFree_at, or_self, and_true, and_false, true_and, false_and, decide_true, decide_false, ↓reduceIte, not_true_eq_false, not_false_eq_true, Bool.false_eq_true, Bool.true_eq_false, Bool.and_true, Bool.and_false, Bool.true_and, Bool.false_and, Bool.or_true, Bool.or_false, Bool.true_or, Bool.false_or, Bool.not_true, Bool.not_false, le_f, le_t, lt_f, lt_t, eq_f, ↓reduceIte, not_true_eq_false, not_false_eq_true, ite_10, bt_0, bt_1]; exact a10 j hj h1
  · obtain ⟨h1, h2⟩ := key j hu; rw [mFree_o h2 (by omega) (by omega)]; simp (disch := omega) only [cFree_at, or_self, and_true, and_false, true_and, false_and, decide_true, decide_false, ↓reduceIte, not_true_eq_false, not_false_eq_true, Bool.false_eq_true, Bool.true_eq_false, Bool.and_true, Bool.and_false, Bool.true_and, Bool.false_and, Bool.or_true, Bool.or_false, Bool.true_or, Bool.false_or, Bool.not_true, Bool.not_false, le_f, le_t, lt_f, lt_t, eq_f, ↓reduceIte, not_true_eq_false, not_false_eq_true, ite_10, bt_0, bt_1]; exact a11 j hj h1
  · by_cases e : j = i
    · subst e; rw [mFree_i (by omega)]; simp (disch := omega) only [cFree_at, true_or, and_true, and_false, true_and, false_and, decide_true, decide_false, ↓reduceIte, not_true_eq_false, not_false_eq_true, Bool.false_eq_true, Bool.true_eq_false, Bool.and_true, Bool.and_false, Bool.true_and, Bool.false_and, Bool.or_true, Bool.or_false, Bool.true_or, Bool.false_or, Bool.not_true, Bool.not_false, le_f, le_t, lt_f, lt_t, eq_f, ↓reduceIte, not_true_eq_false, not_false_eq_true, ite_10, bt_0, bt_1]
    · rw [mFree_7 e hj, ← a12 j hj]; simp (disch := omega) only [cFree_at, true_or, e, hj, and_true, and_false, true_and, false_and, decide_true, decide_false, ↓reduceIte, not_true_eq_false, not_false_eq_true, Bool.false_eq_true, Bool.true_eq_false, Bool.and_true, Bool.and_false, Bool.true_and, Bool.false_and, Bool.or_true, Bool.or_false, Bool.true_or, Bool.false_or, Bool.not_true, Bool.not_false, le_f, le_t, lt_f, lt_t, eq_f, ↓reduceIte, not_true_eq_false, not_false_eq_true, ite_10, bt_0, bt_1]
  · rw [sIn_fr hi hj, ← a13 j hj]
    by_cases e : j = i
    · subst e; simp (disch := omega) only [cFree_at, or_true, and_true, and_false, true_and, false_and, decide_true, decide_false, ↓reduceIte, not_true_eq_false, not_false_eq_true, Bool.false_eq_true, Bool.true_eq_false, Bool.and_true, Bool.and_false, Bool.true_and, Bool.false_and, Bool.or_true, Bool.or_false, Bool.true_or, Bool.false_or, Bool.not_true, Bool.not_false, le_f, le_t, lt_f, lt_t, eq_f, ↓reduceIte, not_true_eq_false, not_false_eq_true, ite_10, bt_0, bt_1]
    · simp (disch := omega) only [cFree_at, or_true, e, hj, and_true, and_false, true_and, false_and, decide_true, decide_false, ↓reduceIte, not_true_eq_false, not_false_eq_true, Bool.false_eq_true, Bool.true_eq_false, Bool.and_true, Bool.and_false, Bool.true_and, Bool.false_and, Bool.or_true, Bool.or_false, Bool.true_or, Bool.false_or, Bool.not_true, Bool.not_false, le_f, le_t, lt_f, lt_t, eq_f, ↓reduceIte, not_true_eq_false, not_false_eq_true, ite_10, bt_0, bt_1]
  · obtain ⟨h1, h2⟩ := key j hu
    rw [show 74 + 21 * j + 11 + k = 74 + 21 * j + (11 + k) by omega, mFree_o h2 (by omega) (by omega)]; simp (disch := omega) only [cFree_at, or_self, and_true, and_false, true_and, false_and, decide_true, decide_false, ↓reduceIte, not_true_eq_false, not_false_eq_true, Bool.false_eq_true, Bool.true_eq_false, Bool.and_true, Bool.and_false, Bool.true_and, Bool.false_and, Bool.or_true, Bool.or_false, Bool.true_or, Bool.false_or, Bool.not_true, Bool.not_false, le_f, le_t, lt_f, lt_t, eq_f, ↓reduceIte, not_true_eq_false, not_false_eq_true, ite_10, bt_0, bt_1]
    rw [show 74 + 21 * j + (11 + k) = 74 + 21 * j + 11 + k by omega]; exact a14 j hj h1 k hk
theorem IS_free {f : Nat → Int32} (h : IS f) {i : Nat} (hi : i < 8) : IS (mFree f i) := by
  obtain ⟨i0, i1, i2, i3, i4, i5, i6⟩ := h
  refine ⟨fun j hj => ?_, fun j hj => ?_, fun j hj hz w' hw' => ?_, fun j l hj hb => ?_, fun j hj => ?_, fun j l hj hl ha hb hc => ?_, fun j l k hj hl hk ha hb hc hd => ?_⟩
  · by_cases e : j = i
    · subst e
      have : wh (mFree f j) j = 0 := by unfold wh; rw [mFree_i (by omega)]; decide
      rw [this, mFree_i (by omega)]
      exact ⟨rfl, by omega⟩
    · rw [wh_c (mFree_o e (by omega) (by omega)), mFree_o e (by omega) (by omega)]; exact i0 j hj
  · by_cases e : j = i
    · subst e; rw [mFree_i0]; exact Or.inl rfl
    · rw [mFree_0 e]; exact i1 j hj
  · by_cases e : j = i
    · subst e; rw [mFree_i hw']
    · rw [mFree_0 e] at hz
      by_cases e7 : w' = 7
      · subst e7
        rw [mFree_7 e hj, i2 j hj hz 7 (by omega)]
        apply b_ext; intro k hk; rw [b_and, bt_n0, Bool.false_and]
      · rw [mFree_o e hw' e7]; exact i2 j hj hz w' hw'
  · by_cases e : j = i
    · subst e; rw [mFree_i (by omega), bt_n0] at hb; cases hb
    · rw [mFree_7 e hj, bt_mk' (by omega), Bool.and_eq_true] at hb
      obtain ⟨q1, q2⟩ := i3 j l hj hb.1
      refine ⟨q1, ?_⟩
      rw [sU_fr, q2, hb.2]; rfl
  · by_cases e : j = i
    · subst e; rw [mFree_i (by omega)]; exact Or.inl rfl
    · rw [mFree_o e (by omega) (by omega)]; exact i4 j hj
  · rw [sR_fr, Bool.and_eq_true] at ha hb
    have e1 : j ≠ i := fun e => by rw [decide_eq_true e] at ha; cases ha.2
    have e2 : l ≠ i := fun e => by rw [decide_eq_true e] at hb; cases hb.2
    rw [mFree_o e1 (by omega) (by omega), mFree_o e2 (by omega) (by omega)] at hc
    exact i5 j l hj hl ha.1 hb.1 hc
  · rw [sR_fr, Bool.and_eq_true] at ha hb
    have e1 : j ≠ i := fun e => by rw [decide_eq_true e] at ha; cases ha.2
    have e2 : l ≠ i := fun e => by rw [decide_eq_true e] at hb; cases hb.2
    rw [mFree_o e1 (by omega) (by omega)] at hc
    rw [mFree_o e2 (by omega) (by omega)] at hd
    exact i6 j l k hj hl hk ha.1 hb.1 hc hd
