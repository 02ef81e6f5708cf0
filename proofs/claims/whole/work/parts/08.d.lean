/-! MORE OF THE SLOTS -/
def oOld (f : Nat → Int32) (p : Nat → Bool) : Option Nat := fo (fun i b => if p i = true then (match b with
    | none => some i
    | some j => if f (74 + 21 * j + 3) ≤ f (74 + 21 * i + 3) then some j else some i) else b) 8 0 none
theorem oI_n : oI none = -nI 1 := rfl
theorem oI_s {i : Nat} : oI (some i) = nI i := rfl
theorem fo_lt {p : Nat → Bool} {f : Nat → Int32} : ∀ m i b, i + m ≤ 8 → (∀ j, b = some j → j < 8) → ∀ j, fo (fun i b => if p i = true then (match b with
    | none => some i
    | some j => if f (74 + 21 * j + 3) ≤ f (74 + 21 * i + 3) then some j else some i) else b) m i b = some j → j < 8 := by
  intro m
  induction m with
  | zero => intro i b _ hb j h; exact hb j h
  | succ m ih =>
    intro i b hi hb j h
    rw [fo_s] at h
    refine ih (i + 1) _ (by omega) ?_ j h
    intro k hk
    by_cases hp : p i = true
    · rw [if_pos hp] at hk
      cases b with
      | none => cases hk; omega
      | some z =>
        dsimp only at hk
        have := hb z rfl
        split at hk <;> cases hk <;> omega
    · rw [if_neg hp] at hk; exact hb k hk
theorem oOld_lt {f : Nat → Int32} {p : Nat → Bool} {j : Nat} (h : oOld f p = some j) : j < 8 := fo_lt 8 0 none (by omega) (fun _ h => by cases h) j h
theorem m258 {v : Int32} {t : mS} : q258 v t = rv (oI (oOld (t.1 513) (fun i => bt v i))) t := by
  unfold q258 oOld
  rw [nI_lit, nI_lit, ← oI_n]
  refine (lp_inv (e := 8) (Q := fun n b i => q258_4 n v (oI b) i t) (J := fun _ b => ∀ j, b = some j → j < 8) (out := fun b => rv (oI b) t) (fun n b _ => ?_) (fun n i b hi hj => ?_) 8 0 none 10000 (by omega) (fun _ h => by cases h) (by omega)).1
  · simp (disch := omega) only [q258_4, nI_lit, nI_add, pk_mul, nI_clp, nI_eqv, nI_lev, nI_ltv, nI_neg, nI_neg', nI_subv, Nat.add_zero, Nat.zero_add, Nat.mul_zero, bN_rv, bM_ru, bV_rv, bV_rx, bU_ru, bU_rx, bN_ite, bM_ite, bV_ite, bU_ite, bx_e, sp_e, gA_ok, gZ_n, gB_0, gB_1, gB_i, decide_true, decide_false, ↓reduceIte, not_true_eq_false, not_false_eq_true, Bool.false_eq_true, Bool.true_eq_false, Bool.and_true, Bool.and_false, Bool.true_and, Bool.false_and, Bool.or_true, Bool.or_false, Bool.true_or, Bool.false_or, Bool.not_true, Bool.not_false, le_f, le_t, lt_f, lt_t, eq_f, ↓reduceIte, not_true_eq_false, not_false_eq_true, ite_10, bt_0, bt_1]
  · constructor
    · cases b with
      | none =>
        simp (disch := omega) only [q258_4, q258_40, q258_38, oI_n, nI_lit, nI_add, pk_mul, nI_clp, nI_eqv, nI_lev, nI_ltv, nI_neg, nI_neg', nI_subv, Nat.add_zero, Nat.zero_add, Nat.mul_zero, bN_rv, bM_ru, bV_rv, bV_rx, bU_ru, bU_rx, bN_ite, bM_ite, bV_ite, bU_ite, bx_e, sp_e, gA_ok, gZ_n, gB_0, gB_1, gB_i, decide_true, decide_false, ↓reduceIte, not_true_eq_false, not_false_eq_true, Bool.false_eq_true, Bool.true_eq_false, Bool.and_true, Bool.and_false, Bool.true_and, Bool.false_and, Bool.or_true, Bool.or_false, Bool.true_or, Bool.false_or, Bool.not_true, Bool.not_false, le_f, le_t, lt_f, lt_t, eq_f, ↓reduceIte, not_true_eq_false, not_false_eq_true, ite_10, bt_0, bt_1, q198, q199, q200, q201, q202, q203, q204, q205, q206, q207, q190, q189, q187]
        cases bt v i <;> simp only [oI_n, oI_s, decide_true, decide_false, ↓reduceIte, not_true_eq_false, not_false_eq_true, Bool.false_eq_true, Bool.true_eq_false, Bool.and_true, Bool.and_false, Bool.true_and, Bool.false_and, Bool.or_true, Bool.or_false, Bool.true_or, Bool.false_or, Bool.not_true, Bool.not_false]
      | some j =>
        have hj8 := hj j rfl
        simp (disch := omega) only [q258_4, q258_40, q258_38, oI_s, nI_lit, nI_add, pk_mul, nI_clp, nI_eqv, nI_lev, nI_ltv, nI_neg, nI_neg', nI_subv, Nat.add_zero, Nat.zero_add, Nat.mul_zero, bN_rv, bM_ru, bV_rv, bV_rx, bU_ru, bU_rx, bN_ite, bM_ite, bV_ite, bU_ite, bx_e, sp_e, gA_ok, gZ_n, gB_0, gB_1, gB_i, decide_true, decide_false, ↓reduceIte, not_true_eq_false, not_false_eq_true, Bool.false_eq_true, Bool.true_eq_false, Bool.and_true, Bool.and_false, Bool.true_and, Bool.false_and, Bool.or_true, Bool.or_false, Bool.true_or, Bool.false_or, Bool.not_true, Bool.not_false, le_f, le_t, lt_f, lt_t, eq_f, ↓reduceIte, not_true_eq_false, not_false_eq_true, ite_10, bt_0, bt_1, q198, q199, q200, q201, q202, q203, q204, q205, q206, q207, q190, q189, q187]
        cases bt v i
        · simp only [oI_s, decide_true, decide_false, ↓reduceIte, not_true_eq_false, not_false_eq_true, Bool.false_eq_true, Bool.true_eq_false, Bool.and_true, Bool.and_false, Bool.true_and, Bool.false_and, Bool.or_true, Bool.or_false, Bool.true_or, Bool.false_or, Bool.not_true, Bool.not_false]
        · by_cases h : t.1 513 (74 + 21 * j + 3) ≤ t.1 513 (74 + 21 * i + 3) <;> simp only [h, oI_s, decide_true, decide_false, ↓reduceIte, not_true_eq_false, not_false_eq_true, Bool.false_eq_true, Bool.true_eq_false, Bool.and_true, Bool.and_false, Bool.true_and, Bool.false_and, Bool.or_true, Bool.or_false, Bool.true_or, Bool.false_or, Bool.not_true, Bool.not_false]
    · intro k hk
      by_cases hp : bt v i = true
      · rw [if_pos hp] at hk
        cases b with
        | none => cases hk; omega
        | some z =>
          dsimp only at hk
          have := hj z rfl
          split at hk <;> cases hk <;> omega
      · rw [if_neg hp] at hk; exact hj k hk
section GD
variable {s : mS} {a : Nat} {f : Nat → Int32}
theorem p75 (h : RS s a f) : q75 a s = rv (oI (oOld f (fun i => sF f i))) s := by
  unfold q75 oOld
  rw [nI_lit, nI_lit, ← oI_n]
  refine (lp_inv (e := 8) (Q := fun n b i => q75_4 a n (oI b) i s) (J := fun _ b => ∀ j, b = some j → j < 8 ∧ sF f j = true) (out := fun b => rv (oI b) s) (fun n b _ => ?_) (fun n i b hi hj => ?_) 8 0 none 10000 (by omega) (fun _ h => by cases h) (by omega)).1
  · simp (disch := omega) only [q75_4, nI_lit, nI_add, pk_mul, nI_clp, nI_eqv, nI_lev, nI_ltv, nI_neg, nI_neg', nI_subv, Nat.add_zero, Nat.zero_add, Nat.mul_zero, bN_rv, bM_ru, bV_rv, bV_rx, bU_ru, bU_rx, bN_ite, bM_ite, bV_ite, bU_ite, bx_e, sp_e, gA_ok, gZ_n, gB_0, gB_1, gB_i, decide_true, decide_false, ↓reduceIte, not_true_eq_false, not_false_eq_true, Bool.false_eq_true, Bool.true_eq_false, Bool.and_true, Bool.and_false, Bool.true_and, Bool.false_and, Bool.or_true, Bool.or_false, Bool.true_or, Bool.false_or, Bool.not_true, Bool.not_false, le_f, le_t, lt_f, lt_t, eq_f, ↓reduceIte, not_true_eq_false, not_false_eq_true, ite_10, bt_0, bt_1]
  · constructor
    · cases b with
      | none =>
        simp (disch := omega) only [q75_4, q75_43, q75_41, oI_n, h.2.1 i, decide_eq_true hi, Bool.true_and, nI_lit, nI_add, pk_mul, nI_clp, nI_eqv, nI_lev, nI_ltv, nI_neg, nI_neg', nI_subv, Nat.add_zero, Nat.zero_add, Nat.mul_zero, bN_rv, bM_ru, bV_rv, bV_rx, bU_ru, bU_rx, bN_ite, bM_ite, bV_ite, bU_ite, bx_e, sp_e, gA_ok, gZ_n, gB_0, gB_1, gB_i, decide_true, decide_false, ↓reduceIte, not_true_eq_false, not_false_eq_true, Bool.false_eq_true, Bool.true_eq_false, Bool.and_true, Bool.and_false, Bool.true_and, Bool.false_and, Bool.or_true, Bool.or_false, Bool.true_or, Bool.false_or, Bool.not_true, Bool.not_false, le_f, le_t, lt_f, lt_t, eq_f, ↓reduceIte, not_true_eq_false, not_false_eq_true, ite_10, bt_0, bt_1, q198, q199, q200, q201, q202, q203, q204, q205, q206, q207, q190, q189, q187]
        cases sF f i <;> simp only [oI_n, oI_s, decide_true, decide_false, ↓reduceIte, not_true_eq_false, not_false_eq_true, Bool.false_eq_true, Bool.true_eq_false, Bool.and_true, Bool.and_false, Bool.true_and, Bool.false_and, Bool.or_true, Bool.or_false, Bool.true_or, Bool.false_or, Bool.not_true, Bool.not_false]
      | some j =>
        obtain ⟨hj8, hjf⟩ := hj j rfl
        simp (disch := omega) only [q75_4, q75_43, q75_41, oI_s, h.2.1 i, decide_eq_true hi, Bool.true_and, nI_lit, nI_add, pk_mul, nI_clp, nI_eqv, nI_lev, nI_ltv, nI_neg, nI_neg', nI_subv, Nat.add_zero, Nat.zero_add, Nat.mul_zero, bN_rv, bM_ru, bV_rv, bV_rx, bU_ru, bU_rx, bN_ite, bM_ite, bV_ite, bU_ite, bx_e, sp_e, gA_ok, gZ_n, gB_0, gB_1, gB_i, decide_true, decide_false, ↓reduceIte, not_true_eq_false, not_false_eq_true, Bool.false_eq_true, Bool.true_eq_false, Bool.and_true, Bool.and_false, Bool.true_and, Bool.false_and, Bool.or_true, Bool.or_false, Bool.true_or, Bool.false_or, Bool.not_true, Bool.not_false, le_f, le_t, lt_f, lt_t, eq_f, ↓reduceIte, not_true_eq_false, not_false_eq_true, ite_10, bt_0, bt_1, q198, q199, q200, q201, q202, q203, q204, q205, q206, q207, q190, q189, q187]
        cases e : sF f i
        · simp only [oI_s, decide_true, decide_false, ↓reduceIte, not_true_eq_false, not_false_eq_true, Bool.false_eq_true, Bool.true_eq_false, Bool.and_true, Bool.and_false, Bool.true_and, Bool.false_and, Bool.or_true, Bool.or_false, Bool.true_or, Bool.false_or, Bool.not_true, Bool.not_false]
        · rw [h.2.2.2.2.2.2.1 i hi (sF_U e), h.2.2.2.2.2.2.1 j hj8 (sF_U hjf)]
          by_cases hh : f (74 + 21 * j + 3) ≤ f (74 + 21 * i + 3) <;> simp only [hh, oI_s, decide_true, decide_false, ↓reduceIte, not_true_eq_false, not_false_eq_true, Bool.false_eq_true, Bool.true_eq_false, Bool.and_true, Bool.and_false, Bool.true_and, Bool.false_and, Bool.or_true, Bool.or_false, Bool.true_or, Bool.false_or, Bool.not_true, Bool.not_false]
    · intro k hk
      by_cases hp : sF f i = true
      · rw [if_pos hp] at hk
        cases b with
        | none => cases hk; exact ⟨hi, hp⟩
        | some z =>
          dsimp only at hk
          have := hj z rfl
          split at hk <;> cases hk
          · exact this
          · exact ⟨hi, hp⟩
      · rw [if_neg hp] at hk; exact hj k hk
theorem mnI_le {x y : Int32} : mnI x y = if x ≤ y then x else y := by
  unfold mnI
  by_cases h : y < x
  · rw [if_pos h, if_neg (Int32.not_le.mpr h)]
  · rw [if_neg h, if_pos (Int32.not_lt.mp h)]
theorem fo_id {σ : Type} {g : Nat → σ → σ} : ∀ {m i : Nat} {b : σ}, (∀ k, i ≤ k → k < i + m → g k b = b) → fo g m i b = b := by
  intro m
  induction m with
  | zero => intro i b _; rfl
  | succ m ih => intro i b h; rw [fo_s, h i (Nat.le_refl _) (by omega)]; exact ih (fun k h1 h2 => h k (by omega) (by omega))
theorem p76 (h : RS s a f) {i : Nat} (hi : i < 8) (hu : sU f i = true) : q76 a (nI i) s = rv (sFst f i) s := by
  unfold q76
  simp (disch := omega) only [nI_lit, nI_add, pk_mul, nI_clp, nI_eqv, nI_lev, nI_ltv, nI_neg, nI_neg', nI_subv, Nat.add_zero, Nat.zero_add, Nat.mul_zero, bN_rv, bM_ru, bV_rv, bV_rx, bU_ru, bU_rx, bN_ite, bM_ite, bV_ite, bU_ite, bx_e, sp_e, gA_ok, gZ_n, gB_0, gB_1, gB_i, decide_true, decide_false, ↓reduceIte, not_true_eq_false, not_false_eq_true, Bool.false_eq_true, Bool.true_eq_false, Bool.and_true, Bool.and_false, Bool.true_and, Bool.false_and, Bool.or_true, Bool.or_false, Bool.true_or, Bool.false_or, Bool.not_true, Bool.not_false, le_f, le_t, lt_f, lt_t, eq_f, ↓reduceIte, not_true_eq_false, not_false_eq_true, ite_10, bt_0, bt_1]
  rw [h.2.2.2.2.2.2.2.2.2.2.1 i hi hu]
  have hb : ∀ k, k < 8 → bt (s.1 (a + 9) i &&& s.1 a 1) k = (bt (f (74 + 21 * i + 7)) k && sF f k) := by
    intro k hk
    rw [b_and, h.2.1 k, h.2.2.2.2.2.2.2.2.2.2.2.2.1 i hi, decide_eq_true hk, Bool.true_and]
  generalize s.1 (a + 9) i &&& s.1 a 1 = w at hb
  unfold sFst
  by_cases hz : w = nI 0
  · rw [fo_id]
    · rw [hz]
      show q76_22 a (9999 + 1) _ _ _ _ = _
      simp (disch := omega) only [q76_22, nI_lit, nI_add, pk_mul, nI_clp, nI_eqv, nI_lev, nI_ltv, nI_neg, nI_neg', nI_subv, Nat.add_zero, Nat.zero_add, Nat.mul_zero, bN_rv, bM_ru, bV_rv, bV_rx, bU_ru, bU_rx, bN_ite, bM_ite, bV_ite, bU_ite, bx_e, sp_e, gA_ok, gZ_n, gB_0, gB_1, gB_i, decide_true, decide_false, ↓reduceIte, not_true_eq_false, not_false_eq_true, Bool.false_eq_true, Bool.true_eq_false, Bool.and_true, Bool.and_false, Bool.true_and, Bool.false_and, Bool.or_true, Bool.or_false, Bool.true_or, Bool.false_or, Bool.not_true, Bool.not_false, le_f, le_t, lt_f, lt_t, eq_f, ↓reduceIte, not_true_eq_false, not_false_eq_true, ite_10, bt_0, bt_1]
    · intro k h1 h2
      rw [← hb k (by omega), hz, bt_n0]
      rfl
  · refine lp_fo (Q := fun n b k => q76_22 a n b w k s) (out := fun b => rv b s) (fun n b => ?_) (fun n k b hk => ?_) _ 10000 (by omega)
    · simp (disch := omega) only [q76_22, nI_lit, nI_add, pk_mul, nI_clp, nI_eqv, nI_lev, nI_ltv, nI_neg, nI_neg', nI_subv, Nat.add_zero, Nat.zero_add, Nat.mul_zero, bN_rv, bM_ru, bV_rv, bV_rx, bU_ru, bU_rx, bN_ite, bM_ite, bV_ite, bU_ite, bx_e, sp_e, gA_ok, gZ_n, gB_0, gB_1, gB_i, decide_true, decide_false, ↓reduceIte, not_true_eq_false, not_false_eq_true, Bool.false_eq_true, Bool.true_eq_false, Bool.and_true, Bool.and_false, Bool.true_and, Bool.false_and, Bool.or_true, Bool.or_false, Bool.true_or, Bool.false_or, Bool.not_true, Bool.not_false, le_f, le_t, lt_f, lt_t, eq_f, ↓reduceIte, not_true_eq_false, not_false_eq_true, ite_10, bt_0, bt_1]
    · simp (disch := omega) only [q76_22, q76_65, q76_57, hz, hb k hk, nI_lit, nI_add, pk_mul, nI_clp, nI_eqv, nI_lev, nI_ltv, nI_neg, nI_neg', nI_subv, Nat.add_zero, Nat.zero_add, Nat.mul_zero, bN_rv, bM_ru, bV_rv, bV_rx, bU_ru, bU_rx, bN_ite, bM_ite, bV_ite, bU_ite, bx_e, sp_e, gA_ok, gZ_n, gB_0, gB_1, gB_i, decide_true, decide_false, ↓reduceIte, not_true_eq_false, not_false_eq_true, Bool.false_eq_true, Bool.true_eq_false, Bool.and_true, Bool.and_false, Bool.true_and, Bool.false_and, Bool.or_true, Bool.or_false, Bool.true_or, Bool.false_or, Bool.not_true, Bool.not_false, le_f, le_t, lt_f, lt_t, eq_f, ↓reduceIte, not_true_eq_false, not_false_eq_true, ite_10, bt_0, bt_1]
      rw [mnI_le]
      cases e : bt (f (74 + 21 * i + 7)) k <;> cases e1 : sF f k
      · simp only [decide_true, decide_false, ↓reduceIte, not_true_eq_false, not_false_eq_true, Bool.false_eq_true, Bool.true_eq_false, Bool.and_true, Bool.and_false, Bool.true_and, Bool.false_and, Bool.or_true, Bool.or_false, Bool.true_or, Bool.false_or, Bool.not_true, Bool.not_false]
      · simp only [decide_true, decide_false, ↓reduceIte, not_true_eq_false, not_false_eq_true, Bool.false_eq_true, Bool.true_eq_false, Bool.and_true, Bool.and_false, Bool.true_and, Bool.false_and, Bool.or_true, Bool.or_false, Bool.true_or, Bool.false_or, Bool.not_true, Bool.not_false]
      · simp only [decide_true, decide_false, ↓reduceIte, not_true_eq_false, not_false_eq_true, Bool.false_eq_true, Bool.true_eq_false, Bool.and_true, Bool.and_false, Bool.true_and, Bool.false_and, Bool.or_true, Bool.or_false, Bool.true_or, Bool.false_or, Bool.not_true, Bool.not_false]
      · rw [h.2.2.2.2.2.2.1 k hk (sF_U e1)]
        by_cases e2 : b = nI 0
        · simp only [e2, decide_true, decide_false, ↓reduceIte, not_true_eq_false, not_false_eq_true, Bool.false_eq_true, Bool.true_eq_false, Bool.and_true, Bool.and_false, Bool.true_and, Bool.false_and, Bool.or_true, Bool.or_false, Bool.true_or, Bool.false_or, Bool.not_true, Bool.not_false]
        · by_cases e3 : b ≤ f (74 + 21 * k + 3) <;> simp only [e2, e3, decide_true, decide_false, ↓reduceIte, not_true_eq_false, not_false_eq_true, Bool.false_eq_true, Bool.true_eq_false, Bool.and_true, Bool.and_false, Bool.true_and, Bool.false_and, Bool.or_true, Bool.or_false, Bool.true_or, Bool.false_or, Bool.not_true, Bool.not_false]
end GD
