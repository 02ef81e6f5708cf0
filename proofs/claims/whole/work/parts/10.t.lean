/-! SERIAL -/
section LOOK
variable {B : Nat} {s : mS}
def srM (f : Nat → Int32) (n v : Nat) : Int32 := fo (fun j b => b ||| (if (!(decide (j = v)) && prA f j v) = true then shlI (nI 1) (nI j) else nI 0)) n 0 (nI 0)
theorem bt_srM {f : Nat → Int32} {n v : Nat} (hn : n ≤ 12) (j : Nat) : bt (srM f n v) j = (decide (j < n) && (!(decide (j = v)) && prA f j v)) := by
  unfold srM
  rw [fo_bits (p := fun j => !(decide (j = v)) && prA f j v) (by omega) j, bt_n0, Bool.false_or]
  congr 1
  exact decide_eq_decide.mpr (by omega)
def srP (f : Nat → Int32) (n : Nat) (v : Int32) (i : Nat) : Bool := bt v i && decide (srM f n i &&& v = nI 0)
def srS (f : Nat → Int32) (n : Nat) (v : Int32) : Int32 := oI (fs (srP f n v) n 0)
def srL (f : Nat → Int32) (n : Nat) : Nat → Int32 → Int32
  | 0, v => srS f n v
  | m + 1, v => if srS f n v = -nI 1 then -nI 1 else srL f n m (v &&& (shlI (nI 1) (srS f n v) ^^^ -nI 1))
theorem p18 {f : Nat → Int32} {n o : Nat} (hn : n ≤ 12) (ho : o < 12) (y0 : s.1 44 0 = nI n) (y1 : s.1 44 1 = nI o)
    (hq : ∀ r, r < n → s.1 (44 + 1) ((o + r) % 12) = f (242 + 24 * r) ∧ s.1 (44 + 2) ((o + r) % 12) = f (242 + 24 * r + 1) ∧ s.1 (44 + 3) ((o + r) % 12) = f (242 + 24 * r + 2) ∧ s.1 (44 + 4) ((o + r) % 12) = f (242 + 24 * r + 3) ∧ ∀ k, k < 10 → s.1 (44 + 5) (10 * ((o + r) % 12) + k) = f (242 + 24 * r + 4 + k) ∧ s.1 (44 + 6) (10 * ((o + r) % 12) + k) = f (242 + 24 * r + 14 + k)) :
    ∃ s', q18 44 s = ru s' ∧ F1 51 s s' ∧ ∀ v, v < n → s'.1 51 v = srM f n v := by
  have k19 : ∀ s', F1 51 s s' → ∀ r1 r2, r1 < n → r2 < n → q19 44 (nI ((o + r1) % 12)) (nI ((o + r2) % 12)) s' = rv (b2 (prA f r1 r2)) s' := fun s' hF r1 r2 h1 h2 => p19 hn (fun r hr => by
    rw [hF.1 (44 + 1) (by omega), hF.1 (44 + 2) (by omega), hF.1 (44 + 3) (by omega), hF.1 (44 + 4) (by omega), hF.1 (44 + 5) (by omega), hF.1 (44 + 6) (by omega)]
    exact hq r hr) h1 h2
  have k14 : ∀ s', F1 51 s s' → ∀ r, r < n → q14 44 (nI r) s' = rv (nI ((o + r) % 12)) s' := fun s' hF r hr => p14 (by rw [hF.1 44 (by omega)]; exact y1) ho (by omega)
  have ky : ∀ s', F1 51 s s' → s'.1 44 0 = nI n := fun s' hF => by rw [hF.1 44 (by omega)]; exact y0
  have inner : ∀ v, v < n → ∀ K m i k s', F1 51 s s' → i + m = n → m < k → ∃ s'', q18_19 K 44 k (nI v) (nI i) s' = K (nI v) s'' ∧ F1 51 s s'' ∧ s''.1 51 v = fo (fun j b => b ||| (if (!(decide (j = v)) && prA f j v) = true then shlI (nI 1) (nI j) else nI 0)) m i (s'.1 51 v) ∧ ∀ j, j ≠ v → s''.1 51 j = s'.1 51 j := by
    intro v hv K m
    induction m with
    | zero =>
      intro i k s' hF hi hk
      cases k with
      | zero => omega
      | succ k =>
        have : i = n := by omega
        subst this
        have y0' := ky s' hF
        exact ⟨s', by simp (disch := omega) only [q18_19, y0', nI_lit, nI_add, pk_mul, nI_clp, nI_eqv, nI_lev, nI_ltv, nI_neg, nI_neg', nI_subv, Nat.add_zero, Nat.zero_add, Nat.mul_zero, Nat.reduceAdd, bN_rv, bM_ru, bV_rv, bV_rx, bU_ru, bU_rx, bN_ite, bM_ite, bV_ite, bU_ite, ↓bx_e, ↓sp_e, gA_ok, gZ_n, gB_0, gB_1, gB_i, and_true, and_false, true_and, false_and, decide_true, decide_false, ↓reduceIte, not_true_eq_false, not_false_eq_true, Bool.false_eq_true, Bool.true_eq_false, Bool.and_true, Bool.and_false, Bool.true_and, Bool.false_and, Bool.or_true, Bool.or_false, Bool.true_or, Bool.false_or, Bool.not_true, Bool.not_false, le_f, le_t, lt_f, lt_t, eq_f, ↓reduceIte, not_true_eq_false, not_false_eq_true, ite_10, bt_0, bt_1], hF, rfl, fun _ _ => rfl⟩
    | succ m ih =>
      intro i k s' hF hi hk
      cases k with
      | zero => omega
      | succ k =>
        have y0' := ky s' hF
        rw [fo]
        by_cases e : i = v
        · subst e
          obtain ⟨s'', j1, j2, j3, j4⟩ := ih (i + 1) k s' hF (by omega) (by omega)
          refine ⟨s'', ?_, j2, ?_, j4⟩
          · rw [← j1]; simp (disch := omega) only [q18_19, q18_61, y0', nI_lit, nI_add, pk_mul, nI_clp, nI_eqv, nI_lev, nI_ltv, nI_neg, nI_neg', nI_subv, Nat.add_zero, Nat.zero_add, Nat.mul_zero, Nat.reduceAdd, bN_rv, bM_ru, bV_rv, bV_rx, bU_ru, bU_rx, bN_ite, bM_ite, bV_ite, bU_ite, ↓bx_e, ↓sp_e, gA_ok, gZ_n, gB_0, gB_1, gB_i, and_true, and_false, true_and, false_and, decide_true, decide_false, ↓reduceIte, not_true_eq_false, not_false_eq_true, Bool.false_eq_true, Bool.true_eq_false, Bool.and_true, Bool.and_false, Bool.true_and, Bool.false_and, Bool.or_true, Bool.or_false, Bool.true_or, Bool.false_or, Bool.not_true, Bool.not_false, le_f, le_t, lt_f, lt_t, eq_f, ↓reduceIte, not_true_eq_false, not_false_eq_true, ite_10, bt_0, bt_1]
          · rw [j3]; simp only [or_z, and_true, and_false, true_and, false_and, decide_true, decide_false, ↓reduceIte, not_true_eq_false, not_false_eq_true, Bool.false_eq_true, Bool.true_eq_false, Bool.and_true, Bool.and_false, Bool.true_and, Bool.false_and, Bool.or_true, Bool.or_false, Bool.true_or, Bool.false_or, Bool.not_true, Bool.not_false]
        · have e1 := k14 s' hF i (by omega)
          have e2 := k14 s' hF v hv
          have e3 := k19 s' hF i v (by omega) hv
          cases hp : prA f i v
          · obtain ⟨s'', j1, j2, j3, j4⟩ := ih (i + 1) k s' hF (by omega) (by omega)
            refine ⟨s'', ?_, j2, ?_, j4⟩
            · rw [← j1]; simp (disch := omega) only [q18_19, q18_61, y0', e, e1, e2, e3, hp, b2_f, nI_lit, nI_add, pk_mul, nI_clp, nI_eqv, nI_lev, nI_ltv, nI_neg, nI_neg', nI_subv, Nat.add_zero, Nat.zero_add, Nat.mul_zero, Nat.reduceAdd, bN_rv, bM_ru, bV_rv, bV_rx, bU_ru, bU_rx, bN_ite, bM_ite, bV_ite, bU_ite, ↓bx_e, ↓sp_e, gA_ok, gZ_n, gB_0, gB_1, gB_i, and_true, and_false, true_and, false_and, decide_true, decide_false, ↓reduceIte, not_true_eq_false, not_false_eq_true, Bool.false_eq_true, Bool.true_eq_false, Bool.and_true, Bool.and_false, Bool.true_and, Bool.false_and, Bool.or_true, Bool.or_false, Bool.true_or, Bool.false_or, Bool.not_true, Bool.not_false, le_f, le_t, lt_f, lt_t, eq_f, ↓reduceIte, not_true_eq_false, not_false_eq_true, ite_10, bt_0, bt_1]
            · rw [j3]; simp only [or_z, e, and_true, and_false, true_and, false_and, decide_true, decide_false, ↓reduceIte, not_true_eq_false, not_false_eq_true, Bool.false_eq_true, Bool.true_eq_false, Bool.and_true, Bool.and_false, Bool.true_and, Bool.false_and, Bool.or_true, Bool.or_false, Bool.true_or, Bool.false_or, Bool.not_true, Bool.not_false]
          · have hF' : F1 51 s (sI s' 51 v (s'.1 51 v ||| shlI (nI 1) (nI i))) := ⟨fun b hb => by rw [sI_fn (by omega)]; exact hF.1 b hb, (Eq.trans rfl rfl : _ = s'.2).trans hF.2⟩
            obtain ⟨s'', j1, j2, j3, j4⟩ := ih (i + 1) k _ hF' (by omega) (by omega)
            refine ⟨s'', ?_, j2, ?_, ?_⟩
            · rw [← j1]; simp (disch := omega) only [q18_19, q18_61, y0', e, e1, e2, e3, hp, b2_t, one_ne, nI_lit, nI_add, pk_mul, nI_clp, nI_eqv, nI_lev, nI_ltv, nI_neg, nI_neg', nI_subv, Nat.add_zero, Nat.zero_add, Nat.mul_zero, Nat.reduceAdd, bN_rv, bM_ru, bV_rv, bV_rx, bU_ru, bU_rx, bN_ite, bM_ite, bV_ite, bU_ite, ↓bx_e, ↓sp_e, gA_ok, gZ_n, gB_0, gB_1, gB_i, and_true, and_false, true_and, false_and, decide_true, decide_false, ↓reduceIte, not_true_eq_false, not_false_eq_true, Bool.false_eq_true, Bool.true_eq_false, Bool.and_true, Bool.and_false, Bool.true_and, Bool.false_and, Bool.or_true, Bool.or_false, Bool.true_or, Bool.false_or, Bool.not_true, Bool.not_false, le_f, le_t, lt_f, lt_t, eq_f, ↓reduceIte, not_true_eq_false, not_false_eq_true, ite_10, bt_0, bt_1]
            · rw [j3, sI_sm, ud_e rfl]; simp only [e, and_true, and_false, true_and, false_and, decide_true, decide_false, ↓reduceIte, not_true_eq_false, not_false_eq_true, Bool.false_eq_true, Bool.true_eq_false, Bool.and_true, Bool.and_false, Bool.true_and, Bool.false_and, Bool.or_true, Bool.or_false, Bool.true_or, Bool.false_or, Bool.not_true, Bool.not_false]
            · intro j hj; rw [j4 j hj, sI_sm, ud_n hj]
  have outer : ∀ m i k s', F1 51 s s' → i + m = n → m < k → (∀ v, v < i → s'.1 51 v = srM f n v) → ∃ s'', q18_2 44 k (nI i) s' = ru s'' ∧ F1 51 s s'' ∧ ∀ v, v < n → s''.1 51 v = srM f n v := by
    intro m
    induction m with
    | zero =>
      intro i k s' hF hi hk hv
      cases k with
      | zero => omega
      | succ k =>
        have : i = n := by omega
        subst this
        have y0' := ky s' hF
        exact ⟨s', by simp (disch := omega) only [q18_2, y0', nI_lit, nI_add, pk_mul, nI_clp, nI_eqv, nI_lev, nI_ltv, nI_neg, nI_neg', nI_subv, Nat.add_zero, Nat.zero_add, Nat.mul_zero, Nat.reduceAdd, bN_rv, bM_ru, bV_rv, bV_rx, bU_ru, bU_rx, bN_ite, bM_ite, bV_ite, bU_ite, ↓bx_e, ↓sp_e, gA_ok, gZ_n, gB_0, gB_1, gB_i, and_true, and_false, true_and, false_and, decide_true, decide_false, ↓reduceIte, not_true_eq_false, not_false_eq_true, Bool.false_eq_true, Bool.true_eq_false, Bool.and_true, Bool.and_false, Bool.true_and, Bool.false_and, Bool.or_true, Bool.or_false, Bool.true_or, Bool.false_or, Bool.not_true, Bool.not_false, le_f, le_t, lt_f, lt_t, eq_f, ↓reduceIte, not_true_eq_false, not_false_eq_true, ite_10, bt_0, bt_1], hF, hv⟩
    | succ m ih =>
      intro i k s' hF hi hk hv
      cases k with
      | zero => omega
      | succ k =>
        have y0' := ky s' hF
        have hF' : F1 51 s (sI s' 51 i (nI 0)) := ⟨fun b hb => by rw [sI_fn (by omega)]; exact hF.1 b hb, (Eq.trans rfl rfl : _ = s'.2).trans hF.2⟩
        obtain ⟨s1, j1, j2, j3, j4⟩ := inner i (by omega) (q18_67 (q18_2 44 k) 44) n 0 10000 _ hF' (by omega) (by omega)
        rw [sI_sm, ud_e rfl] at j3
        obtain ⟨s2, l1, l2, l3⟩ := ih (i + 1) k s1 j2 (by omega) (by omega) (fun v hv' => by
          by_cases e : v = i
          · subst e; exact j3
          · rw [j4 v e, sI_sm, ud_n e]; exact hv v (by omega))
        refine ⟨s2, ?_, l2, l3⟩
        rw [← l1]
        simp (disch := omega) only [q18_2, y0', nI_lit, nI_add, pk_mul, nI_clp, nI_eqv, nI_lev, nI_ltv, nI_neg, nI_neg', nI_subv, Nat.add_zero, Nat.zero_add, Nat.mul_zero, Nat.reduceAdd, bN_rv, bM_ru, bV_rv, bV_rx, bU_ru, bU_rx, bN_ite, bM_ite, bV_ite, bU_ite, ↓bx_e, ↓sp_e, gA_ok, gZ_n, gB_0, gB_1, gB_i, and_true, and_false, true_and, false_and, decide_true, decide_false, ↓reduceIte, not_true_eq_false, not_false_eq_true, Bool.false_eq_true, Bool.true_eq_false, Bool.and_true, Bool.and_false, Bool.true_and, Bool.false_and, Bool.or_true, Bool.or_false, Bool.true_or, Bool.false_or, Bool.not_true, Bool.not_false, le_f, le_t, lt_f, lt_t, eq_f, ↓reduceIte, not_true_eq_false, not_false_eq_true, ite_10, bt_0, bt_1]
        refine j1.trans ?_
        simp (disch := omega) only [q18_67, nI_lit, nI_add, pk_mul, nI_clp, nI_eqv, nI_lev, nI_ltv, nI_neg, nI_neg', nI_subv, Nat.add_zero, Nat.zero_add, Nat.mul_zero, Nat.reduceAdd, bN_rv, bM_ru, bV_rv, bV_rx, bU_ru, bU_rx, bN_ite, bM_ite, bV_ite, bU_ite, ↓bx_e, ↓sp_e, gA_ok, gZ_n, gB_0, gB_1, gB_i, and_true, and_false, true_and, false_and, decide_true, decide_false, ↓reduceIte, not_true_eq_false, not_false_eq_true, Bool.false_eq_true, Bool.true_eq_false, Bool.and_true, Bool.and_false, Bool.true_and, Bool.false_and, Bool.or_true, Bool.or_false, Bool.true_or, Bool.false_or, Bool.not_true, Bool.not_false, le_f, le_t, lt_f, lt_t, eq_f, ↓reduceIte, not_true_eq_false, not_false_eq_true, ite_10, bt_0, bt_1]
  unfold q18
  rw [nI_lit]
  exact outer n 0 10000 s ⟨fun _ _ => rfl, rfl⟩ (by omega) (by omega) (fun v hv => by omega)
end LOOK
