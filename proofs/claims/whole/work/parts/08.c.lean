/-! THE CLASS'S SLOTS (at a) AGAINST THE REFERENCE'S ROW f -/
def sU (f : Nat → Int32) (i : Nat) : Bool := !(decide (f (74 + 21 * i) = nI 0))
def RS (s : mS) (a : Nat) (f : Nat → Int32) : Prop :=
  (∀ j, bt (s.1 a 0) j = (decide (j < 8) && sR f j)) ∧
  (∀ j, bt (s.1 a 1) j = (decide (j < 8) && sF f j)) ∧
  (∀ j, bt (s.1 a 2) j = (decide (j < 8) && (sU f j && sOn f j))) ∧
  (∀ j, bt (s.1 a 3) j = (decide (j < 8) && decide (f (74 + 21 * j + 10) = nI 1))) ∧
  (∀ i, i < 8 → sU f i = true → s.1 (a + 1) i = f (74 + 21 * i + 1)) ∧
  (∀ i, i < 8 → sU f i = true → s.1 (a + 2) i = f (74 + 21 * i + 2)) ∧
  (∀ i, i < 8 → sU f i = true → s.1 (a + 3) i = f (74 + 21 * i + 3)) ∧
  (∀ i, i < 8 → sU f i = true → s.1 (a + 4) i = f (74 + 21 * i + 4)) ∧
  (∀ i, i < 8 → sU f i = true → s.1 (a + 5) i = f (74 + 21 * i + 5)) ∧
  (∀ i, i < 8 → sU f i = true → s.1 (a + 6) i = f (74 + 21 * i + 6)) ∧
  (∀ i, i < 8 → sU f i = true → s.1 (a + 7) i = f (74 + 21 * i + 8)) ∧
  (∀ i, i < 8 → sU f i = true → s.1 (a + 8) i = f (74 + 21 * i + 9)) ∧
  (∀ i, i < 8 → s.1 (a + 9) i = f (74 + 21 * i + 7)) ∧
  (∀ i, i < 8 → s.1 (a + 10) i = sIn f i) ∧
  (∀ i, i < 8 → sU f i = true → ∀ k, k < 10 → s.1 (a + 11) (10 * i + k) = f (74 + 21 * i + 11 + k))
/-- what holds of the reference's slots by itself -/
def IS (f : Nat → Int32) : Prop :=
  IW f ∧
  (∀ i, i < 8 → f (74 + 21 * i) = nI 0 ∨ f (74 + 21 * i) = nI 1 ∨ f (74 + 21 * i) = nI 2) ∧
  (∀ i, i < 8 → f (74 + 21 * i) = nI 0 → ∀ w, w < 21 → f (74 + 21 * i + w) = nI 0) ∧
  (∀ i j, i < 8 → bt (f (74 + 21 * i + 7)) j = true → j < 8 ∧ sU f j = true) ∧
  (∀ i, i < 8 → f (74 + 21 * i + 10) = nI 0 ∨ f (74 + 21 * i + 10) = nI 1) ∧
  (∀ i j, i < 8 → j < 8 → sR f i = true → sR f j = true → f (74 + 21 * i + 1) = f (74 + 21 * j + 1) → i = j) ∧
  (∀ i j k, i < 8 → j < 8 → k < 10 → sR f i = true → sR f j = true → bt (f (74 + 21 * i + 6)) k = true → bt (f (74 + 21 * j + 6)) k = true → i = j)
theorem sR_U {f : Nat → Int32} {i : Nat} (h : sR f i = true) : sU f i = true := by
  unfold sR at h; unfold sU
  rw [of_decide_eq_true h]; rfl
theorem sF_U {f : Nat → Int32} {i : Nat} (h : sF f i = true) : sU f i = true := by
  unfold sF at h; unfold sU
  rw [of_decide_eq_true h]; rfl
theorem sU_RF {f : Nat → Int32} {i : Nat} (hi : IS f) (h : i < 8) : sU f i = (sR f i || sF f i) := by
  unfold sU sR sF
  rcases hi.2.1 i h with e | e | e <;> rw [e] <;> rfl
theorem sR_F {f : Nat → Int32} {i : Nat} (h : sR f i = true) : sF f i = false := by
  unfold sR at h; unfold sF
  rw [of_decide_eq_true h]; rfl
theorem m190 {x : Int32} {i : Nat} (hi : i < 32) {t : mS} : q190 x (nI i) t = rv (b2 (bt x i)) t := by
  unfold q190
  simp (disch := omega) only [nI_lit, nI_add, pk_mul, nI_clp, nI_eqv, nI_lev, nI_ltv, nI_neg, nI_neg', nI_subv, Nat.add_zero, Nat.zero_add, Nat.mul_zero, bN_rv, bM_ru, bV_rv, bV_rx, bU_ru, bU_rx, bN_ite, bM_ite, bV_ite, bU_ite, bx_e, sp_e, gA_ok, gZ_n, gB_0, gB_1, gB_i, decide_true, decide_false, ↓reduceIte, not_true_eq_false, not_false_eq_true, Bool.false_eq_true, Bool.true_eq_false, Bool.and_true, Bool.and_false, Bool.true_and, Bool.false_and, Bool.or_true, Bool.or_false, Bool.true_or, Bool.false_or, Bool.not_true, Bool.not_false, le_f, le_t, lt_f, lt_t, eq_f, ↓reduceIte, not_true_eq_false, not_false_eq_true, ite_10, bt_0, bt_1]
  cases bt x i <;> simp only [b2_t, b2_f, decide_true, decide_false, ↓reduceIte, not_true_eq_false, not_false_eq_true, Bool.false_eq_true, Bool.true_eq_false, Bool.and_true, Bool.and_false, Bool.true_and, Bool.false_and, Bool.or_true, Bool.or_false, Bool.true_or, Bool.false_or, Bool.not_true, Bool.not_false]
theorem m205 {i : Nat} (hi : i < 8) {t : mS} : q205 (nI i) t = rv (b2 (sR (t.1 513) i)) t := by
  unfold q205 sR
  simp (disch := omega) only [q203, q204, nI_lit, nI_add, pk_mul, nI_clp, nI_eqv, nI_lev, nI_ltv, nI_neg, nI_neg', nI_subv, Nat.add_zero, Nat.zero_add, Nat.mul_zero, bN_rv, bM_ru, bV_rv, bV_rx, bU_ru, bU_rx, bN_ite, bM_ite, bV_ite, bU_ite, bx_e, sp_e, gA_ok, gZ_n, gB_0, gB_1, gB_i, decide_true, decide_false, ↓reduceIte, not_true_eq_false, not_false_eq_true, Bool.false_eq_true, Bool.true_eq_false, Bool.and_true, Bool.and_false, Bool.true_and, Bool.false_and, Bool.or_true, Bool.or_false, Bool.true_or, Bool.false_or, Bool.not_true, Bool.not_false, le_f, le_t, lt_f, lt_t, eq_f, ↓reduceIte, not_true_eq_false, not_false_eq_true, ite_10, bt_0, bt_1]
  by_cases h : t.1 513 (74 + 21 * i) = nI 1 <;> simp only [h, b2_t, b2_f, decide_true, decide_false, ↓reduceIte, not_true_eq_false, not_false_eq_true, Bool.false_eq_true, Bool.true_eq_false, Bool.and_true, Bool.and_false, Bool.true_and, Bool.false_and, Bool.or_true, Bool.or_false, Bool.true_or, Bool.false_or, Bool.not_true, Bool.not_false]
theorem m206 {i : Nat} (hi : i < 8) {t : mS} : q206 (nI i) t = rv (b2 (sF (t.1 513) i)) t := by
  unfold q206 sF
  simp (disch := omega) only [q203, q204, nI_lit, nI_add, pk_mul, nI_clp, nI_eqv, nI_lev, nI_ltv, nI_neg, nI_neg', nI_subv, Nat.add_zero, Nat.zero_add, Nat.mul_zero, bN_rv, bM_ru, bV_rv, bV_rx, bU_ru, bU_rx, bN_ite, bM_ite, bV_ite, bU_ite, bx_e, sp_e, gA_ok, gZ_n, gB_0, gB_1, gB_i, decide_true, decide_false, ↓reduceIte, not_true_eq_false, not_false_eq_true, Bool.false_eq_true, Bool.true_eq_false, Bool.and_true, Bool.and_false, Bool.true_and, Bool.false_and, Bool.or_true, Bool.or_false, Bool.true_or, Bool.false_or, Bool.not_true, Bool.not_false, le_f, le_t, lt_f, lt_t, eq_f, ↓reduceIte, not_true_eq_false, not_false_eq_true, ite_10, bt_0, bt_1]
  by_cases h : t.1 513 (74 + 21 * i) = nI 2 <;> simp only [h, b2_t, b2_f, decide_true, decide_false, ↓reduceIte, not_true_eq_false, not_false_eq_true, Bool.false_eq_true, Bool.true_eq_false, Bool.and_true, Bool.and_false, Bool.true_and, Bool.false_and, Bool.or_true, Bool.or_false, Bool.true_or, Bool.false_or, Bool.not_true, Bool.not_false]
section GC
variable {s : mS} {a : Nat} {f : Nat → Int32}
theorem p64 (h : RS s a f) {i : Nat} (hi : i < 8) : q64 a (nI i) s = rv (b2 (sR f i)) s := by
  unfold q64
  simp (disch := omega) only [nI_lit, nI_add, pk_mul, nI_clp, nI_eqv, nI_lev, nI_ltv, nI_neg, nI_neg', nI_subv, Nat.add_zero, Nat.zero_add, Nat.mul_zero, bN_rv, bM_ru, bV_rv, bV_rx, bU_ru, bU_rx, bN_ite, bM_ite, bV_ite, bU_ite, bx_e, sp_e, gA_ok, gZ_n, gB_0, gB_1, gB_i, decide_true, decide_false, ↓reduceIte, not_true_eq_false, not_false_eq_true, Bool.false_eq_true, Bool.true_eq_false, Bool.and_true, Bool.and_false, Bool.true_and, Bool.false_and, Bool.or_true, Bool.or_false, Bool.true_or, Bool.false_or, Bool.not_true, Bool.not_false, le_f, le_t, lt_f, lt_t, eq_f, ↓reduceIte, not_true_eq_false, not_false_eq_true, ite_10, bt_0, bt_1]
  rw [h.1 i, decide_eq_true hi, Bool.true_and]
  cases sR f i <;> rfl
theorem p65 (h : RS s a f) (hs : IS f) {i : Nat} (hi : i < 8) : q65 a (nI i) s = rv (b2 (sU f i)) s := by
  unfold q65
  simp (disch := omega) only [nI_lit, nI_add, pk_mul, nI_clp, nI_eqv, nI_lev, nI_ltv, nI_neg, nI_neg', nI_subv, Nat.add_zero, Nat.zero_add, Nat.mul_zero, bN_rv, bM_ru, bV_rv, bV_rx, bU_ru, bU_rx, bN_ite, bM_ite, bV_ite, bU_ite, bx_e, sp_e, gA_ok, gZ_n, gB_0, gB_1, gB_i, decide_true, decide_false, ↓reduceIte, not_true_eq_false, not_false_eq_true, Bool.false_eq_true, Bool.true_eq_false, Bool.and_true, Bool.and_false, Bool.true_and, Bool.false_and, Bool.or_true, Bool.or_false, Bool.true_or, Bool.false_or, Bool.not_true, Bool.not_false, le_f, le_t, lt_f, lt_t, eq_f, ↓reduceIte, not_true_eq_false, not_false_eq_true, ite_10, bt_0, bt_1]
  rw [b_or, h.1 i, h.2.1 i, decide_eq_true hi, Bool.true_and, Bool.true_and, ← sU_RF hs hi]
  cases sU f i <;> rfl
theorem p66 (h : RS s a f) {i : Nat} (hi : i < 8) (hu : sU f i = true) : q66 a (nI i) s = rv (b2 (sOn f i)) s := by
  unfold q66
  simp (disch := omega) only [nI_lit, nI_add, pk_mul, nI_clp, nI_eqv, nI_lev, nI_ltv, nI_neg, nI_neg', nI_subv, Nat.add_zero, Nat.zero_add, Nat.mul_zero, bN_rv, bM_ru, bV_rv, bV_rx, bU_ru, bU_rx, bN_ite, bM_ite, bV_ite, bU_ite, bx_e, sp_e, gA_ok, gZ_n, gB_0, gB_1, gB_i, decide_true, decide_false, ↓reduceIte, not_true_eq_false, not_false_eq_true, Bool.false_eq_true, Bool.true_eq_false, Bool.and_true, Bool.and_false, Bool.true_and, Bool.false_and, Bool.or_true, Bool.or_false, Bool.true_or, Bool.false_or, Bool.not_true, Bool.not_false, le_f, le_t, lt_f, lt_t, eq_f, ↓reduceIte, not_true_eq_false, not_false_eq_true, ite_10, bt_0, bt_1]
  rw [h.2.2.1 i, decide_eq_true hi, Bool.true_and, hu, Bool.true_and]
  cases sOn f i <;> rfl
theorem p67 (h : RS s a f) {i : Nat} (hi : i < 8) : q67 a (nI i) s = rv (b2 (decide (f (74 + 21 * i + 10) = nI 1))) s := by
  unfold q67
  simp (disch := omega) only [nI_lit, nI_add, pk_mul, nI_clp, nI_eqv, nI_lev, nI_ltv, nI_neg, nI_neg', nI_subv, Nat.add_zero, Nat.zero_add, Nat.mul_zero, bN_rv, bM_ru, bV_rv, bV_rx, bU_ru, bU_rx, bN_ite, bM_ite, bV_ite, bU_ite, bx_e, sp_e, gA_ok, gZ_n, gB_0, gB_1, gB_i, decide_true, decide_false, ↓reduceIte, not_true_eq_false, not_false_eq_true, Bool.false_eq_true, Bool.true_eq_false, Bool.and_true, Bool.and_false, Bool.true_and, Bool.false_and, Bool.or_true, Bool.or_false, Bool.true_or, Bool.false_or, Bool.not_true, Bool.not_false, le_f, le_t, lt_f, lt_t, eq_f, ↓reduceIte, not_true_eq_false, not_false_eq_true, ite_10, bt_0, bt_1]
  rw [h.2.2.2.1 i, decide_eq_true hi, Bool.true_and]
  cases decide (f (74 + 21 * i + 10) = nI 1) <;> rfl
theorem p70 (h : RS s a f) (hs : IS f) : q70 a s = rv (oI (fs (fun i => !(sU f i)) 8 0)) s := by
  unfold q70
  rw [nI_lit]
  have := lp_fs (Q := fun n i => q70_2 a n i s) (p := fun i => !(sU f i)) (e := 8) (no := rv (-nI 1) s) (yes := fun i => rv (nI i) s) (fun n => ?_) (fun n i hi => ?_) 8 0 10000 (by omega) (by omega)
  · rw [this]
    cases fs (fun i => !(sU f i)) 8 0 <;> rfl
  · simp (disch := omega) only [q70_2, nI_lit, nI_add, pk_mul, nI_clp, nI_eqv, nI_lev, nI_ltv, nI_neg, nI_neg', nI_subv, Nat.add_zero, Nat.zero_add, Nat.mul_zero, bN_rv, bM_ru, bV_rv, bV_rx, bU_ru, bU_rx, bN_ite, bM_ite, bV_ite, bU_ite, bx_e, sp_e, gA_ok, gZ_n, gB_0, gB_1, gB_i, decide_true, decide_false, ↓reduceIte, not_true_eq_false, not_false_eq_true, Bool.false_eq_true, Bool.true_eq_false, Bool.and_true, Bool.and_false, Bool.true_and, Bool.false_and, Bool.or_true, Bool.or_false, Bool.true_or, Bool.false_or, Bool.not_true, Bool.not_false, le_f, le_t, lt_f, lt_t, eq_f, ↓reduceIte, not_true_eq_false, not_false_eq_true, ite_10, bt_0, bt_1]
  · simp (disch := omega) only [q70_2, p65 h hs, b2_0, nI_lit, nI_add, pk_mul, nI_clp, nI_eqv, nI_lev, nI_ltv, nI_neg, nI_neg', nI_subv, Nat.add_zero, Nat.zero_add, Nat.mul_zero, bN_rv, bM_ru, bV_rv, bV_rx, bU_ru, bU_rx, bN_ite, bM_ite, bV_ite, bU_ite, bx_e, sp_e, gA_ok, gZ_n, gB_0, gB_1, gB_i, decide_true, decide_false, ↓reduceIte, not_true_eq_false, not_false_eq_true, Bool.false_eq_true, Bool.true_eq_false, Bool.and_true, Bool.and_false, Bool.true_and, Bool.false_and, Bool.or_true, Bool.or_false, Bool.true_or, Bool.false_or, Bool.not_true, Bool.not_false, le_f, le_t, lt_f, lt_t, eq_f, ↓reduceIte, not_true_eq_false, not_false_eq_true, ite_10, bt_0, bt_1]
    cases sU f i <;> simp only [decide_true, decide_false, ↓reduceIte, not_true_eq_false, not_false_eq_true, Bool.false_eq_true, Bool.true_eq_false, Bool.and_true, Bool.and_false, Bool.true_and, Bool.false_and, Bool.or_true, Bool.or_false, Bool.true_or, Bool.false_or, Bool.not_true, Bool.not_false]
theorem p71 (h : RS s a f) (c : Int32) : q71 a c s = rv (oI (fs (fun i => sR f i && decide (f (74 + 21 * i + 1) = c)) 8 0)) s := by
  unfold q71
  rw [nI_lit]
  have := lp_fs (Q := fun n i => q71_2 a n c i s) (p := fun i => sR f i && decide (f (74 + 21 * i + 1) = c)) (e := 8) (no := rv (-nI 1) s) (yes := fun i => rv (nI i) s) (fun n => ?_) (fun n i hi => ?_) 8 0 10000 (by omega) (by omega)
  · rw [this]
    cases fs (fun i => sR f i && decide (f (74 + 21 * i + 1) = c)) 8 0 <;> rfl
  · simp (disch := omega) only [q71_2, nI_lit, nI_add, pk_mul, nI_clp, nI_eqv, nI_lev, nI_ltv, nI_neg, nI_neg', nI_subv, Nat.add_zero, Nat.zero_add, Nat.mul_zero, bN_rv, bM_ru, bV_rv, bV_rx, bU_ru, bU_rx, bN_ite, bM_ite, bV_ite, bU_ite, bx_e, sp_e, gA_ok, gZ_n, gB_0, gB_1, gB_i, decide_true, decide_false, ↓reduceIte, not_true_eq_false, not_false_eq_true, Bool.false_eq_true, Bool.true_eq_false, Bool.and_true, Bool.and_false, Bool.true_and, Bool.false_and, Bool.or_true, Bool.or_false, Bool.true_or, Bool.false_or, Bool.not_true, Bool.not_false, le_f, le_t, lt_f, lt_t, eq_f, ↓reduceIte, not_true_eq_false, not_false_eq_true, ite_10, bt_0, bt_1]
  · simp (disch := omega) only [q71_2, q71_31, h.1 i, decide_eq_true hi, Bool.true_and, nI_lit, nI_add, pk_mul, nI_clp, nI_eqv, nI_lev, nI_ltv, nI_neg, nI_neg', nI_subv, Nat.add_zero, Nat.zero_add, Nat.mul_zero, bN_rv, bM_ru, bV_rv, bV_rx, bU_ru, bU_rx, bN_ite, bM_ite, bV_ite, bU_ite, bx_e, sp_e, gA_ok, gZ_n, gB_0, gB_1, gB_i, decide_true, decide_false, ↓reduceIte, not_true_eq_false, not_false_eq_true, Bool.false_eq_true, Bool.true_eq_false, Bool.and_true, Bool.and_false, Bool.true_and, Bool.false_and, Bool.or_true, Bool.or_false, Bool.true_or, Bool.false_or, Bool.not_true, Bool.not_false, le_f, le_t, lt_f, lt_t, eq_f, ↓reduceIte, not_true_eq_false, not_false_eq_true, ite_10, bt_0, bt_1]
    cases e : sR f i
    · simp only [decide_true, decide_false, ↓reduceIte, not_true_eq_false, not_false_eq_true, Bool.false_eq_true, Bool.true_eq_false, Bool.and_true, Bool.and_false, Bool.true_and, Bool.false_and, Bool.or_true, Bool.or_false, Bool.true_or, Bool.false_or, Bool.not_true, Bool.not_false]
    · rw [h.2.2.2.2.1 i hi (sR_U e)]
      by_cases e2 : f (74 + 21 * i + 1) = c <;> simp only [e2, decide_true, decide_false, ↓reduceIte, not_true_eq_false, not_false_eq_true, Bool.false_eq_true, Bool.true_eq_false, Bool.and_true, Bool.and_false, Bool.true_and, Bool.false_and, Bool.or_true, Bool.or_false, Bool.true_or, Bool.false_or, Bool.not_true, Bool.not_false]
theorem p72 (h : RS s a f) {k : Nat} (hk : k < 10) : q72 a (nI k) s = rv (oI (fs (fun i => sR f i && bt (f (74 + 21 * i + 6)) k) 8 0)) s := by
  unfold q72
  rw [nI_lit]
  have := lp_fs (Q := fun n i => q72_2 a n (nI k) i s) (p := fun i => sR f i && bt (f (74 + 21 * i + 6)) k) (e := 8) (no := rv (-nI 1) s) (yes := fun i => rv (nI i) s) (fun n => ?_) (fun n i hi => ?_) 8 0 10000 (by omega) (by omega)
  · rw [this]
    cases fs (fun i => sR f i && bt (f (74 + 21 * i + 6)) k) 8 0 <;> rfl
  · simp (disch := omega) only [q72_2, nI_lit, nI_add, pk_mul, nI_clp, nI_eqv, nI_lev, nI_ltv, nI_neg, nI_neg', nI_subv, Nat.add_zero, Nat.zero_add, Nat.mul_zero, bN_rv, bM_ru, bV_rv, bV_rx, bU_ru, bU_rx, bN_ite, bM_ite, bV_ite, bU_ite, bx_e, sp_e, gA_ok, gZ_n, gB_0, gB_1, gB_i, decide_true, decide_false, ↓reduceIte, not_true_eq_false, not_false_eq_true, Bool.false_eq_true, Bool.true_eq_false, Bool.and_true, Bool.and_false, Bool.true_and, Bool.false_and, Bool.or_true, Bool.or_false, Bool.true_or, Bool.false_or, Bool.not_true, Bool.not_false, le_f, le_t, lt_f, lt_t, eq_f, ↓reduceIte, not_true_eq_false, not_false_eq_true, ite_10, bt_0, bt_1]
  · simp (disch := omega) only [q72_2, q72_34, h.1 i, decide_eq_true hi, Bool.true_and, nI_lit, nI_add, pk_mul, nI_clp, nI_eqv, nI_lev, nI_ltv, nI_neg, nI_neg', nI_subv, Nat.add_zero, Nat.zero_add, Nat.mul_zero, bN_rv, bM_ru, bV_rv, bV_rx, bU_ru, bU_rx, bN_ite, bM_ite, bV_ite, bU_ite, bx_e, sp_e, gA_ok, gZ_n, gB_0, gB_1, gB_i, decide_true, decide_false, ↓reduceIte, not_true_eq_false, not_false_eq_true, Bool.false_eq_true, Bool.true_eq_false, Bool.and_true, Bool.and_false, Bool.true_and, Bool.false_and, Bool.or_true, Bool.or_false, Bool.true_or, Bool.false_or, Bool.not_true, Bool.not_false, le_f, le_t, lt_f, lt_t, eq_f, ↓reduceIte, not_true_eq_false, not_false_eq_true, ite_10, bt_0, bt_1]
    cases e : sR f i
    · simp only [decide_true, decide_false, ↓reduceIte, not_true_eq_false, not_false_eq_true, Bool.false_eq_true, Bool.true_eq_false, Bool.and_true, Bool.and_false, Bool.true_and, Bool.false_and, Bool.or_true, Bool.or_false, Bool.true_or, Bool.false_or, Bool.not_true, Bool.not_false]
    · rw [h.2.2.2.2.2.2.2.2.2.1 i hi (sR_U e)]
      cases bt (f (74 + 21 * i + 6)) k <;> simp only [decide_true, decide_false, ↓reduceIte, not_true_eq_false, not_false_eq_true, Bool.false_eq_true, Bool.true_eq_false, Bool.and_true, Bool.and_false, Bool.true_and, Bool.false_and, Bool.or_true, Bool.or_false, Bool.true_or, Bool.false_or, Bool.not_true, Bool.not_false]
end GC
/-- the running slot of a client, the writer of a key: the same -/
def sRun (f : Nat → Int32) (c : Int32) : Option Nat := fs (fun i => sR f i && decide (f (74 + 21 * i + 1) = c)) 8 0
def sWri (f : Nat → Int32) (k : Nat) : Option Nat := fs (fun i => sR f i && bt (f (74 + 21 * i + 6)) k) 8 0
theorem sOf_eq {f : Nat → Int32} (hs : IS f) (c : Int32) : sOf f c = oI (sRun f c) := by
  unfold sOf sRun
  rw [fo_last (p := fun k => sR f k && decide (f (74 + 21 * k + 1) = c))]
  · cases fs (fun i => sR f i && decide (f (74 + 21 * i + 1) = c)) 8 0 <;> rfl
  · intro j k h1 h2 h3 h4 h5 h6
    rw [Bool.and_eq_true] at h5 h6
    exact hs.2.2.2.2.2.1 j k (by omega) (by omega) h5.1 h6.1 ((of_decide_eq_true h5.2).trans (of_decide_eq_true h6.2).symm)
theorem sWr_eq {f : Nat → Int32} (hs : IS f) {k : Nat} (hk : k < 10) : sWr f k = oI (sWri f k) := by
  unfold sWr sWri
  rw [fo_last (p := fun i => sR f i && bt (f (74 + 21 * i + 6)) k)]
  · cases fs (fun i => sR f i && bt (f (74 + 21 * i + 6)) k) 8 0 <;> rfl
  · intro i j h1 h2 h3 h4 h5 h6
    rw [Bool.and_eq_true] at h5 h6
    exact hs.2.2.2.2.2.2 i j k (by omega) (by omega) hk h5.1 h6.1 h5.2 h6.2
