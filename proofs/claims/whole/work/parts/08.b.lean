/-! THE REFERENCE'S WORDS OVER ITS ROW f (cell 513) -/
def sR (f : Nat → Int32) (i : Nat) : Bool := decide (f (74 + 21 * i) = nI 1)
def sF (f : Nat → Int32) (i : Nat) : Bool := decide (f (74 + 21 * i) = nI 2)
/-- all slots in a state, as bits -/
def sAll (f : Nat → Int32) (st : Int32) : Int32 := fo (fun k b => b ||| (if decide (f (74 + 21 * k) = st) = true then shlI (nI 1) (nI k) else nI 0)) 8 0 (nI 0)
theorem m208 {st : Int32} {t : mS} : q208 st t = rv (sAll (t.1 513) st) t := by
  unfold q208 sAll
  rw [nI_lit]
  refine lp_fo (Q := fun n b i => q208_4 n st b i t) (out := fun b => rv b t) (fun n b => ?_) (fun n i b hi => ?_) (nI 0) 10000 (by omega)
  · simp (disch := omega) only [q208_4, nI_lit, nI_add, pk_mul, nI_clp, nI_eqv, nI_lev, nI_ltv, nI_neg, nI_neg', nI_subv, Nat.add_zero, Nat.zero_add, Nat.mul_zero, bN_rv, bM_ru, bV_rv, bV_rx, bU_ru, bU_rx, bN_ite, bM_ite, bV_ite, bU_ite, bx_e, sp_e, gA_ok, gZ_n, gB_0, gB_1, gB_i, decide_true, decide_false, ↓reduceIte, not_true_eq_false, not_false_eq_true, Bool.false_eq_true, Bool.true_eq_false, Bool.and_true, Bool.and_false, Bool.true_and, Bool.false_and, Bool.or_true, Bool.or_false, Bool.true_or, Bool.false_or, Bool.not_true, Bool.not_false, le_f, le_t, lt_f, lt_t, eq_f, ↓reduceIte, not_true_eq_false, not_false_eq_true, ite_10, bt_0, bt_1]
  · simp (disch := omega) only [q208_4, q208_28, nI_lit, nI_add, pk_mul, nI_clp, nI_eqv, nI_lev, nI_ltv, nI_neg, nI_neg', nI_subv, Nat.add_zero, Nat.zero_add, Nat.mul_zero, bN_rv, bM_ru, bV_rv, bV_rx, bU_ru, bU_rx, bN_ite, bM_ite, bV_ite, bU_ite, bx_e, sp_e, gA_ok, gZ_n, gB_0, gB_1, gB_i, decide_true, decide_false, ↓reduceIte, not_true_eq_false, not_false_eq_true, Bool.false_eq_true, Bool.true_eq_false, Bool.and_true, Bool.and_false, Bool.true_and, Bool.false_and, Bool.or_true, Bool.or_false, Bool.true_or, Bool.false_or, Bool.not_true, Bool.not_false, le_f, le_t, lt_f, lt_t, eq_f, ↓reduceIte, not_true_eq_false, not_false_eq_true, ite_10, bt_0, bt_1, q198, q199, q200, q201, q202, q203, q204, q205, q206, q207, q190, q189, q187]
    by_cases h : t.1 513 (74 + 21 * i) = st
    · simp only [h, decide_true, ↓reduceIte, not_true_eq_false]
    · simp only [h, decide_false, ↓reduceIte, not_false_eq_true, Bool.false_eq_true]
theorem bt_sAll {f : Nat → Int32} {st : Int32} (j : Nat) : bt (sAll f st) j = (decide (j < 8) && decide (f (74 + 21 * j) = st)) := by
  unfold sAll
  rw [fo_bits (p := fun k => decide (f (74 + 21 * k) = st)) (by omega) j, bt_n0, Bool.false_or]
  congr 1
  exact decide_eq_decide.mpr (by omega)
/-- the running slot of a client: the last in the row (there is one at most) -/
def sOf (f : Nat → Int32) (c : Int32) : Int32 := fo (fun k b => if (sR f k && decide (f (74 + 21 * k + 1) = c)) = true then nI k else b) 8 0 (-nI 1)
theorem m209 {c : Int32} {t : mS} : q209 c t = rv (sOf (t.1 513) c) t := by
  unfold q209 sOf
  rw [nI_lit, nI_lit]
  refine lp_fo (Q := fun n b i => q209_4 n c b i t) (out := fun b => rv b t) (fun n b => ?_) (fun n i b hi => ?_) (-nI 1) 10000 (by omega)
  · simp (disch := omega) only [q209_4, nI_lit, nI_add, pk_mul, nI_clp, nI_eqv, nI_lev, nI_ltv, nI_neg, nI_neg', nI_subv, Nat.add_zero, Nat.zero_add, Nat.mul_zero, bN_rv, bM_ru, bV_rv, bV_rx, bU_ru, bU_rx, bN_ite, bM_ite, bV_ite, bU_ite, bx_e, sp_e, gA_ok, gZ_n, gB_0, gB_1, gB_i, decide_true, decide_false, ↓reduceIte, not_true_eq_false, not_false_eq_true, Bool.false_eq_true, Bool.true_eq_false, Bool.and_true, Bool.and_false, Bool.true_and, Bool.false_and, Bool.or_true, Bool.or_false, Bool.true_or, Bool.false_or, Bool.not_true, Bool.not_false, le_f, le_t, lt_f, lt_t, eq_f, ↓reduceIte, not_true_eq_false, not_false_eq_true, ite_10, bt_0, bt_1]
  · simp (disch := omega) only [q209_4, q209_33, q209_32, sR, nI_lit, nI_add, pk_mul, nI_clp, nI_eqv, nI_lev, nI_ltv, nI_neg, nI_neg', nI_subv, Nat.add_zero, Nat.zero_add, Nat.mul_zero, bN_rv, bM_ru, bV_rv, bV_rx, bU_ru, bU_rx, bN_ite, bM_ite, bV_ite, bU_ite, bx_e, sp_e, gA_ok, gZ_n, gB_0, gB_1, gB_i, decide_true, decide_false, ↓reduceIte, not_true_eq_false, not_false_eq_true, Bool.false_eq_true, Bool.true_eq_false, Bool.and_true, Bool.and_false, Bool.true_and, Bool.false_and, Bool.or_true, Bool.or_false, Bool.true_or, Bool.false_or, Bool.not_true, Bool.not_false, le_f, le_t, lt_f, lt_t, eq_f, ↓reduceIte, not_true_eq_false, not_false_eq_true, ite_10, bt_0, bt_1, q198, q199, q200, q201, q202, q203, q204, q205, q206, q207, q190, q189, q187]
    by_cases h : t.1 513 (74 + 21 * i) = nI 1 <;> by_cases h2 : t.1 513 (74 + 21 * i + 1) = c <;>
      simp only [h, h2, decide_true, decide_false, ↓reduceIte, not_true_eq_false, not_false_eq_true, Bool.false_eq_true, Bool.and_true, Bool.and_false, Bool.true_and, Bool.false_and]
def sWr (f : Nat → Int32) (k : Nat) : Int32 := fo (fun i b => if (sR f i && bt (f (74 + 21 * i + 6)) k) = true then nI i else b) 8 0 (-nI 1)
theorem m210 {k : Nat} (hk : k < 10) {t : mS} : q210 (nI k) t = rv (sWr (t.1 513) k) t := by
  unfold q210 sWr
  rw [nI_lit, nI_lit]
  refine lp_fo (Q := fun n b i => q210_4 n (nI k) b i t) (out := fun b => rv b t) (fun n b => ?_) (fun n i b hi => ?_) (-nI 1) 10000 (by omega)
  · simp (disch := omega) only [q210_4, nI_lit, nI_add, pk_mul, nI_clp, nI_eqv, nI_lev, nI_ltv, nI_neg, nI_neg', nI_subv, Nat.add_zero, Nat.zero_add, Nat.mul_zero, bN_rv, bM_ru, bV_rv, bV_rx, bU_ru, bU_rx, bN_ite, bM_ite, bV_ite, bU_ite, bx_e, sp_e, gA_ok, gZ_n, gB_0, gB_1, gB_i, decide_true, decide_false, ↓reduceIte, not_true_eq_false, not_false_eq_true, Bool.false_eq_true, Bool.true_eq_false, Bool.and_true, Bool.and_false, Bool.true_and, Bool.false_and, Bool.or_true, Bool.or_false, Bool.true_or, Bool.false_or, Bool.not_true, Bool.not_false, le_f, le_t, lt_f, lt_t, eq_f, ↓reduceIte, not_true_eq_false, not_false_eq_true, ite_10, bt_0, bt_1]
  · simp (disch := omega) only [q210_4, q210_36, q210_37, sR, nI_lit, nI_add, pk_mul, nI_clp, nI_eqv, nI_lev, nI_ltv, nI_neg, nI_neg', nI_subv, Nat.add_zero, Nat.zero_add, Nat.mul_zero, bN_rv, bM_ru, bV_rv, bV_rx, bU_ru, bU_rx, bN_ite, bM_ite, bV_ite, bU_ite, bx_e, sp_e, gA_ok, gZ_n, gB_0, gB_1, gB_i, decide_true, decide_false, ↓reduceIte, not_true_eq_false, not_false_eq_true, Bool.false_eq_true, Bool.true_eq_false, Bool.and_true, Bool.and_false, Bool.true_and, Bool.false_and, Bool.or_true, Bool.or_false, Bool.true_or, Bool.false_or, Bool.not_true, Bool.not_false, le_f, le_t, lt_f, lt_t, eq_f, ↓reduceIte, not_true_eq_false, not_false_eq_true, ite_10, bt_0, bt_1, q198, q199, q200, q201, q202, q203, q204, q205, q206, q207, q190, q189, q187]
    by_cases h : t.1 513 (74 + 21 * i) = nI 1 <;> by_cases h2 : bt (t.1 513 (74 + 21 * i + 6)) k = true <;>
      simp only [h, h2, decide_true, decide_false, ↓reduceIte, not_true_eq_false, not_false_eq_true, Bool.false_eq_true, Bool.and_true, Bool.and_false, Bool.true_and, Bool.false_and]
/-- slots with an edge to one -/
def sIn (f : Nat → Int32) (s : Nat) : Int32 := fo (fun i b => b ||| (if bt (f (74 + 21 * i + 7)) s = true then shlI (nI 1) (nI i) else nI 0)) 8 0 (nI 0)
theorem m211 {s : Nat} (hs : s < 8) {t : mS} : q211 (nI s) t = rv (sIn (t.1 513) s) t := by
  unfold q211 sIn
  rw [nI_lit]
  refine lp_fo (Q := fun n b i => q211_4 n (nI s) b i t) (out := fun b => rv b t) (fun n b => ?_) (fun n i b hi => ?_) (nI 0) 10000 (by omega)
  · simp (disch := omega) only [q211_4, nI_lit, nI_add, pk_mul, nI_clp, nI_eqv, nI_lev, nI_ltv, nI_neg, nI_neg', nI_subv, Nat.add_zero, Nat.zero_add, Nat.mul_zero, bN_rv, bM_ru, bV_rv, bV_rx, bU_ru, bU_rx, bN_ite, bM_ite, bV_ite, bU_ite, bx_e, sp_e, gA_ok, gZ_n, gB_0, gB_1, gB_i, decide_true, decide_false, ↓reduceIte, not_true_eq_false, not_false_eq_true, Bool.false_eq_true, Bool.true_eq_false, Bool.and_true, Bool.and_false, Bool.true_and, Bool.false_and, Bool.or_true, Bool.or_false, Bool.true_or, Bool.false_or, Bool.not_true, Bool.not_false, le_f, le_t, lt_f, lt_t, eq_f, ↓reduceIte, not_true_eq_false, not_false_eq_true, ite_10, bt_0, bt_1]
  · simp (disch := omega) only [q211_4, q211_32, nI_lit, nI_add, pk_mul, nI_clp, nI_eqv, nI_lev, nI_ltv, nI_neg, nI_neg', nI_subv, Nat.add_zero, Nat.zero_add, Nat.mul_zero, bN_rv, bM_ru, bV_rv, bV_rx, bU_ru, bU_rx, bN_ite, bM_ite, bV_ite, bU_ite, bx_e, sp_e, gA_ok, gZ_n, gB_0, gB_1, gB_i, decide_true, decide_false, ↓reduceIte, not_true_eq_false, not_false_eq_true, Bool.false_eq_true, Bool.true_eq_false, Bool.and_true, Bool.and_false, Bool.true_and, Bool.false_and, Bool.or_true, Bool.or_false, Bool.true_or, Bool.false_or, Bool.not_true, Bool.not_false, le_f, le_t, lt_f, lt_t, eq_f, ↓reduceIte, not_true_eq_false, not_false_eq_true, ite_10, bt_0, bt_1, q198, q199, q200, q201, q202, q203, q204, q205, q206, q207, q190, q189, q187]
    by_cases h2 : bt (t.1 513 (74 + 21 * i + 7)) s = true <;>
      simp only [h2, decide_true, decide_false, ↓reduceIte, not_true_eq_false, not_false_eq_true, Bool.false_eq_true]
theorem bt_sIn {f : Nat → Int32} {s : Nat} (j : Nat) : bt (sIn f s) j = (decide (j < 8) && bt (f (74 + 21 * j + 7)) s) := by
  unfold sIn
  rw [fo_bits (p := fun k => bt (f (74 + 21 * k + 7)) s) (by omega) j, bt_n0, Bool.false_or]
  congr 1
  exact decide_eq_decide.mpr (by omega)
/-- FIRST -/
def sFst (f : Nat → Int32) (s : Nat) : Int32 := fo (fun i b => if (bt (f (74 + 21 * s + 7)) i && sF f i) = true then (if b = nI 0 then f (74 + 21 * i + 3) else mnI b (f (74 + 21 * i + 3))) else b) 8 0 (f (74 + 21 * s + 8))
theorem m251 {s : Nat} (hs : s < 8) {t : mS} : q251 (nI s) t = rv (sFst (t.1 513) s) t := by
  unfold q251 sFst
  simp (disch := omega) only [nI_lit, nI_add, pk_mul, nI_clp, nI_eqv, nI_lev, nI_ltv, nI_neg, nI_neg', nI_subv, Nat.add_zero, Nat.zero_add, Nat.mul_zero, bN_rv, bM_ru, bV_rv, bV_rx, bU_ru, bU_rx, bN_ite, bM_ite, bV_ite, bU_ite, bx_e, sp_e, gA_ok, gZ_n, gB_0, gB_1, gB_i, decide_true, decide_false, ↓reduceIte, not_true_eq_false, not_false_eq_true, Bool.false_eq_true, Bool.true_eq_false, Bool.and_true, Bool.and_false, Bool.true_and, Bool.false_and, Bool.or_true, Bool.or_false, Bool.true_or, Bool.false_or, Bool.not_true, Bool.not_false, le_f, le_t, lt_f, lt_t, eq_f, ↓reduceIte, not_true_eq_false, not_false_eq_true, ite_10, bt_0, bt_1, q198, q199, q200, q201, q202, q203, q204, q205, q206, q207, q190, q189, q187]
  refine lp_fo (Q := fun n b i => q251_10 n (nI s) b i t) (out := fun b => rv b t) (fun n b => ?_) (fun n i b hi => ?_) _ 10000 (by omega)
  · simp (disch := omega) only [q251_10, nI_lit, nI_add, pk_mul, nI_clp, nI_eqv, nI_lev, nI_ltv, nI_neg, nI_neg', nI_subv, Nat.add_zero, Nat.zero_add, Nat.mul_zero, bN_rv, bM_ru, bV_rv, bV_rx, bU_ru, bU_rx, bN_ite, bM_ite, bV_ite, bU_ite, bx_e, sp_e, gA_ok, gZ_n, gB_0, gB_1, gB_i, decide_true, decide_false, ↓reduceIte, not_true_eq_false, not_false_eq_true, Bool.false_eq_true, Bool.true_eq_false, Bool.and_true, Bool.and_false, Bool.true_and, Bool.false_and, Bool.or_true, Bool.or_false, Bool.true_or, Bool.false_or, Bool.not_true, Bool.not_false, le_f, le_t, lt_f, lt_t, eq_f, ↓reduceIte, not_true_eq_false, not_false_eq_true, ite_10, bt_0, bt_1]
  · simp (disch := omega) only [q251_10, q251_61, q251_62, sF, nI_lit, nI_add, pk_mul, nI_clp, nI_eqv, nI_lev, nI_ltv, nI_neg, nI_neg', nI_subv, Nat.add_zero, Nat.zero_add, Nat.mul_zero, bN_rv, bM_ru, bV_rv, bV_rx, bU_ru, bU_rx, bN_ite, bM_ite, bV_ite, bU_ite, bx_e, sp_e, gA_ok, gZ_n, gB_0, gB_1, gB_i, decide_true, decide_false, ↓reduceIte, not_true_eq_false, not_false_eq_true, Bool.false_eq_true, Bool.true_eq_false, Bool.and_true, Bool.and_false, Bool.true_and, Bool.false_and, Bool.or_true, Bool.or_false, Bool.true_or, Bool.false_or, Bool.not_true, Bool.not_false, le_f, le_t, lt_f, lt_t, eq_f, ↓reduceIte, not_true_eq_false, not_false_eq_true, ite_10, bt_0, bt_1, q198, q199, q200, q201, q202, q203, q204, q205, q206, q207, q190, q189, q187]
    by_cases h2 : bt (t.1 513 (74 + 21 * s + 7)) i = true <;> by_cases h : t.1 513 (74 + 21 * i) = nI 2 <;> by_cases h3 : b = nI 0 <;>
      simp only [h, h2, h3, decide_true, decide_false, ↓reduceIte, not_true_eq_false, not_false_eq_true, Bool.false_eq_true, Bool.and_true, Bool.and_false, Bool.true_and, Bool.false_and]
/-- whose a slot is, as a number; the clients' rows are such -/
def wh (f : Nat → Int32) (i : Nat) : Nat := (f (74 + 21 * i + 1)).toNatClampNeg
def IW (f : Nat → Int32) : Prop := ∀ i, i < 8 → f (74 + 21 * i + 1) = nI (wh f i) ∧ wh f i < 5
def sOn (f : Nat → Int32) (i : Nat) : Bool := decide (f (49 + 5 * wh f i + 2) = nI 1)
theorem m207 {t : mS} (hw : IW (t.1 513)) {s : Nat} (hs : s < 8) : q207 (nI s) t = rv (b2 (sOn (t.1 513) s)) t := by
  obtain ⟨h1, h2⟩ := hw s hs
  unfold q207 sOn
  simp (disch := omega) only [q201, q202, q203, q204, nI_lit, nI_add, pk_mul, nI_clp, nI_eqv, nI_lev, nI_ltv, nI_neg, nI_neg', nI_subv, Nat.add_zero, Nat.zero_add, Nat.mul_zero, bN_rv, bM_ru, bV_rv, bV_rx, bU_ru, bU_rx, bN_ite, bM_ite, bV_ite, bU_ite, bx_e, sp_e, gA_ok, gZ_n, gB_0, gB_1, gB_i, decide_true, decide_false, ↓reduceIte, not_true_eq_false, not_false_eq_true, Bool.false_eq_true, Bool.true_eq_false, Bool.and_true, Bool.and_false, Bool.true_and, Bool.false_and, Bool.or_true, Bool.or_false, Bool.true_or, Bool.false_or, Bool.not_true, Bool.not_false, le_f, le_t, lt_f, lt_t, eq_f, ↓reduceIte, not_true_eq_false, not_false_eq_true, ite_10, bt_0, bt_1]
  rw [h1]
  simp (disch := omega) only [nI_lit, nI_add, pk_mul, nI_clp, nI_eqv, nI_lev, nI_ltv, nI_neg, nI_neg', nI_subv, Nat.add_zero, Nat.zero_add, Nat.mul_zero, bN_rv, bM_ru, bV_rv, bV_rx, bU_ru, bU_rx, bN_ite, bM_ite, bV_ite, bU_ite, bx_e, sp_e, gA_ok, gZ_n, gB_0, gB_1, gB_i, decide_true, decide_false, ↓reduceIte, not_true_eq_false, not_false_eq_true, Bool.false_eq_true, Bool.true_eq_false, Bool.and_true, Bool.and_false, Bool.true_and, Bool.false_and, Bool.or_true, Bool.or_false, Bool.true_or, Bool.false_or, Bool.not_true, Bool.not_false, le_f, le_t, lt_f, lt_t, eq_f, ↓reduceIte, not_true_eq_false, not_false_eq_true, ite_10, bt_0, bt_1]
  by_cases h : t.1 513 (49 + 5 * wh (t.1 513) s + 2) = nI 1 <;> simp only [h, decide_true, decide_false, ↓reduceIte, not_true_eq_false, not_false_eq_true, b2_t, b2_f]
def sSafe (f : Nat → Int32) (s : Nat) : Bool := (sR f s && sOn f s && decide (f (74 + 21 * s + 10) = nI 0)) && al (fun i => !(sR f i && !(sOn f i) && decide (f (74 + 21 * i + 2) < f (74 + 21 * s + 2)))) 8 0
theorem m252k {t : mS} (hw : IW (t.1 513)) {s : Nat} (hs : s < 8) (b : Bool) : q252_34 10000 (nI s) (b2 b) (nI 0) t = rv (b2 (fo (fun k b => b && (!(sR (t.1 513) k && !(sOn (t.1 513) k) && decide (t.1 513 (74 + 21 * k + 2) < t.1 513 (74 + 21 * s + 2))))) 8 0 b)) t := by
  refine lp_fo (Q := fun n b i => q252_34 n (nI s) (b2 b) i t) (out := fun b => rv (b2 b) t) (fun n b => ?_) (fun n i b hi => ?_) b 10000 (by omega)
  · simp (disch := omega) only [q252_34, gB_b, nI_lit, nI_add, pk_mul, nI_clp, nI_eqv, nI_lev, nI_ltv, nI_neg, nI_neg', nI_subv, Nat.add_zero, Nat.zero_add, Nat.mul_zero, bN_rv, bM_ru, bV_rv, bV_rx, bU_ru, bU_rx, bN_ite, bM_ite, bV_ite, bU_ite, bx_e, sp_e, gA_ok, gZ_n, gB_0, gB_1, gB_i, decide_true, decide_false, ↓reduceIte, not_true_eq_false, not_false_eq_true, Bool.false_eq_true, Bool.true_eq_false, Bool.and_true, Bool.and_false, Bool.true_and, Bool.false_and, Bool.or_true, Bool.or_false, Bool.true_or, Bool.false_or, Bool.not_true, Bool.not_false, le_f, le_t, lt_f, lt_t, eq_f, ↓reduceIte, not_true_eq_false, not_false_eq_true, ite_10, bt_0, bt_1]
  · simp (disch := omega) only [q252_34, q252_75, q252_79, q252_80, m207 hw, b2_0, nI_lit, nI_add, pk_mul, nI_clp, nI_eqv, nI_lev, nI_ltv, nI_neg, nI_neg', nI_subv, Nat.add_zero, Nat.zero_add, Nat.mul_zero, bN_rv, bM_ru, bV_rv, bV_rx, bU_ru, bU_rx, bN_ite, bM_ite, bV_ite, bU_ite, bx_e, sp_e, gA_ok, gZ_n, gB_0, gB_1, gB_i, decide_true, decide_false, ↓reduceIte, not_true_eq_false, not_false_eq_true, Bool.false_eq_true, Bool.true_eq_false, Bool.and_true, Bool.and_false, Bool.true_and, Bool.false_and, Bool.or_true, Bool.or_false, Bool.true_or, Bool.false_or, Bool.not_true, Bool.not_false, le_f, le_t, lt_f, lt_t, eq_f, ↓reduceIte, not_true_eq_false, not_false_eq_true, ite_10, bt_0, bt_1, q203, q204, q205]
    cases b
    · simp only [Bool.false_and, b2_f, ↓reduceIte]
    · by_cases h : t.1 513 (74 + 21 * i) = nI 1 <;> cases h1 : sOn (t.1 513) i <;> by_cases h2 : t.1 513 (74 + 21 * i + 2) < t.1 513 (74 + 21 * s + 2) <;>
        simp only [sR, h, h1, h2, decide_true, decide_false, ↓reduceIte, not_true_eq_false, not_false_eq_true, Bool.false_eq_true, Bool.true_eq_false, Bool.and_true, Bool.and_false, Bool.true_and, Bool.false_and, Bool.not_true, Bool.not_false, b2_t, b2_f]
theorem m252_1 {t : mS} (hw : IW (t.1 513)) {s : Nat} (hs : s < 8) : q252_31 (nI s) (nI 1) t = rv (b2 (al (fun i => !(sR (t.1 513) i && !(sOn (t.1 513) i) && decide (t.1 513 (74 + 21 * i + 2) < t.1 513 (74 + 21 * s + 2)))) 8 0)) t := by
  have k1 := m252k hw hs true
  rw [b2_t, fo_and, Bool.true_and] at k1
  exact k1
theorem m252_0 {t : mS} (hw : IW (t.1 513)) {s : Nat} (hs : s < 8) : q252_31 (nI s) (nI 0) t = rv (nI 0) t := by
  have k0 := m252k hw hs false
  rw [b2_f, fo_and, Bool.false_and, b2_f] at k0
  exact k0
theorem m252 {t : mS} (hw : IW (t.1 513)) {s : Nat} (hs : s < 8) : q252 (nI s) t = rv (b2 (sSafe (t.1 513) s)) t := by
  unfold q252 sSafe
  simp (disch := omega) only [q252_30, m252_1 hw, m252_0 hw, m207 hw, b2_0, nI_lit, nI_add, pk_mul, nI_clp, nI_eqv, nI_lev, nI_ltv, nI_neg, nI_neg', nI_subv, Nat.add_zero, Nat.zero_add, Nat.mul_zero, bN_rv, bM_ru, bV_rv, bV_rx, bU_ru, bU_rx, bN_ite, bM_ite, bV_ite, bU_ite, bx_e, sp_e, gA_ok, gZ_n, gB_0, gB_1, gB_i, decide_true, decide_false, ↓reduceIte, not_true_eq_false, not_false_eq_true, Bool.false_eq_true, Bool.true_eq_false, Bool.and_true, Bool.and_false, Bool.true_and, Bool.false_and, Bool.or_true, Bool.or_false, Bool.true_or, Bool.false_or, Bool.not_true, Bool.not_false, le_f, le_t, lt_f, lt_t, eq_f, ↓reduceIte, not_true_eq_false, not_false_eq_true, ite_10, bt_0, bt_1, q203, q204, q205]
  by_cases h : t.1 513 (74 + 21 * s) = nI 1 <;> cases h1 : sOn (t.1 513) s <;> by_cases h2 : t.1 513 (74 + 21 * s + 10) = nI 0 <;>
    simp only [sR, b2_0, b2_t, b2_f, h, h1, h2, decide_true, decide_false, ↓reduceIte, not_true_eq_false, not_false_eq_true, Bool.false_eq_true, Bool.true_eq_false, Bool.and_true, Bool.and_false, Bool.true_and, Bool.false_and]
