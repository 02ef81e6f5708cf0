/-! THE LAW IS RUN -/
def lOp (f : Nat → Int32) (i : Nat) : Nat := (f (819 + 2 * i)).toNatClampNeg
def bop (o : Nat) (a b : Int32) : Int32 := if o = 11 then a + b else if o = 12 then (if b ≤ a then nI 0 else nI 1) else if o = 13 then (if a ≤ b then nI 0 else nI 1) else if o = 15 then (if a + b = nI 2 then nI 1 else nI 0) else (if a + b ≤ nI 0 then nI 0 else nI 1)
def ev1 (fv : Nat → Int32) (o : Nat) (n : Int32) (l : List Int32) : List Int32 := if o ≤ 10 then (if o = 10 then n else fv o) :: l else match l with
  | [] => []
  | x :: r => if o = 14 then (nI 1 - x) :: r else match r with
    | [] => [x]
    | a :: r2 => bop o a x :: r2
def evL (fv : Nat → Int32) (f : Nat → Int32) : Nat → Nat → List Int32 → List Int32
  | 0, _, l => l
  | m + 1, i, l => evL fv f m (i + 1) (ev1 fv (lOp f i) (f (819 + 2 * i + 1)) l)
def ty1 (o : Nat) (ts : List Bool) : Option (List Bool) := if o ≤ 10 then some (decide (7 ≤ o ∧ o ≤ 9) :: ts) else match ts with
  | true :: r => if o = 14 then some (true :: r) else (match r with
    | true :: r2 => if o = 15 ∨ o = 16 then some (true :: r2) else none
    | _ => none)
  | false :: false :: r => if o = 11 then some (false :: r) else if o = 12 ∨ o = 13 then some (true :: r) else none
  | _ => none
def tyL (f : Nat → Int32) : Nat → Nat → List Bool → Option (List Bool)
  | 0, _, ts => some ts
  | m + 1, i, ts => if 40 ≤ ts.length then none else match ty1 (lOp f i) ts with
    | none => none
    | some ts' => tyL f m (i + 1) ts'
def TV : List Bool → List Int32 → Prop
  | [], [] => True
  | t :: ts, x :: l => (t = true → x = nI 0 ∨ x = nI 1) ∧ TV ts l
  | _, _ => False
def SL (g : Nat → Int32) : List Int32 → Prop
  | [] => True
  | x :: l => g l.length = x ∧ SL g l
theorem SL_u {g : Nat → Int32} {y : Int32} : ∀ {l : List Int32} {k : Nat}, SL g l → l.length ≤ k → SL (upd g k y) l := by
  intro l
  induction l with
  | nil => intro k _ _; trivial
  | cons x l ih =>
    intro k h hk
    rw [List.length_cons] at hk
    exact ⟨by rw [ud_n (by omega)]; exact h.1, ih h.2 (by omega)⟩
theorem sI_sm {s : mS} {a k : Nat} {x : Int32} : (sI s a k x).1 a = upd (s.1 a) k x := if_pos rfl
theorem TV_len : ∀ {ts : List Bool} {l : List Int32}, TV ts l → ts.length = l.length := by
  intro ts
  induction ts with
  | nil => intro l h; cases l with
    | nil => rfl
    | cons => exact h.elim
  | cons t ts ih => intro l h; cases l with
    | nil => exact h.elim
    | cons x l => rw [List.length_cons, List.length_cons, ih h.2]
/-- the rows of code that are such -/
def WO (f : Nat → Int32) (i : Nat) : Prop := f (819 + 2 * i) = nI (lOp f i) ∧ lOp f i ≤ 16 ∧ (lOp f i = 10 → ∃ v, v < 1000 ∧ f (819 + 2 * i + 1) = nI v)
def fvB (fv : Nat → Int32) : Prop := ∀ k, 7 ≤ k → k ≤ 9 → fv k = nI 0 ∨ fv k = nI 1
theorem b01 {a : Int32} (h : a = nI 0 ∨ a = nI 1) : nI 1 - a = nI 0 ∨ nI 1 - a = nI 1 := by
  rcases h with e | e <;> rw [e] <;> decide
theorem bop01 {o : Nat} {a b : Int32} (h : o = 12 ∨ o = 13 ∨ o = 15 ∨ o = 16) : bop o a b = nI 0 ∨ bop o a b = nI 1 := by
  unfold bop
  rcases h with e | e | e | e <;> subst e <;> simp (disch := omega) only [and_true, and_false, true_and, false_and, decide_true, decide_false, ↓reduceIte, not_true_eq_false, not_false_eq_true, Bool.false_eq_true, Bool.true_eq_false, Bool.and_true, Bool.and_false, Bool.true_and, Bool.false_and, Bool.or_true, Bool.or_false, Bool.true_or, Bool.false_or, Bool.not_true, Bool.not_false, le_f, le_t, lt_f, lt_t, eq_f, ↓reduceIte, not_true_eq_false, not_false_eq_true, ite_10, bt_0, bt_1] <;> split <;> first | exact Or.inl rfl | exact Or.inr rfl
/-- what a row of code does keeps what its kinds tell -/
theorem ty_ev {fv : Nat → Int32} (hb : fvB fv) {o : Nat} {n : Int32} {ts ts' : List Bool} {l : List Int32} (h : ty1 o ts = some ts') (hv : TV ts l) : TV ts' (ev1 fv o n l) := by
  unfold ty1 at h
  unfold ev1
  by_cases ho : o ≤ 10
  · rw [if_pos ho] at h ⊢
    cases h
    refine ⟨fun hd => ?_, hv⟩
    have hd' := of_decide_eq_true hd
    rw [if_neg (by omega)]
    exact hb o hd'.1 hd'.2
  · rw [if_neg ho] at h ⊢
    cases ts with
    | nil => cases h
    | cons t r =>
      cases l with
      | nil => exact hv.elim
      | cons x l =>
        obtain ⟨hx, hr⟩ := hv
        cases t with
        | true =>
          dsimp only at h ⊢
          by_cases h14 : o = 14
          · rw [if_pos h14] at h ⊢
            cases h
            exact ⟨fun _ => b01 (hx rfl), hr⟩
          · rw [if_neg h14] at h ⊢
            cases r with
            | nil => cases h
            | cons t2 r2 =>
              cases l with
              | nil => exact hr.elim
              | cons a l =>
                cases t2 with
                | false => cases h
                | true =>
                  dsimp only at h ⊢
                  by_cases h15 : o = 15 ∨ o = 16
                  · rw [if_pos h15] at h
                    cases h
                    exact ⟨fun _ => bop01 (by omega), hr.2⟩
                  · rw [if_neg h15] at h; cases h
        | false =>
          cases r with
          | nil => cases h
          | cons t2 r2 =>
            cases l with
            | nil => exact hr.elim
            | cons a l =>
              cases t2 with
              | true => cases h
              | false =>
                dsimp only at h ⊢
                by_cases h11 : o = 11
                · rw [if_pos h11] at h
                  cases h
                  rw [if_neg (by omega)]
                  exact ⟨fun h => by (cases h), hr.2⟩
                · rw [if_neg h11] at h
                  by_cases h12 : o = 12 ∨ o = 13
                  · rw [if_pos h12] at h
                    cases h
                    rw [if_neg (by omega)]
                    exact ⟨fun _ => bop01 (by omega), hr.2⟩
                  · rw [if_neg h12] at h; cases h
/-- the shapes of what is there when a row of code runs -/
theorem ty_sh {o : Nat} (ho : o ≤ 16) {ts ts' : List Bool} {l : List Int32} (h : ty1 o ts = some ts') (hv : TV ts l) : o ≤ 10 ∨ (o = 14 ∧ ∃ x r, l = x :: r) ∨ ((o = 11 ∨ o = 12 ∨ o = 13) ∧ ∃ b a r, l = b :: a :: r) ∨ ((o = 15 ∨ o = 16) ∧ ∃ b a r, l = b :: a :: r ∧ (a = nI 0 ∨ a = nI 1) ∧ (b = nI 0 ∨ b = nI 1)) := by
  unfold ty1 at h
  by_cases ho : o ≤ 10
  · exact Or.inl ho
  · rw [if_neg ho] at h
    right
    cases ts with
    | nil => cases h
    | cons t r =>
      cases l with
      | nil => exact hv.elim
      | cons x l =>
        obtain ⟨hx, hr⟩ := hv
        cases t with
        | true =>
          dsimp only at h
          by_cases h14 : o = 14
          · exact Or.inl ⟨h14, x, l, rfl⟩
          · rw [if_neg h14] at h
            cases r with
            | nil => cases h
            | cons t2 r2 =>
              cases l with
              | nil => exact hr.elim
              | cons a l =>
                cases t2 with
                | false => cases h
                | true =>
                  dsimp only at h
                  by_cases h15 : o = 15 ∨ o = 16
                  · exact Or.inr (Or.inr ⟨h15, x, a, l, rfl, hr.1 rfl, hx rfl⟩)
                  · rw [if_neg h15] at h; cases h
        | false =>
          cases r with
          | nil => cases h
          | cons t2 r2 =>
            cases l with
            | nil => exact hr.elim
            | cons a l =>
              cases t2 with
              | true => cases h
              | false =>
                dsimp only at h
                by_cases h11 : o = 11
                · exact Or.inr (Or.inl ⟨Or.inl h11, x, a, l, rfl⟩)
                · rw [if_neg h11] at h
                  by_cases h12 : o = 12 ∨ o = 13
                  · exact Or.inr (Or.inl ⟨by omega, x, a, l, rfl⟩)
                  · rw [if_neg h12] at h; cases h
def F1 (c : Nat) (t t' : mS) : Prop := (∀ b, b ≠ c → t'.1 b = t.1 b) ∧ t'.2 = t.2
theorem F1_t {c : Nat} {s s' s'' : mS} (h : F1 c s s') (h2 : F1 c s' s'') : F1 c s s'' := ⟨fun b hb => (h2.1 b hb).trans (h.1 b hb), h2.2.trans h.2⟩
theorem F1_I {c k : Nat} {x : Int32} {s : mS} : F1 c s (sI s c k x) := ⟨fun b hb => sI_fn hb, Eq.trans rfl rfl⟩
theorem ev1_p {fv : Nat → Int32} {o : Nat} {n : Int32} {l : List Int32} (h : o ≤ 10) : ev1 fv o n l = (if o = 10 then n else fv o) :: l := if_pos h
theorem ev1_n {fv : Nat → Int32} {n x : Int32} {r : List Int32} : ev1 fv 14 n (x :: r) = (nI 1 - x) :: r := Eq.trans rfl rfl
theorem ev1_b {fv : Nat → Int32} {o : Nat} {n a b : Int32} {r : List Int32} (h : o = 11 ∨ o = 12 ∨ o = 13 ∨ o = 15 ∨ o = 16) : ev1 fv o n (b :: a :: r) = bop o a b :: r := by
  unfold ev1
  rw [if_neg (by omega)]
  dsimp only
  rw [if_neg (by omega)]
/-- one row of code, in the reference -/
theorem m245_s {K : Int32 → mS → Option mQ} {t : mS} (hw : IW (t.1 513)) {s e c i n : Nat} (hs : s < 8) (hc : c < 12) (he : t.1 513 (771 + 4 * c + 3) = nI e) (he4 : e ≤ 400) (hi : i < e) (hwo : WO (t.1 513) i) {ts ts' : List Bool} {l : List Int32} (h : ty1 (lOp (t.1 513) i) ts = some ts') (hv : TV ts l) (hl : l.length < 40) (hS : SL (t.1 520) l) :
    ∃ t', q245_22 K (n + 1) (nI s) (nI l.length) (nI (771 + 4 * c)) (nI i) t = q245_22 K n (nI s) (nI (ev1 (sFa (t.1 513) s) (lOp (t.1 513) i) (t.1 513 (819 + 2 * i + 1)) l).length) (nI (771 + 4 * c)) (nI (i + 1)) t' ∧ SL (t'.1 520) (ev1 (sFa (t.1 513) s) (lOp (t.1 513) i) (t.1 513 (819 + 2 * i + 1)) l) ∧ F1 520 t t' := by
  obtain ⟨w1, w2, w3⟩ := hwo
  have hz := ty_sh w2 h hv
  generalize lOp (t.1 513) i = o at *
  rcases hz with ho | ⟨ho, x, r, hlr⟩ | hz
  · rw [ev1_p ho]
    refine ⟨sI t 520 l.length (if o = 10 then t.1 513 (819 + 2 * i + 1) else sFa (t.1 513) s o), ?_, ⟨?_, ?_⟩, F1_I⟩
    · rw [q245_22]
      simp (disch := omega) only [he, w1, m244 hw, q245_257, List.length_cons, nI_lit, nI_add, pk_mul, nI_clp, nI_eqv, nI_lev, nI_ltv, nI_neg, nI_neg', nI_subv, Nat.add_zero, Nat.zero_add, Nat.mul_zero, Nat.reduceAdd, bN_rv, bM_ru, bV_rv, bV_rx, bU_ru, bU_rx, bN_ite, bM_ite, bV_ite, bU_ite, ↓bx_e, ↓sp_e, gA_ok, gZ_n, gB_0, gB_1, gB_i, and_true, and_false, true_and, false_and, decide_true, decide_false, ↓reduceIte, not_true_eq_false, not_false_eq_true, Bool.false_eq_true, Bool.true_eq_false, Bool.and_true, Bool.and_false, Bool.true_and, Bool.false_and, Bool.or_true, Bool.or_false, Bool.true_or, Bool.false_or, Bool.not_true, Bool.not_false, le_f, le_t, lt_f, lt_t, eq_f, ↓reduceIte, not_true_eq_false, not_false_eq_true, ite_10, bt_0, bt_1, q198, q199, q200, q201, q202, q203, q204, m190, m205, m206, b2_0, q189, q187]
    · rw [sI_sm, ud_e rfl]
    · rw [sI_sm]; exact SL_u hS (Nat.le_refl _)
  · subst ho; subst hlr
    obtain ⟨hx, hr⟩ := hS
    rw [List.length_cons] at hl
    rw [ev1_n]
    refine ⟨sI t 520 r.length (nI 1 - x), ?_, ⟨?_, ?_⟩, F1_I⟩
    · rw [q245_22]
      simp (disch := omega) only [he, w1, hx, q245_257, List.length_cons, Nat.add_sub_cancel, nI_lit, nI_add, pk_mul, nI_clp, nI_eqv, nI_lev, nI_ltv, nI_neg, nI_neg', nI_subv, Nat.add_zero, Nat.zero_add, Nat.mul_zero, Nat.reduceAdd, bN_rv, bM_ru, bV_rv, bV_rx, bU_ru, bU_rx, bN_ite, bM_ite, bV_ite, bU_ite, ↓bx_e, ↓sp_e, gA_ok, gZ_n, gB_0, gB_1, gB_i, and_true, and_false, true_and, false_and, decide_true, decide_false, ↓reduceIte, not_true_eq_false, not_false_eq_true, Bool.false_eq_true, Bool.true_eq_false, Bool.and_true, Bool.and_false, Bool.true_and, Bool.false_and, Bool.or_true, Bool.or_false, Bool.true_or, Bool.false_or, Bool.not_true, Bool.not_false, le_f, le_t, lt_f, lt_t, eq_f, ↓reduceIte, not_true_eq_false, not_false_eq_true, ite_10, bt_0, bt_1, q198, q199, q200, q201, q202, q203, q204, m190, m205, m206, b2_0, q189, q187]
    · rw [sI_sm, ud_e rfl]
    · rw [sI_sm]; exact SL_u hr (Nat.le_refl _)
  · have hz2 : (o = 11 ∨ o = 12 ∨ o = 13 ∨ o = 15 ∨ o = 16) ∧ ∃ b a r, l = b :: a :: r := by
      rcases hz with ⟨ho, b, a, r, hlr⟩ | ⟨ho, b, a, r, hlr, ha, hb⟩
      · exact ⟨by omega, b, a, r, hlr⟩
      · exact ⟨by omega, b, a, r, hlr⟩
    obtain ⟨ho, b, a, r, hlr⟩ := hz2
    clear hz
    subst hlr
    obtain ⟨hb, ha, hr⟩ := hS
    rw [List.length_cons, List.length_cons] at hl
    rw [List.length_cons] at hb
    rw [ev1_b ho]
    refine ⟨sI t 520 r.length (bop o a b), ?_, ⟨?_, ?_⟩, F1_I⟩
    · rw [q245_22]
      have e222 : ∀ y, q245_222 (q245_22 K n) (nI s) (nI (r.length + 1)) (nI (771 + 4 * c)) (nI i) (nI o) a b y t = q245_22 K n (nI s) (nI (r.length + 1)) (nI (771 + 4 * c)) (nI (i + 1)) (sI t 520 r.length (if o = 11 then a + b else if y = nI 0 then nI 0 else nI 1)) := by
        intro y
        by_cases h11 : o = 11
        · subst h11; simp (disch := omega) only [q245_257, q245_256, q245_222, Nat.add_sub_cancel, nI_lit, nI_add, pk_mul, nI_clp, nI_eqv, nI_lev, nI_ltv, nI_neg, nI_neg', nI_subv, Nat.add_zero, Nat.zero_add, Nat.mul_zero, Nat.reduceAdd, bN_rv, bM_ru, bV_rv, bV_rx, bU_ru, bU_rx, bN_ite, bM_ite, bV_ite, bU_ite, ↓bx_e, ↓sp_e, gA_ok, gZ_n, gB_0, gB_1, gB_i, and_true, and_false, true_and, false_and, decide_true, decide_false, ↓reduceIte, not_true_eq_false, not_false_eq_true, Bool.false_eq_true, Bool.true_eq_false, Bool.and_true, Bool.and_false, Bool.true_and, Bool.false_and, Bool.or_true, Bool.or_false, Bool.true_or, Bool.false_or, Bool.not_true, Bool.not_false, le_f, le_t, lt_f, lt_t, eq_f, ↓reduceIte, not_true_eq_false, not_false_eq_true, ite_10, bt_0, bt_1, q198, q199, q200, q201, q202, q203, q204, m190, m205, m206, b2_0, q189, q187]
        · by_cases hy : y = nI 0 <;> simp (disch := omega) only [h11, hy, q245_257, q245_256, q245_222, Nat.add_sub_cancel, nI_lit, nI_add, pk_mul, nI_clp, nI_eqv, nI_lev, nI_ltv, nI_neg, nI_neg', nI_subv, Nat.add_zero, Nat.zero_add, Nat.mul_zero, Nat.reduceAdd, bN_rv, bM_ru, bV_rv, bV_rx, bU_ru, bU_rx, bN_ite, bM_ite, bV_ite, bU_ite, ↓bx_e, ↓sp_e, gA_ok, gZ_n, gB_0, gB_1, gB_i, and_true, and_false, true_and, false_and, decide_true, decide_false, ↓reduceIte, not_true_eq_false, not_false_eq_true, Bool.false_eq_true, Bool.true_eq_false, Bool.and_true, Bool.and_false, Bool.true_and, Bool.false_and, Bool.or_true, Bool.or_false, Bool.true_or, Bool.false_or, Bool.not_true, Bool.not_false, le_f, le_t, lt_f, lt_t, eq_f, ↓reduceIte, not_true_eq_false, not_false_eq_true, ite_10, bt_0, bt_1, q198, q199, q200, q201, q202, q203, q204, m190, m205, m206, b2_0, q189, q187]
      rcases ho with e | e | e | e | e <;> subst e <;> simp (disch := omega) only [he, w1, hb, ha, nI_dec, e222, List.length_cons, Nat.add_sub_cancel, bop, nI_lit, nI_add, pk_mul, nI_clp, nI_eqv, nI_lev, nI_ltv, nI_neg, nI_neg', nI_subv, Nat.add_zero, Nat.zero_add, Nat.mul_zero, Nat.reduceAdd, bN_rv, bM_ru, bV_rv, bV_rx, bU_ru, bU_rx, bN_ite, bM_ite, bV_ite, bU_ite, ↓bx_e, ↓sp_e, gA_ok, gZ_n, gB_0, gB_1, gB_i, and_true, and_false, true_and, false_and, decide_true, decide_false, ↓reduceIte, not_true_eq_false, not_false_eq_true, Bool.false_eq_true, Bool.true_eq_false, Bool.and_true, Bool.and_false, Bool.true_and, Bool.false_and, Bool.or_true, Bool.or_false, Bool.true_or, Bool.false_or, Bool.not_true, Bool.not_false, le_f, le_t, lt_f, lt_t, eq_f, ↓reduceIte, not_true_eq_false, not_false_eq_true, ite_10, bt_0, bt_1, q198, q199, q200, q201, q202, q203, q204, m190, m205, m206, b2_0, q189, q187]
      · rw [ite_self]
      · by_cases hq : b ≤ a <;> simp (disch := omega) only [hq, nI_lit, nI_add, pk_mul, nI_clp, nI_eqv, nI_lev, nI_ltv, nI_neg, nI_neg', nI_subv, Nat.add_zero, Nat.zero_add, Nat.mul_zero, Nat.reduceAdd, bN_rv, bM_ru, bV_rv, bV_rx, bU_ru, bU_rx, bN_ite, bM_ite, bV_ite, bU_ite, ↓bx_e, ↓sp_e, gA_ok, gZ_n, gB_0, gB_1, gB_i, and_true, and_false, true_and, false_and, decide_true, decide_false, ↓reduceIte, not_true_eq_false, not_false_eq_true, Bool.false_eq_true, Bool.true_eq_false, Bool.and_true, Bool.and_false, Bool.true_and, Bool.false_and, Bool.or_true, Bool.or_false, Bool.true_or, Bool.false_or, Bool.not_true, Bool.not_false, le_f, le_t, lt_f, lt_t, eq_f, ↓reduceIte, not_true_eq_false, not_false_eq_true, ite_10, bt_0, bt_1, q198, q199, q200, q201, q202, q203, q204, m190, m205, m206, b2_0, q189, q187]
      · by_cases hq : a ≤ b <;> simp (disch := omega) only [hq, nI_lit, nI_add, pk_mul, nI_clp, nI_eqv, nI_lev, nI_ltv, nI_neg, nI_neg', nI_subv, Nat.add_zero, Nat.zero_add, Nat.mul_zero, Nat.reduceAdd, bN_rv, bM_ru, bV_rv, bV_rx, bU_ru, bU_rx, bN_ite, bM_ite, bV_ite, bU_ite, ↓bx_e, ↓sp_e, gA_ok, gZ_n, gB_0, gB_1, gB_i, and_true, and_false, true_and, false_and, decide_true, decide_false, ↓reduceIte, not_true_eq_false, not_false_eq_true, Bool.false_eq_true, Bool.true_eq_false, Bool.and_true, Bool.and_false, Bool.true_and, Bool.false_and, Bool.or_true, Bool.or_false, Bool.true_or, Bool.false_or, Bool.not_true, Bool.not_false, le_f, le_t, lt_f, lt_t, eq_f, ↓reduceIte, not_true_eq_false, not_false_eq_true, ite_10, bt_0, bt_1, q198, q199, q200, q201, q202, q203, q204, m190, m205, m206, b2_0, q189, q187]
      · by_cases hq : a + b = nI 2 <;> simp (disch := omega) only [hq, nI_lit, nI_add, pk_mul, nI_clp, nI_eqv, nI_lev, nI_ltv, nI_neg, nI_neg', nI_subv, Nat.add_zero, Nat.zero_add, Nat.mul_zero, Nat.reduceAdd, bN_rv, bM_ru, bV_rv, bV_rx, bU_ru, bU_rx, bN_ite, bM_ite, bV_ite, bU_ite, ↓bx_e, ↓sp_e, gA_ok, gZ_n, gB_0, gB_1, gB_i, and_true, and_false, true_and, false_and, decide_true, decide_false, ↓reduceIte, not_true_eq_false, not_false_eq_true, Bool.false_eq_true, Bool.true_eq_false, Bool.and_true, Bool.and_false, Bool.true_and, Bool.false_and, Bool.or_true, Bool.or_false, Bool.true_or, Bool.false_or, Bool.not_true, Bool.not_false, le_f, le_t, lt_f, lt_t, eq_f, ↓reduceIte, not_true_eq_false, not_false_eq_true, ite_10, bt_0, bt_1, q198, q199, q200, q201, q202, q203, q204, m190, m205, m206, b2_0, q189, q187]
      · by_cases hq : a + b ≤ nI 0 <;> simp (disch := omega) only [hq, nI_lit, nI_add, pk_mul, nI_clp, nI_eqv, nI_lev, nI_ltv, nI_neg, nI_neg', nI_subv, Nat.add_zero, Nat.zero_add, Nat.mul_zero, Nat.reduceAdd, bN_rv, bM_ru, bV_rv, bV_rx, bU_ru, bU_rx, bN_ite, bM_ite, bV_ite, bU_ite, ↓bx_e, ↓sp_e, gA_ok, gZ_n, gB_0, gB_1, gB_i, and_true, and_false, true_and, false_and, decide_true, decide_false, ↓reduceIte, not_true_eq_false, not_false_eq_true, Bool.false_eq_true, Bool.true_eq_false, Bool.and_true, Bool.and_false, Bool.true_and, Bool.false_and, Bool.or_true, Bool.or_false, Bool.true_or, Bool.false_or, Bool.not_true, Bool.not_false, le_f, le_t, lt_f, lt_t, eq_f, ↓reduceIte, not_true_eq_false, not_false_eq_true, ite_10, bt_0, bt_1, q198, q199, q200, q201, q202, q203, q204, m190, m205, m206, b2_0, q189, q187]
    · rw [sI_sm, ud_e rfl]
    · rw [sI_sm]; exact SL_u hr (Nat.le_refl _)
