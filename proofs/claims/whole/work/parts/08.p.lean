/-! LINES, SUMS, BLAME, PAY -/
theorem fvB_s {f : Nat → Int32} (hs : IS f) (hc : IC f) {s : Nat} (h : s < 8) : fvB (sFa f s) := by
  intro k h7 h9
  have hk : k = 7 ∨ k = 8 ∨ k = 9 := by omega
  rcases hk with e | e | e <;> subst e
  · obtain ⟨m, q1, q2, q3, q4⟩ := hc
    exact q3 (wh f s) (hs.1 s h).2
  · simp only [sFa]; cases sPv f s
    · exact Or.inl b2_f
    · exact Or.inr b2_t
  · simp only [sFa]; cases (!(decide (f (49 + 5 * wh f s + 3) ≤ nI 0)))
    · exact Or.inl b2_f
    · exact Or.inr b2_t
theorem m245_l {K : Int32 → mS → Option mQ} {f : Nat → Int32} (hs : IS f) (hc : IC f) {s e c : Nat} (h8 : s < 8) (hc12 : c < 12) (he : f (771 + 4 * c + 3) = nI e) (he4 : e ≤ 400) :
    ∀ m i n (t : mS) ts r l, i + m = e → t.1 513 = f → (∀ j, i ≤ j → j < e → WO f j) → tyL f m i ts = some r → TV ts l → SL (t.1 520) l → m < n →
      ∃ t', q245_22 K n (nI s) (nI l.length) (nI (771 + 4 * c)) (nI i) t = K (nI (evL (sFa f s) f m i l).length) t' ∧ SL (t'.1 520) (evL (sFa f s) f m i l) ∧ TV r (evL (sFa f s) f m i l) ∧ F1 520 t t' := by
  intro m
  induction m with
  | zero =>
    intro i n t ts r l hi ht hwo hty hv hS hn
    cases n with
    | zero => omega
    | succ n =>
      have : i = e := by omega
      subst this
      rw [tyL] at hty
      cases hty
      refine ⟨t, ?_, hS, hv, fun _ _ => rfl, rfl⟩
      rw [q245_22]
      simp (disch := omega) only [ht, he, evL, nI_lit, nI_add, pk_mul, nI_clp, nI_eqv, nI_lev, nI_ltv, nI_neg, nI_neg', nI_subv, Nat.add_zero, Nat.zero_add, Nat.mul_zero, Nat.reduceAdd, bN_rv, bM_ru, bV_rv, bV_rx, bU_ru, bU_rx, bN_ite, bM_ite, bV_ite, bU_ite, ↓bx_e, ↓sp_e, gA_ok, gZ_n, gB_0, gB_1, gB_i, and_true, and_false, true_and, false_and, decide_true, decide_false, ↓reduceIte, not_true_eq_false, not_false_eq_true, Bool.false_eq_true, Bool.true_eq_false, Bool.and_true, Bool.and_false, Bool.true_and, Bool.false_and, Bool.or_true, Bool.or_false, Bool.true_or, Bool.false_or, Bool.not_true, Bool.not_false, le_f, le_t, lt_f, lt_t, eq_f, ↓reduceIte, not_true_eq_false, not_false_eq_true, ite_10, bt_0, bt_1, q198, q199, q200, q201, q202, q203, q204, m190, m205, m206, b2_0, q189, q187]
  | succ m ih =>
    intro i n t ts r l hi ht hwo hty hv hS hn
    cases n with
    | zero => omega
    | succ n =>
      rw [tyL] at hty
      split at hty
      · cases hty
      · rename_i hlen
        split at hty
        · cases hty
        · rename_i ts' hty1
          have hln := TV_len hv
          obtain ⟨t1, h1, h2, h3⟩ := m245_s (K := K) (t := t) (by rw [ht]; exact hs.1) (n := n) h8 hc12 (by rw [ht]; exact he) he4 (show i < e by omega) (by rw [ht]; exact hwo i (by omega) (by omega)) (ts := ts) (ts' := ts') (l := l) (by rw [ht]; exact hty1) hv (by omega) hS
          rw [ht] at h1 h2
          obtain ⟨t2, k1, k2, k3, k4⟩ := ih (i + 1) n t1 ts' r _ (by omega) (by rw [h3.1 513 (by omega)]; exact ht) (fun j a b => hwo j (by omega) b) hty (ty_ev (fvB_s hs hc h8) hty1 hv) h2 (by omega)
          exact ⟨t2, h1.trans k1, k2, k3, F1_t h3 k4⟩
def lB (f : Nat → Int32) (c : Nat) : Nat := (f (771 + 4 * c + 2)).toNatClampNeg
def lE (f : Nat → Int32) (c : Nat) : Nat := (f (771 + 4 * c + 3)).toNatClampNeg
/-- a line that is such -/
def WLn (f : Nat → Int32) (c : Nat) : Prop := f (771 + 4 * c + 2) = nI (lB f c) ∧ f (771 + 4 * c + 3) = nI (lE f c) ∧ lB f c ≤ lE f c ∧ lE f c ≤ 400 ∧ (∀ i, i < lE f c → WO f i) ∧ (tyL f (lE f c - lB f c) (lB f c) [] = some [] ∨ tyL f (lE f c - lB f c) (lB f c) [] = some [true])
def sHo (f : Nat → Int32) (s c : Nat) : Bool := match evL (sFa f s) f (lE f c - lB f c) (lB f c) [] with
  | [] => true
  | x :: _ => decide (x = nI 1)
theorem m245 {t : mS} (hs : IS (t.1 513)) (hc : IC (t.1 513)) {s c : Nat} (h8 : s < 8) (hc12 : c < 12) (hl : WLn (t.1 513) c) : ∃ t', q245 (nI c) (nI s) t = rv (b2 (sHo (t.1 513) s c)) t' ∧ F1 520 t t' := by
  obtain ⟨l1, l2, l3, l4, l5, l6⟩ := hl
  have key : ∀ r, tyL (t.1 513) (lE (t.1 513) c - lB (t.1 513) c) (lB (t.1 513) c) [] = some r → (r = [] ∨ r = [true]) → ∃ t', q245 (nI c) (nI s) t = rv (b2 (sHo (t.1 513) s c)) t' ∧ F1 520 t t' := by
    intro r hr hr2
    obtain ⟨t', h1, h2, h3, h4⟩ := m245_l (K := q245_263) hs hc h8 hc12 l2 l4 (lE (t.1 513) c - lB (t.1 513) c) (lB (t.1 513) c) 10000 t [] r [] (by omega) rfl (fun j _ b => l5 j b) hr trivial trivial (by omega)
    refine ⟨t', ?_, h4⟩
    unfold q245
    simp (disch := omega) only [l1, nI_lit, nI_add, pk_mul, nI_clp, nI_eqv, nI_lev, nI_ltv, nI_neg, nI_neg', nI_subv, Nat.add_zero, Nat.zero_add, Nat.mul_zero, Nat.reduceAdd, bN_rv, bM_ru, bV_rv, bV_rx, bU_ru, bU_rx, bN_ite, bM_ite, bV_ite, bU_ite, ↓bx_e, ↓sp_e, gA_ok, gZ_n, gB_0, gB_1, gB_i, and_true, and_false, true_and, false_and, decide_true, decide_false, ↓reduceIte, not_true_eq_false, not_false_eq_true, Bool.false_eq_true, Bool.true_eq_false, Bool.and_true, Bool.and_false, Bool.true_and, Bool.false_and, Bool.or_true, Bool.or_false, Bool.true_or, Bool.false_or, Bool.not_true, Bool.not_false, le_f, le_t, lt_f, lt_t, eq_f, ↓reduceIte, not_true_eq_false, not_false_eq_true, ite_10, bt_0, bt_1, q198, q199, q200, q201, q202, q203, q204, m190, m205, m206, b2_0, q189, q187]
    rw [List.length_nil] at h1
    rw [h1]
    unfold q245_263 q245_277 sHo
    generalize evL (sFa (t.1 513) s) (t.1 513) (lE (t.1 513) c - lB (t.1 513) c) (lB (t.1 513) c) [] = l at *
    rcases hr2 with e | e <;> subst e
    · cases l with
      | nil => simp (disch := omega) only [List.length_nil, b2_t, nI_lit, nI_add, pk_mul, nI_clp, nI_eqv, nI_lev, nI_ltv, nI_neg, nI_neg', nI_subv, Nat.add_zero, Nat.zero_add, Nat.mul_zero, Nat.reduceAdd, bN_rv, bM_ru, bV_rv, bV_rx, bU_ru, bU_rx, bN_ite, bM_ite, bV_ite, bU_ite, ↓bx_e, ↓sp_e, gA_ok, gZ_n, gB_0, gB_1, gB_i, and_true, and_false, true_and, false_and, decide_true, decide_false, ↓reduceIte, not_true_eq_false, not_false_eq_true, Bool.false_eq_true, Bool.true_eq_false, Bool.and_true, Bool.and_false, Bool.true_and, Bool.false_and, Bool.or_true, Bool.or_false, Bool.true_or, Bool.false_or, Bool.not_true, Bool.not_false, le_f, le_t, lt_f, lt_t, eq_f, ↓reduceIte, not_true_eq_false, not_false_eq_true, ite_10, bt_0, bt_1, q198, q199, q200, q201, q202, q203, q204, m190, m205, m206, b2_0, q189, q187]
      | cons x l => exact h3.elim
    · cases l with
      | nil => exact h3.elim
      | cons x l =>
        cases l with
        | cons y l => exact h3.2.elim
        | nil =>
          obtain ⟨hx, -⟩ := h2
          rw [List.length_nil] at hx
          simp (disch := omega) only [List.length_cons, List.length_nil, hx, nI_lit, nI_add, pk_mul, nI_clp, nI_eqv, nI_lev, nI_ltv, nI_neg, nI_neg', nI_subv, Nat.add_zero, Nat.zero_add, Nat.mul_zero, Nat.reduceAdd, bN_rv, bM_ru, bV_rv, bV_rx, bU_ru, bU_rx, bN_ite, bM_ite, bV_ite, bU_ite, ↓bx_e, ↓sp_e, gA_ok, gZ_n, gB_0, gB_1, gB_i, and_true, and_false, true_and, false_and, decide_true, decide_false, ↓reduceIte, not_true_eq_false, not_false_eq_true, Bool.false_eq_true, Bool.true_eq_false, Bool.and_true, Bool.and_false, Bool.true_and, Bool.false_and, Bool.or_true, Bool.or_false, Bool.true_or, Bool.false_or, Bool.not_true, Bool.not_false, le_f, le_t, lt_f, lt_t, eq_f, ↓reduceIte, not_true_eq_false, not_false_eq_true, ite_10, bt_0, bt_1, q198, q199, q200, q201, q202, q203, q204, m190, m205, m206, b2_0, q189, q187]
          by_cases hq : x = nI 1 <;> simp only [hq, b2_t, b2_f, and_true, and_false, true_and, false_and, decide_true, decide_false, ↓reduceIte, not_true_eq_false, not_false_eq_true, Bool.false_eq_true, Bool.true_eq_false, Bool.and_true, Bool.and_false, Bool.true_and, Bool.false_and, Bool.or_true, Bool.or_false, Bool.true_or, Bool.false_or, Bool.not_true, Bool.not_false]
  rcases l6 with h | h
  · exact key _ h (Or.inl rfl)
  · exact key _ h (Or.inr rfl)
/-- the law that is such -/
def WLw (f : Nat → Int32) : Prop := f 2 = nI 0 ∨ (f 2 = nI 1 ∧ ∃ n, n ≤ 12 ∧ f 770 = nI n ∧ ∀ c, c < n → WLn f c ∧ (c = 0 → lB f c = 0) ∧ (0 < c → lB f c = lE f (c - 1)))
def sSum (f : Nat → Int32) (kd : Int32) (s : Nat) : Int32 := if f 2 = nI 1 then fo (fun c acc => if (decide (f (771 + 4 * c) = kd) && sHo f s c) = true then acc + f (771 + 4 * c + 1) else acc) (f 770).toNatClampNeg 0 (nI 0) else nI 0
theorem m246 {t : mS} (hs : IS (t.1 513)) (hc : IC (t.1 513)) (hw : WLw (t.1 513)) {s : Nat} (h8 : s < 8) {kd : Int32} : ∃ t', q246 kd (nI s) t = rv (sSum (t.1 513) kd s) t' ∧ F1 520 t t' := by
  unfold q246 sSum
  rw [nI_lit]
  rcases hw with h | ⟨h, n, hn, hn7, hln⟩
  · refine ⟨t, ?_, fun _ _ => rfl, rfl⟩
    show q246_5 (9999 + 1) _ _ _ _ _ = _
    rw [q246_5]
    simp (disch := omega) only [h, nI_lit, nI_add, pk_mul, nI_clp, nI_eqv, nI_lev, nI_ltv, nI_neg, nI_neg', nI_subv, Nat.add_zero, Nat.zero_add, Nat.mul_zero, Nat.reduceAdd, bN_rv, bM_ru, bV_rv, bV_rx, bU_ru, bU_rx, bN_ite, bM_ite, bV_ite, bU_ite, ↓bx_e, ↓sp_e, gA_ok, gZ_n, gB_0, gB_1, gB_i, and_true, and_false, true_and, false_and, decide_true, decide_false, ↓reduceIte, not_true_eq_false, not_false_eq_true, Bool.false_eq_true, Bool.true_eq_false, Bool.and_true, Bool.and_false, Bool.true_and, Bool.false_and, Bool.or_true, Bool.or_false, Bool.true_or, Bool.false_or, Bool.not_true, Bool.not_false, le_f, le_t, lt_f, lt_t, eq_f, ↓reduceIte, not_true_eq_false, not_false_eq_true, ite_10, bt_0, bt_1, q198, q199, q200, q201, q202, q203, q204, m190, m205, m206, b2_0, q189, q187]
  · rw [if_pos h, hn7, nI_clp (by omega)]
    have H := lp_sim (Q := fun m (b : Int32 × mS) c => q246_5 m kd (nI s) b.1 c b.2) (e := n) (out := fun b => rv b.1 b.2) (J := fun _ b acc => b.1 = acc ∧ F1 520 t b.2)
      (g := fun c acc => if (decide (t.1 513 (771 + 4 * c) = kd) && sHo (t.1 513) s c) = true then acc + t.1 513 (771 + 4 * c + 1) else acc)
      (fun m b acc hJ => ?_) (fun m c b acc hcn hJ => ?_) n 0 (nI 0, t) (nI 0) 10000 (by omega) ⟨rfl, fun _ _ => rfl, rfl⟩ (by omega)
    · obtain ⟨⟨acc, t'⟩, h1, h2, h3⟩ := H
      exact ⟨t', by rw [← h2]; exact h1, h3⟩
    · obtain ⟨h1, h2⟩ := hJ
      have h513 : b.2.1 513 = t.1 513 := h2.1 513 (by omega)
      rw [q246_5]
      simp (disch := omega) only [h513, h, hn7, nI_lit, nI_add, pk_mul, nI_clp, nI_eqv, nI_lev, nI_ltv, nI_neg, nI_neg', nI_subv, Nat.add_zero, Nat.zero_add, Nat.mul_zero, Nat.reduceAdd, bN_rv, bM_ru, bV_rv, bV_rx, bU_ru, bU_rx, bN_ite, bM_ite, bV_ite, bU_ite, ↓bx_e, ↓sp_e, gA_ok, gZ_n, gB_0, gB_1, gB_i, and_true, and_false, true_and, false_and, decide_true, decide_false, ↓reduceIte, not_true_eq_false, not_false_eq_true, Bool.false_eq_true, Bool.true_eq_false, Bool.and_true, Bool.and_false, Bool.true_and, Bool.false_and, Bool.or_true, Bool.or_false, Bool.true_or, Bool.false_or, Bool.not_true, Bool.not_false, le_f, le_t, lt_f, lt_t, eq_f, ↓reduceIte, not_true_eq_false, not_false_eq_true, ite_10, bt_0, bt_1, q198, q199, q200, q201, q202, q203, q204, m190, m205, m206, b2_0, q189, q187]
    · obtain ⟨h1, h2⟩ := hJ
      have h513 : b.2.1 513 = t.1 513 := h2.1 513 (by omega)
      obtain ⟨t', k1, k2⟩ := m245 (t := b.2) (by rw [h513]; exact hs) (by rw [h513]; exact hc) h8 (show c < 12 by omega) (by rw [h513]; exact (hln c hcn).1)
      rw [h513] at k1
      by_cases e : t.1 513 (771 + 4 * c) = kd
      · have h513' : t'.1 513 = t.1 513 := (k2.1 513 (by omega)).trans h513
        refine ⟨((if sHo (t.1 513) s c = true then b.1 + t.1 513 (771 + 4 * c + 1) else b.1), t'), ?_, ?_, F1_t h2 k2⟩
        · rw [q246_5]
          simp (disch := omega) only [h513, h, hn7, e, q246_73, k1, h513', nI_lit, nI_add, pk_mul, nI_clp, nI_eqv, nI_lev, nI_ltv, nI_neg, nI_neg', nI_subv, Nat.add_zero, Nat.zero_add, Nat.mul_zero, Nat.reduceAdd, bN_rv, bM_ru, bV_rv, bV_rx, bU_ru, bU_rx, bN_ite, bM_ite, bV_ite, bU_ite, ↓bx_e, ↓sp_e, gA_ok, gZ_n, gB_0, gB_1, gB_i, and_true, and_false, true_and, false_and, decide_true, decide_false, ↓reduceIte, not_true_eq_false, not_false_eq_true, Bool.false_eq_true, Bool.true_eq_false, Bool.and_true, Bool.and_false, Bool.true_and, Bool.false_and, Bool.or_true, Bool.or_false, Bool.true_or, Bool.false_or, Bool.not_true, Bool.not_false, le_f, le_t, lt_f, lt_t, eq_f, ↓reduceIte, not_true_eq_false, not_false_eq_true, ite_10, bt_0, bt_1, q198, q199, q200, q201, q202, q203, q204, m190, m205, m206, b2_0, q189, q187]
          cases sHo (t.1 513) s c <;> simp only [and_true, and_false, true_and, false_and, decide_true, decide_false, ↓reduceIte, not_true_eq_false, not_false_eq_true, Bool.false_eq_true, Bool.true_eq_false, Bool.and_true, Bool.and_false, Bool.true_and, Bool.false_and, Bool.or_true, Bool.or_false, Bool.true_or, Bool.false_or, Bool.not_true, Bool.not_false]
        · rw [h1]; simp only [e, and_true, and_false, true_and, false_and, decide_true, decide_false, ↓reduceIte, not_true_eq_false, not_false_eq_true, Bool.false_eq_true, Bool.true_eq_false, Bool.and_true, Bool.and_false, Bool.true_and, Bool.false_and, Bool.or_true, Bool.or_false, Bool.true_or, Bool.false_or, Bool.not_true, Bool.not_false]
      · refine ⟨b, ?_, ?_, h2⟩
        · rw [q246_5]
          simp (disch := omega) only [h513, h, hn7, e, q246_73, nI_lit, nI_add, pk_mul, nI_clp, nI_eqv, nI_lev, nI_ltv, nI_neg, nI_neg', nI_subv, Nat.add_zero, Nat.zero_add, Nat.mul_zero, Nat.reduceAdd, bN_rv, bM_ru, bV_rv, bV_rx, bU_ru, bU_rx, bN_ite, bM_ite, bV_ite, bU_ite, ↓bx_e, ↓sp_e, gA_ok, gZ_n, gB_0, gB_1, gB_i, and_true, and_false, true_and, false_and, decide_true, decide_false, ↓reduceIte, not_true_eq_false, not_false_eq_true, Bool.false_eq_true, Bool.true_eq_false, Bool.and_true, Bool.and_false, Bool.true_and, Bool.false_and, Bool.or_true, Bool.or_false, Bool.true_or, Bool.false_or, Bool.not_true, Bool.not_false, le_f, le_t, lt_f, lt_t, eq_f, ↓reduceIte, not_true_eq_false, not_false_eq_true, ite_10, bt_0, bt_1, q198, q199, q200, q201, q202, q203, q204, m190, m205, m206, b2_0, q189, q187]
        · rw [h1]; simp only [e, and_true, and_false, true_and, false_and, decide_true, decide_false, ↓reduceIte, not_true_eq_false, not_false_eq_true, Bool.false_eq_true, Bool.true_eq_false, Bool.and_true, Bool.and_false, Bool.true_and, Bool.false_and, Bool.or_true, Bool.or_false, Bool.true_or, Bool.false_or, Bool.not_true, Bool.not_false]
def sBl (f : Nat → Int32) (s : Nat) : Int32 := mxI (nI 0) ((nI 10 + sSum f (nI 0) s) - sSum f (nI 1) s)
def sPay (f : Nat → Int32) (s : Nat) : Int32 := nI 1 + sSum f (nI 2) s
theorem m247 {t : mS} (hs : IS (t.1 513)) (hc : IC (t.1 513)) (hw : WLw (t.1 513)) {s : Nat} (h8 : s < 8) : ∃ t', q247 (nI s) t = rv (sBl (t.1 513) s) t' ∧ F1 520 t t' := by
  obtain ⟨t1, h1, h2⟩ := m246 (kd := nI 0) hs hc hw h8
  have e1 : t1.1 513 = t.1 513 := h2.1 513 (by omega)
  obtain ⟨t2, h3, h4⟩ := m246 (t := t1) (kd := nI 1) (by rw [e1]; exact hs) (by rw [e1]; exact hc) (by rw [e1]; exact hw) h8
  rw [e1] at h3
  refine ⟨t2, ?_, F1_t h2 h4⟩
  unfold q247 sBl
  simp (disch := omega) only [h1, h3, nI_lit, nI_add, pk_mul, nI_clp, nI_eqv, nI_lev, nI_ltv, nI_neg, nI_neg', nI_subv, Nat.add_zero, Nat.zero_add, Nat.mul_zero, Nat.reduceAdd, bN_rv, bM_ru, bV_rv, bV_rx, bU_ru, bU_rx, bN_ite, bM_ite, bV_ite, bU_ite, ↓bx_e, ↓sp_e, gA_ok, gZ_n, gB_0, gB_1, gB_i, and_true, and_false, true_and, false_and, decide_true, decide_false, ↓reduceIte, not_true_eq_false, not_false_eq_true, Bool.false_eq_true, Bool.true_eq_false, Bool.and_true, Bool.and_false, Bool.true_and, Bool.false_and, Bool.or_true, Bool.or_false, Bool.true_or, Bool.false_or, Bool.not_true, Bool.not_false, le_f, le_t, lt_f, lt_t, eq_f, ↓reduceIte, not_true_eq_false, not_false_eq_true, ite_10, bt_0, bt_1]
theorem m248 {t : mS} (hs : IS (t.1 513)) (hc : IC (t.1 513)) (hw : WLw (t.1 513)) {s : Nat} (h8 : s < 8) : ∃ t', q248 (nI s) t = rv (sPay (t.1 513) s) t' ∧ F1 520 t t' := by
  obtain ⟨t1, h1, h2⟩ := m246 (kd := nI 2) hs hc hw h8
  refine ⟨t1, ?_, h2⟩
  unfold q248 sPay
  simp (disch := omega) only [h1, nI_lit, nI_add, pk_mul, nI_clp, nI_eqv, nI_lev, nI_ltv, nI_neg, nI_neg', nI_subv, Nat.add_zero, Nat.zero_add, Nat.mul_zero, Nat.reduceAdd, bN_rv, bM_ru, bV_rv, bV_rx, bU_ru, bU_rx, bN_ite, bM_ite, bV_ite, bU_ite, ↓bx_e, ↓sp_e, gA_ok, gZ_n, gB_0, gB_1, gB_i, and_true, and_false, true_and, false_and, decide_true, decide_false, ↓reduceIte, not_true_eq_false, not_false_eq_true, Bool.false_eq_true, Bool.true_eq_false, Bool.and_true, Bool.and_false, Bool.true_and, Bool.false_and, Bool.or_true, Bool.or_false, Bool.true_or, Bool.false_or, Bool.not_true, Bool.not_false, le_f, le_t, lt_f, lt_t, eq_f, ↓reduceIte, not_true_eq_false, not_false_eq_true, ite_10, bt_0, bt_1]
