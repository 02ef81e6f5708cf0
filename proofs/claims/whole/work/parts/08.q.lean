/-! THE LAW IN THE CLASS (at 3) -/
def cEnc (o : Nat) (n : Int32) : Int32 := if o = 10 then n else if o < 10 then nI (1000 + o) else if o = 14 then nI 2000 else if o = 15 then nI 2001 else if o = 16 then nI 2002 else if o = 11 then nI 2003 else if o = 12 then nI 2004 else nI 2005
theorem cEnc_f {o : Nat} {n : Int32} (h : o < 10) : cEnc o n = nI (1000 + o) := by unfold cEnc; rw [if_neg (by omega), if_pos h]
theorem and01 {a b : Int32} (ha : a = nI 0 ∨ a = nI 1) (hb : b = nI 0 ∨ b = nI 1) : (a &&& b) = (if a + b = nI 2 then nI 1 else nI 0) ∧ (a ||| b) = (if a + b ≤ nI 0 then nI 0 else nI 1) := by
  rcases ha with e | e <;> rcases hb with e2 | e2 <;> rw [e, e2] <;> decide
/-- one row of code, in the class -/
theorem p26_s {K : Int32 → mS → Option mQ} {s : mS} {f fv : Nat → Int32} {e c i n : Nat} (hc : c < 12) (he : s.1 6 c = nI e) (he4 : e ≤ 400) (hi : i < e) (hfa : ∀ k, k < 10 → s.1 8 k = fv k) (hco : s.1 7 i = cEnc (lOp f i) (f (819 + 2 * i + 1))) (hwo : WO f i) {ts ts' : List Bool} {l : List Int32} (h : ty1 (lOp f i) ts = some ts') (hv : TV ts l) (hl : l.length < 40) (hS : SL (s.1 9) l) :
    ∃ s', q26_19 K 3 (n + 1) (nI c) (nI l.length) (nI i) s = q26_19 K 3 n (nI c) (nI (ev1 fv (lOp f i) (f (819 + 2 * i + 1)) l).length) (nI (i + 1)) s' ∧ SL (s'.1 9) (ev1 fv (lOp f i) (f (819 + 2 * i + 1)) l) ∧ F1 9 s s' := by
  obtain ⟨w1, w2, w3⟩ := hwo
  have hz := ty_sh w2 h hv
  generalize lOp f i = o at *
  rcases hz with ho | ⟨ho, x, r, hlr⟩ | hz
  · rw [ev1_p ho]
    refine ⟨sI s 9 l.length (if o = 10 then f (819 + 2 * i + 1) else fv o), ?_, ⟨?_, ?_⟩, F1_I⟩
    · by_cases h10 : o = 10
      · obtain ⟨v, hv1, hv2⟩ := w3 h10
        subst h10
        rw [q26_19]
        have hco' : s.1 7 i = nI v := by rw [hco]; unfold cEnc; rw [if_pos rfl, hv2]
        simp (disch := omega) only [he, hco', hv2, q26_80, q26_279, List.length_cons, nI_lit, nI_add, pk_mul, nI_clp, nI_eqv, nI_lev, nI_ltv, nI_neg, nI_neg', nI_subv, Nat.add_zero, Nat.zero_add, Nat.mul_zero, Nat.reduceAdd, bN_rv, bM_ru, bV_rv, bV_rx, bU_ru, bU_rx, bN_ite, bM_ite, bV_ite, bU_ite, ↓bx_e, ↓sp_e, gA_ok, gZ_n, gB_0, gB_1, gB_i, and_true, and_false, true_and, false_and, decide_true, decide_false, ↓reduceIte, not_true_eq_false, not_false_eq_true, Bool.false_eq_true, Bool.true_eq_false, Bool.and_true, Bool.and_false, Bool.true_and, Bool.false_and, Bool.or_true, Bool.or_false, Bool.true_or, Bool.false_or, Bool.not_true, Bool.not_false, le_f, le_t, lt_f, lt_t, eq_f, ↓reduceIte, not_true_eq_false, not_false_eq_true, ite_10, bt_0, bt_1]
      · rw [cEnc_f (by omega)] at hco
        rw [q26_19]
        simp (disch := omega) only [he, hco, h10, q26_80, q26_279, List.length_cons, Nat.add_sub_cancel_left, hfa, nI_lit, nI_add, pk_mul, nI_clp, nI_eqv, nI_lev, nI_ltv, nI_neg, nI_neg', nI_subv, Nat.add_zero, Nat.zero_add, Nat.mul_zero, Nat.reduceAdd, bN_rv, bM_ru, bV_rv, bV_rx, bU_ru, bU_rx, bN_ite, bM_ite, bV_ite, bU_ite, ↓bx_e, ↓sp_e, gA_ok, gZ_n, gB_0, gB_1, gB_i, and_true, and_false, true_and, false_and, decide_true, decide_false, ↓reduceIte, not_true_eq_false, not_false_eq_true, Bool.false_eq_true, Bool.true_eq_false, Bool.and_true, Bool.and_false, Bool.true_and, Bool.false_and, Bool.or_true, Bool.or_false, Bool.true_or, Bool.false_or, Bool.not_true, Bool.not_false, le_f, le_t, lt_f, lt_t, eq_f, ↓reduceIte, not_true_eq_false, not_false_eq_true, ite_10, bt_0, bt_1]
    · rw [sI_sm, ud_e rfl]
    · rw [sI_sm]; exact SL_u hS (Nat.le_refl _)
  · subst ho; subst hlr
    obtain ⟨hx, hr⟩ := hS
    rw [List.length_cons] at hl
    rw [ev1_n]
    have hco' : s.1 7 i = nI 2000 := hco
    refine ⟨sI s 9 r.length (nI 1 - x), ?_, ⟨?_, ?_⟩, F1_I⟩
    · rw [q26_19]
      simp (disch := omega) only [he, hco', hx, q26_87, q26_279, List.length_cons, Nat.add_sub_cancel, nI_lit, nI_add, pk_mul, nI_clp, nI_eqv, nI_lev, nI_ltv, nI_neg, nI_neg', nI_subv, Nat.add_zero, Nat.zero_add, Nat.mul_zero, Nat.reduceAdd, bN_rv, bM_ru, bV_rv, bV_rx, bU_ru, bU_rx, bN_ite, bM_ite, bV_ite, bU_ite, ↓bx_e, ↓sp_e, gA_ok, gZ_n, gB_0, gB_1, gB_i, and_true, and_false, true_and, false_and, decide_true, decide_false, ↓reduceIte, not_true_eq_false, not_false_eq_true, Bool.false_eq_true, Bool.true_eq_false, Bool.and_true, Bool.and_false, Bool.true_and, Bool.false_and, Bool.or_true, Bool.or_false, Bool.true_or, Bool.false_or, Bool.not_true, Bool.not_false, le_f, le_t, lt_f, lt_t, eq_f, ↓reduceIte, not_true_eq_false, not_false_eq_true, ite_10, bt_0, bt_1]
    · rw [sI_sm, ud_e rfl]
    · rw [sI_sm]; exact SL_u hr (Nat.le_refl _)
  · have hz2 : (o = 11 ∨ o = 12 ∨ o = 13 ∨ o = 15 ∨ o = 16) ∧ ∃ b a r, l = b :: a :: r ∧ ((o = 15 ∨ o = 16) → (a = nI 0 ∨ a = nI 1) ∧ (b = nI 0 ∨ b = nI 1)) := by
      rcases hz with ⟨ho, b, a, r, hlr⟩ | ⟨ho, b, a, r, hlr, ha, hb⟩
      · exact ⟨by omega, b, a, r, hlr, fun q => by omega⟩
      · exact ⟨by omega, b, a, r, hlr, fun _ => ⟨ha, hb⟩⟩
    obtain ⟨ho, b, a, r, hlr, hbo⟩ := hz2
    clear hz
    subst hlr
    obtain ⟨hb, ha, hr⟩ := hS
    rw [List.length_cons, List.length_cons] at hl
    rw [List.length_cons] at hb
    rw [ev1_b ho]
    refine ⟨sI s 9 r.length (bop o a b), ?_, ⟨?_, ?_⟩, F1_I⟩
    · rw [q26_19]
      rcases ho with e | e | e | e | e <;> subst e
      · have hco' : s.1 7 i = nI 2003 := hco
        simp (disch := omega) only [he, hco', hb, ha, nI_dec, q26_87, q26_121, q26_279, List.length_cons, Nat.add_sub_cancel, bop, nI_lit, nI_add, pk_mul, nI_clp, nI_eqv, nI_lev, nI_ltv, nI_neg, nI_neg', nI_subv, Nat.add_zero, Nat.zero_add, Nat.mul_zero, Nat.reduceAdd, bN_rv, bM_ru, bV_rv, bV_rx, bU_ru, bU_rx, bN_ite, bM_ite, bV_ite, bU_ite, ↓bx_e, ↓sp_e, gA_ok, gZ_n, gB_0, gB_1, gB_i, and_true, and_false, true_and, false_and, decide_true, decide_false, ↓reduceIte, not_true_eq_false, not_false_eq_true, Bool.false_eq_true, Bool.true_eq_false, Bool.and_true, Bool.and_false, Bool.true_and, Bool.false_and, Bool.or_true, Bool.or_false, Bool.true_or, Bool.false_or, Bool.not_true, Bool.not_false, le_f, le_t, lt_f, lt_t, eq_f, ↓reduceIte, not_true_eq_false, not_false_eq_true, ite_10, bt_0, bt_1]
      · have hco' : s.1 7 i = nI 2004 := hco
        simp (disch := omega) only [he, hco', hb, ha, nI_dec, q26_87, q26_121, q26_255, q26_279, List.length_cons, Nat.add_sub_cancel, bop, nI_lit, nI_add, pk_mul, nI_clp, nI_eqv, nI_lev, nI_ltv, nI_neg, nI_neg', nI_subv, Nat.add_zero, Nat.zero_add, Nat.mul_zero, Nat.reduceAdd, bN_rv, bM_ru, bV_rv, bV_rx, bU_ru, bU_rx, bN_ite, bM_ite, bV_ite, bU_ite, ↓bx_e, ↓sp_e, gA_ok, gZ_n, gB_0, gB_1, gB_i, and_true, and_false, true_and, false_and, decide_true, decide_false, ↓reduceIte, not_true_eq_false, not_false_eq_true, Bool.false_eq_true, Bool.true_eq_false, Bool.and_true, Bool.and_false, Bool.true_and, Bool.false_and, Bool.or_true, Bool.or_false, Bool.true_or, Bool.false_or, Bool.not_true, Bool.not_false, le_f, le_t, lt_f, lt_t, eq_f, ↓reduceIte, not_true_eq_false, not_false_eq_true, ite_10, bt_0, bt_1]
        by_cases hq : b ≤ a <;> simp only [hq, and_true, and_false, true_and, false_and, decide_true, decide_false, ↓reduceIte, not_true_eq_false, not_false_eq_true, Bool.false_eq_true, Bool.true_eq_false, Bool.and_true, Bool.and_false, Bool.true_and, Bool.false_and, Bool.or_true, Bool.or_false, Bool.true_or, Bool.false_or, Bool.not_true, Bool.not_false]
      · have hco' : s.1 7 i = nI 2005 := hco
        simp (disch := omega) only [he, hco', hb, ha, nI_dec, q26_87, q26_121, q26_278, q26_279, List.length_cons, Nat.add_sub_cancel, bop, nI_lit, nI_add, pk_mul, nI_clp, nI_eqv, nI_lev, nI_ltv, nI_neg, nI_neg', nI_subv, Nat.add_zero, Nat.zero_add, Nat.mul_zero, Nat.reduceAdd, bN_rv, bM_ru, bV_rv, bV_rx, bU_ru, bU_rx, bN_ite, bM_ite, bV_ite, bU_ite, ↓bx_e, ↓sp_e, gA_ok, gZ_n, gB_0, gB_1, gB_i, and_true, and_false, true_and, false_and, decide_true, decide_false, ↓reduceIte, not_true_eq_false, not_false_eq_true, Bool.false_eq_true, Bool.true_eq_false, Bool.and_true, Bool.and_false, Bool.true_and, Bool.false_and, Bool.or_true, Bool.or_false, Bool.true_or, Bool.false_or, Bool.not_true, Bool.not_false, le_f, le_t, lt_f, lt_t, eq_f, ↓reduceIte, not_true_eq_false, not_false_eq_true, ite_10, bt_0, bt_1]
        by_cases hq : a ≤ b <;> simp only [hq, and_true, and_false, true_and, false_and, decide_true, decide_false, ↓reduceIte, not_true_eq_false, not_false_eq_true, Bool.false_eq_true, Bool.true_eq_false, Bool.and_true, Bool.and_false, Bool.true_and, Bool.false_and, Bool.or_true, Bool.or_false, Bool.true_or, Bool.false_or, Bool.not_true, Bool.not_false]
      · have hco' : s.1 7 i = nI 2001 := hco
        have hq := hbo (Or.inl rfl)
        simp (disch := omega) only [he, hco', hb, ha, nI_dec, q26_87, q26_121, q26_279, List.length_cons, Nat.add_sub_cancel, bop, (and01 hq.1 hq.2).1, nI_lit, nI_add, pk_mul, nI_clp, nI_eqv, nI_lev, nI_ltv, nI_neg, nI_neg', nI_subv, Nat.add_zero, Nat.zero_add, Nat.mul_zero, Nat.reduceAdd, bN_rv, bM_ru, bV_rv, bV_rx, bU_ru, bU_rx, bN_ite, bM_ite, bV_ite, bU_ite, ↓bx_e, ↓sp_e, gA_ok, gZ_n, gB_0, gB_1, gB_i, and_true, and_false, true_and, false_and, decide_true, decide_false, ↓reduceIte, not_true_eq_false, not_false_eq_true, Bool.false_eq_true, Bool.true_eq_false, Bool.and_true, Bool.and_false, Bool.true_and, Bool.false_and, Bool.or_true, Bool.or_false, Bool.true_or, Bool.false_or, Bool.not_true, Bool.not_false, le_f, le_t, lt_f, lt_t, eq_f, ↓reduceIte, not_true_eq_false, not_false_eq_true, ite_10, bt_0, bt_1]
      · have hco' : s.1 7 i = nI 2002 := hco
        have hq := hbo (Or.inr rfl)
        simp (disch := omega) only [he, hco', hb, ha, nI_dec, q26_87, q26_121, q26_279, List.length_cons, Nat.add_sub_cancel, bop, (and01 hq.1 hq.2).2, nI_lit, nI_add, pk_mul, nI_clp, nI_eqv, nI_lev, nI_ltv, nI_neg, nI_neg', nI_subv, Nat.add_zero, Nat.zero_add, Nat.mul_zero, Nat.reduceAdd, bN_rv, bM_ru, bV_rv, bV_rx, bU_ru, bU_rx, bN_ite, bM_ite, bV_ite, bU_ite, ↓bx_e, ↓sp_e, gA_ok, gZ_n, gB_0, gB_1, gB_i, and_true, and_false, true_and, false_and, decide_true, decide_false, ↓reduceIte, not_true_eq_false, not_false_eq_true, Bool.false_eq_true, Bool.true_eq_false, Bool.and_true, Bool.and_false, Bool.true_and, Bool.false_and, Bool.or_true, Bool.or_false, Bool.true_or, Bool.false_or, Bool.not_true, Bool.not_false, le_f, le_t, lt_f, lt_t, eq_f, ↓reduceIte, not_true_eq_false, not_false_eq_true, ite_10, bt_0, bt_1]
    · rw [sI_sm, ud_e rfl]
    · rw [sI_sm]; exact SL_u hr (Nat.le_refl _)
theorem p26_l {K : Int32 → mS → Option mQ} {f fv : Nat → Int32} (hb : fvB fv) {e c : Nat} (hc12 : c < 12) (he4 : e ≤ 400) :
    ∀ m i n (s : mS) ts r l, i + m = e → s.1 6 c = nI e → (∀ k, k < 10 → s.1 8 k = fv k) → (∀ j, j < e → s.1 7 j = cEnc (lOp f j) (f (819 + 2 * j + 1))) → (∀ j, j < e → WO f j) → tyL f m i ts = some r → TV ts l → SL (s.1 9) l → m < n →
      ∃ s', q26_19 K 3 n (nI c) (nI l.length) (nI i) s = K (nI (evL fv f m i l).length) s' ∧ SL (s'.1 9) (evL fv f m i l) ∧ TV r (evL fv f m i l) ∧ F1 9 s s' := by
  intro m
  induction m with
  | zero =>
    intro i n s ts r l hi he hfa hco hwo hty hv hS hn
    cases n with
    | zero => omega
    | succ n =>
      have : i = e := by omega
      subst this
      rw [tyL] at hty
      cases hty
      refine ⟨s, ?_, hS, hv, fun _ _ => rfl, rfl⟩
      rw [q26_19]
      simp (disch := omega) only [he, evL, nI_lit, nI_add, pk_mul, nI_clp, nI_eqv, nI_lev, nI_ltv, nI_neg, nI_neg', nI_subv, Nat.add_zero, Nat.zero_add, Nat.mul_zero, Nat.reduceAdd, bN_rv, bM_ru, bV_rv, bV_rx, bU_ru, bU_rx, bN_ite, bM_ite, bV_ite, bU_ite, ↓bx_e, ↓sp_e, gA_ok, gZ_n, gB_0, gB_1, gB_i, and_true, and_false, true_and, false_and, decide_true, decide_false, ↓reduceIte, not_true_eq_false, not_false_eq_true, Bool.false_eq_true, Bool.true_eq_false, Bool.and_true, Bool.and_false, Bool.true_and, Bool.false_and, Bool.or_true, Bool.or_false, Bool.true_or, Bool.false_or, Bool.not_true, Bool.not_false, le_f, le_t, lt_f, lt_t, eq_f, ↓reduceIte, not_true_eq_false, not_false_eq_true, ite_10, bt_0, bt_1]
  | succ m ih =>
    intro i n s ts r l hi he hfa hco hwo hty hv hS hn
    cases n with
    | zero => omega
    | succ n =>
      rw [tyL] at hty
      split at hty
      · cases hty
      · split at hty
        · cases hty
        · rename_i ts' hty1
          have hln := TV_len hv
          obtain ⟨s1, h1, h2, h3⟩ := p26_s (K := K) (f := f) (fv := fv) (n := n) hc12 he he4 (show i < e by omega) hfa (hco i (by omega)) (hwo i (by omega)) (ts := ts) (ts' := ts') (l := l) hty1 hv (by omega) hS
          obtain ⟨s2, k1, k2, k3, k4⟩ := ih (i + 1) n s1 ts' r _ (by omega) (by rw [h3.1 6 (by omega)]; exact he) (fun k hk => by rw [h3.1 8 (by omega)]; exact hfa k hk) (fun j hj => by rw [h3.1 7 (by omega)]; exact hco j hj) hwo hty (ty_ev hb hty1 hv) h2 (by omega)
          exact ⟨s2, h1.trans k1, k2, k3, F1_t h3 k4⟩
def RLw (s : mS) (f : Nat → Int32) : Prop := (f 2 = nI 0 ∧ s.1 3 0 = -nI 1) ∨ (f 2 = nI 1 ∧ ∃ n, n ≤ 12 ∧ f 770 = nI n ∧ s.1 3 0 = nI n ∧ ∀ c, c < n → s.1 4 c = f (771 + 4 * c) ∧ s.1 5 c = f (771 + 4 * c + 1) ∧ s.1 6 c = f (771 + 4 * c + 3) ∧ ∀ j, j < lE f c → s.1 7 j = cEnc (lOp f j) (f (819 + 2 * j + 1)))
theorem p26 {s : mS} {f : Nat → Int32} (hs : IS f) (hc : IC f) {i c n : Nat} (h8 : i < 8) (hfa : ∀ k, k < 10 → s.1 8 k = sFa f i k) (hn : n ≤ 12) (hcn : c < n) (hln : ∀ c, c < n → WLn f c ∧ (c = 0 → lB f c = 0) ∧ (0 < c → lB f c = lE f (c - 1)))
    (hcl : ∀ c, c < n → s.1 4 c = f (771 + 4 * c) ∧ s.1 5 c = f (771 + 4 * c + 1) ∧ s.1 6 c = f (771 + 4 * c + 3) ∧ ∀ j, j < lE f c → s.1 7 j = cEnc (lOp f j) (f (819 + 2 * j + 1))) : ∃ s', q26 3 (nI c) s = rv (b2 (sHo f i c)) s' ∧ F1 9 s s' := by
  obtain ⟨⟨l1, l2, l3, l4, l5, l6⟩, hl0, hl1⟩ := hln c hcn
  obtain ⟨c1, c2, c3, c4⟩ := hcl c hcn
  have he : s.1 6 c = nI (lE f c) := by rw [c3, l2]
  have start : q26 3 (nI c) s = q26_18 3 (nI c) (nI 0) (nI (lB f c)) s := by
    unfold q26
    by_cases h0 : c = 0
    · subst h0
      rw [hl0 rfl]
      simp (disch := omega) only [nI_lit, nI_add, pk_mul, nI_clp, nI_eqv, nI_lev, nI_ltv, nI_neg, nI_neg', nI_subv, Nat.add_zero, Nat.zero_add, Nat.mul_zero, Nat.reduceAdd, bN_rv, bM_ru, bV_rv, bV_rx, bU_ru, bU_rx, bN_ite, bM_ite, bV_ite, bU_ite, ↓bx_e, ↓sp_e, gA_ok, gZ_n, gB_0, gB_1, gB_i, and_true, and_false, true_and, false_and, decide_true, decide_false, ↓reduceIte, not_true_eq_false, not_false_eq_true, Bool.false_eq_true, Bool.true_eq_false, Bool.and_true, Bool.and_false, Bool.true_and, Bool.false_and, Bool.or_true, Bool.or_false, Bool.true_or, Bool.false_or, Bool.not_true, Bool.not_false, le_f, le_t, lt_f, lt_t, eq_f, ↓reduceIte, not_true_eq_false, not_false_eq_true, ite_10, bt_0, bt_1]
    · have hp := hcl (c - 1) (by omega)
      have hq := (hln (c - 1) (by omega)).1.2.1
      rw [hl1 (by omega)]
      simp (disch := omega) only [h0, hp.2.2.1, hq, nI_lit, nI_add, pk_mul, nI_clp, nI_eqv, nI_lev, nI_ltv, nI_neg, nI_neg', nI_subv, Nat.add_zero, Nat.zero_add, Nat.mul_zero, Nat.reduceAdd, bN_rv, bM_ru, bV_rv, bV_rx, bU_ru, bU_rx, bN_ite, bM_ite, bV_ite, bU_ite, ↓bx_e, ↓sp_e, gA_ok, gZ_n, gB_0, gB_1, gB_i, and_true, and_false, true_and, false_and, decide_true, decide_false, ↓reduceIte, not_true_eq_false, not_false_eq_true, Bool.false_eq_true, Bool.true_eq_false, Bool.and_true, Bool.and_false, Bool.true_and, Bool.false_and, Bool.or_true, Bool.or_false, Bool.true_or, Bool.false_or, Bool.not_true, Bool.not_false, le_f, le_t, lt_f, lt_t, eq_f, ↓reduceIte, not_true_eq_false, not_false_eq_true, ite_10, bt_0, bt_1]
  have key : ∀ r, tyL f (lE f c - lB f c) (lB f c) [] = some r → (r = [] ∨ r = [true]) → ∃ s', q26 3 (nI c) s = rv (b2 (sHo f i c)) s' ∧ F1 9 s s' := by
    intro r hr hr2
    obtain ⟨s', h1, h2, h3, h4⟩ := p26_l (K := q26_285 3) (f := f) (fvB_s hs hc h8) (show c < 12 by omega) l4 (lE f c - lB f c) (lB f c) 10000 s [] r [] (by omega) he hfa (fun j hj => c4 j hj) l5 hr trivial trivial (by omega)
    refine ⟨s', ?_, h4⟩
    rw [start]
    unfold q26_18
    rw [List.length_nil] at h1
    rw [h1]
    unfold q26_285 q26_298 sHo
    generalize evL (sFa f i) f (lE f c - lB f c) (lB f c) [] = l at *
    rcases hr2 with e | e <;> subst e
    · cases l with
      | nil => simp (disch := omega) only [List.length_nil, b2_t, nI_lit, nI_add, pk_mul, nI_clp, nI_eqv, nI_lev, nI_ltv, nI_neg, nI_neg', nI_subv, Nat.add_zero, Nat.zero_add, Nat.mul_zero, Nat.reduceAdd, bN_rv, bM_ru, bV_rv, bV_rx, bU_ru, bU_rx, bN_ite, bM_ite, bV_ite, bU_ite, ↓bx_e, ↓sp_e, gA_ok, gZ_n, gB_0, gB_1, gB_i, and_true, and_false, true_and, false_and, decide_true, decide_false, ↓reduceIte, not_true_eq_false, not_false_eq_true, Bool.false_eq_true, Bool.true_eq_false, Bool.and_true, Bool.and_false, Bool.true_and, Bool.false_and, Bool.or_true, Bool.or_false, Bool.true_or, Bool.false_or, Bool.not_true, Bool.not_false, le_f, le_t, lt_f, lt_t, eq_f, ↓reduceIte, not_true_eq_false, not_false_eq_true, ite_10, bt_0, bt_1]
      | cons x l => exact h3.elim
    · cases l with
      | nil => exact h3.elim
      | cons x l =>
        cases l with
        | cons y l => exact h3.2.elim
        | nil =>
          obtain ⟨hx, -⟩ := h2
          rw [List.length_nil] at hx
          simp (disch := omega) only [List.length_cons, List.length_nil, hx, nI_lit, nI_add, pk_mul, nI_clp, nI_eqv, nI_lev, nI_ltv, nI_neg, nI_neg', nI_subv, Nat.add_zero, Nat.zero_add, Nat.mul_zero, Nat.reduceAdd, bN_rv, bM_ru, bV_rv, bV_rx, bU_ru, bU_rx, bN_ite, bM_ite, bV_ite, bU_ite, ↓bx_e, ↓sp_e, gA_ok, gZ_n, gB_0, gB_1, gB_i, and_true, and_false, true_and, false_and, decide_true, decide_false, ↓reduceIte, not_true_eq_false, not_false_eq_true, Bool.false_eq_true, Bool.true_eq_false, Bool.and_true, Bool.and_false, Bool.true_and, Bool.false_and, Bool.or_true, Bool.or_false, Bool.true_or, Bool.false_or, Bool.not_true, Bool.not_false, le_f, le_t, lt_f, lt_t, eq_f, ↓reduceIte, not_true_eq_false, not_false_eq_true, ite_10, bt_0, bt_1]
          rcases h3.1 rfl with e | e <;> rw [e] <;> simp only [show (nI 0 = nI 1) = False from by decide, show (nI 1 = nI 0) = False from by decide, b2_t, b2_f, and_true, and_false, true_and, false_and, decide_true, decide_false, ↓reduceIte, not_true_eq_false, not_false_eq_true, Bool.false_eq_true, Bool.true_eq_false, Bool.and_true, Bool.and_false, Bool.true_and, Bool.false_and, Bool.or_true, Bool.or_false, Bool.true_or, Bool.false_or, Bool.not_true, Bool.not_false]
  rcases l6 with h | h
  · exact key _ h (Or.inl rfl)
  · exact key _ h (Or.inr rfl)
theorem p25 {s : mS} {f : Nat → Int32} (hs : IS f) (hc : IC f) (hw : WLw f) (hL : RLw s f) {i : Nat} (h8 : i < 8) (hfa : ∀ k, k < 10 → s.1 8 k = sFa f i k) {kd : Int32} : ∃ s', q25 3 kd s = rv (sSum f kd i) s' ∧ F1 9 s s' := by
  unfold q25 sSum
  rw [nI_lit]
  rcases hL with ⟨h, h30⟩ | ⟨h, n, hn, hn7, h30, hcl⟩
  · refine ⟨s, ?_, fun _ _ => rfl, rfl⟩
    show q25_4 3 (9999 + 1) _ _ _ _ = _
    rw [q25_4]
    simp (disch := omega) only [h, h30, show (-nI 1 ≤ nI 0) = True from by decide, nI_lit, nI_add, pk_mul, nI_clp, nI_eqv, nI_lev, nI_ltv, nI_neg, nI_neg', nI_subv, Nat.add_zero, Nat.zero_add, Nat.mul_zero, Nat.reduceAdd, bN_rv, bM_ru, bV_rv, bV_rx, bU_ru, bU_rx, bN_ite, bM_ite, bV_ite, bU_ite, ↓bx_e, ↓sp_e, gA_ok, gZ_n, gB_0, gB_1, gB_i, and_true, and_false, true_and, false_and, decide_true, decide_false, ↓reduceIte, not_true_eq_false, not_false_eq_true, Bool.false_eq_true, Bool.true_eq_false, Bool.and_true, Bool.and_false, Bool.true_and, Bool.false_and, Bool.or_true, Bool.or_false, Bool.true_or, Bool.false_or, Bool.not_true, Bool.not_false, le_f, le_t, lt_f, lt_t, eq_f, ↓reduceIte, not_true_eq_false, not_false_eq_true, ite_10, bt_0, bt_1]
  · have hln : ∀ c, c < n → WLn f c ∧ (c = 0 → lB f c = 0) ∧ (0 < c → lB f c = lE f (c - 1)) := by
      rcases hw with q | ⟨q, m, hm, hm7, hq⟩
      · rw [h] at q; exact absurd q (by decide)
      · have : m = n := by
          rw [hn7] at hm7
          have := (nI_eq (by omega) (by omega)).mp hm7
          omega
        subst this; exact hq
    rw [if_pos h, hn7, nI_clp (by omega)]
    have H := lp_sim (Q := fun m (b : Int32 × mS) c => q25_4 3 m kd b.1 c b.2) (e := n) (out := fun b => rv b.1 b.2) (J := fun _ b acc => b.1 = acc ∧ F1 9 s b.2)
      (g := fun c acc => if (decide (f (771 + 4 * c) = kd) && sHo f i c) = true then acc + f (771 + 4 * c + 1) else acc)
      (fun m b acc hJ => ?_) (fun m c b acc hcn hJ => ?_) n 0 (nI 0, s) (nI 0) 10000 (by omega) ⟨rfl, fun _ _ => rfl, rfl⟩ (by omega)
    · obtain ⟨⟨acc, s'⟩, h1, h2, h3⟩ := H
      exact ⟨s', by rw [← h2]; exact h1, h3⟩
    · obtain ⟨h1, h2⟩ := hJ
      have k3 : b.2.1 3 = s.1 3 := h2.1 3 (by omega)
      rw [q25_4]
      simp (disch := omega) only [k3, h30, nI_lit, nI_add, pk_mul, nI_clp, nI_eqv, nI_lev, nI_ltv, nI_neg, nI_neg', nI_subv, Nat.add_zero, Nat.zero_add, Nat.mul_zero, Nat.reduceAdd, bN_rv, bM_ru, bV_rv, bV_rx, bU_ru, bU_rx, bN_ite, bM_ite, bV_ite, bU_ite, ↓bx_e, ↓sp_e, gA_ok, gZ_n, gB_0, gB_1, gB_i, and_true, and_false, true_and, false_and, decide_true, decide_false, ↓reduceIte, not_true_eq_false, not_false_eq_true, Bool.false_eq_true, Bool.true_eq_false, Bool.and_true, Bool.and_false, Bool.true_and, Bool.false_and, Bool.or_true, Bool.or_false, Bool.true_or, Bool.false_or, Bool.not_true, Bool.not_false, le_f, le_t, lt_f, lt_t, eq_f, ↓reduceIte, not_true_eq_false, not_false_eq_true, ite_10, bt_0, bt_1]
    · obtain ⟨h1, h2⟩ := hJ
      have k3 : b.2.1 3 = s.1 3 := h2.1 3 (by omega)
      have k4 : b.2.1 4 = s.1 4 := h2.1 4 (by omega)
      have k5 : b.2.1 5 = s.1 5 := h2.1 5 (by omega)
      have k6 : b.2.1 6 = s.1 6 := h2.1 6 (by omega)
      have k7 : b.2.1 7 = s.1 7 := h2.1 7 (by omega)
      have k8 : b.2.1 8 = s.1 8 := h2.1 8 (by omega)
      obtain ⟨s', j1, j2⟩ := p26 (s := b.2) hs hc (i := i) (c := c) h8 (by rw [k8]; exact hfa) hn hcn hln (by rw [k4, k5, k6, k7]; exact hcl)
      by_cases e : f (771 + 4 * c) = kd
      · have k5' : s'.1 5 = s.1 5 := (j2.1 5 (by omega)).trans k5
        refine ⟨((if sHo f i c = true then b.1 + f (771 + 4 * c + 1) else b.1), s'), ?_, ?_, F1_t h2 j2⟩
        · rw [q25_4]
          simp (disch := omega) only [k3, k4, h30, (hcl c hcn).1, e, q25_39, j1, k5', (hcl c hcn).2.1, b2_0, nI_lit, nI_add, pk_mul, nI_clp, nI_eqv, nI_lev, nI_ltv, nI_neg, nI_neg', nI_subv, Nat.add_zero, Nat.zero_add, Nat.mul_zero, Nat.reduceAdd, bN_rv, bM_ru, bV_rv, bV_rx, bU_ru, bU_rx, bN_ite, bM_ite, bV_ite, bU_ite, ↓bx_e, ↓sp_e, gA_ok, gZ_n, gB_0, gB_1, gB_i, and_true, and_false, true_and, false_and, decide_true, decide_false, ↓reduceIte, not_true_eq_false, not_false_eq_true, Bool.false_eq_true, Bool.true_eq_false, Bool.and_true, Bool.and_false, Bool.true_and, Bool.false_and, Bool.or_true, Bool.or_false, Bool.true_or, Bool.false_or, Bool.not_true, Bool.not_false, le_f, le_t, lt_f, lt_t, eq_f, ↓reduceIte, not_true_eq_false, not_false_eq_true, ite_10, bt_0, bt_1]
          cases sHo f i c <;> simp only [and_true, and_false, true_and, false_and, decide_true, decide_false, ↓reduceIte, not_true_eq_false, not_false_eq_true, Bool.false_eq_true, Bool.true_eq_false, Bool.and_true, Bool.and_false, Bool.true_and, Bool.false_and, Bool.or_true, Bool.or_false, Bool.true_or, Bool.false_or, Bool.not_true, Bool.not_false]
        · rw [h1]; simp only [e, and_true, and_false, true_and, false_and, decide_true, decide_false, ↓reduceIte, not_true_eq_false, not_false_eq_true, Bool.false_eq_true, Bool.true_eq_false, Bool.and_true, Bool.and_false, Bool.true_and, Bool.false_and, Bool.or_true, Bool.or_false, Bool.true_or, Bool.false_or, Bool.not_true, Bool.not_false]
      · refine ⟨b, ?_, ?_, h2⟩
        · rw [q25_4]
          simp (disch := omega) only [k3, k4, h30, (hcl c hcn).1, e, q25_39, nI_lit, nI_add, pk_mul, nI_clp, nI_eqv, nI_lev, nI_ltv, nI_neg, nI_neg', nI_subv, Nat.add_zero, Nat.zero_add, Nat.mul_zero, Nat.reduceAdd, bN_rv, bM_ru, bV_rv, bV_rx, bU_ru, bU_rx, bN_ite, bM_ite, bV_ite, bU_ite, ↓bx_e, ↓sp_e, gA_ok, gZ_n, gB_0, gB_1, gB_i, and_true, and_false, true_and, false_and, decide_true, decide_false, ↓reduceIte, not_true_eq_false, not_false_eq_true, Bool.false_eq_true, Bool.true_eq_false, Bool.and_true, Bool.and_false, Bool.true_and, Bool.false_and, Bool.or_true, Bool.or_false, Bool.true_or, Bool.false_or, Bool.not_true, Bool.not_false, le_f, le_t, lt_f, lt_t, eq_f, ↓reduceIte, not_true_eq_false, not_false_eq_true, ite_10, bt_0, bt_1]
        · rw [h1]; simp only [e, and_true, and_false, true_and, false_and, decide_true, decide_false, ↓reduceIte, not_true_eq_false, not_false_eq_true, Bool.false_eq_true, Bool.true_eq_false, Bool.and_true, Bool.and_false, Bool.true_and, Bool.false_and, Bool.or_true, Bool.or_false, Bool.true_or, Bool.false_or, Bool.not_true, Bool.not_false]
