/-! THE STORE'S TEXT: keys, and what a line says -/
section ST0
variable (b : Nat → Nat) (L : Nat)
def keysR : Nat → Nat → Int32 → Nat ⊕ (Nat × Int32)
  | 0, p, _ => .inl p
  | m + 1, p, w => match nm b L 9 p with
    | none => .inl p
    | some k => if isB b L 48 57 (sk b L (dg b L p)) = true then keysR m (sk b L (dg b L p)) (w ||| shlI (nI 1) (nI k)) else .inr (sk b L (dg b L p), w ||| shlI (nI 1) (nI k))
def keysW (tx p : Nat) : Nat ⊕ (Nat × Int32) := if wd b L tx p = true then keysR b L 10 (sk b L (p + tln tx)) (nI 0) else .inr (p, nI 0)
end ST0
section ST1
variable {b : Nat → Nat} {L : Nat}
theorem bits10 {w : Int32} (h : ∀ j, 10 ≤ j → bt w j = false) : ∃ m, m < 1024 ∧ w = nI m := w_of (show 10 ≤ 31 by omega) h
theorem keysR_k : ∀ m p w, p ≤ L → sk b L p = p → (∀ j, 10 ≤ j → bt w j = false) → (match keysR b L m p w with
    | .inl f => p ≤ f ∧ f ≤ L ∧ sk b L f = f
    | .inr (p', w') => p < p' ∧ p' ≤ L ∧ sk b L p' = p' ∧ ∀ j, 10 ≤ j → bt w' j = false) := by
  intro m
  induction m with
  | zero => intro p w h1 h2 h3; exact ⟨Nat.le_refl _, h1, h2⟩
  | succ m ih =>
    intro p w h1 h2 h3
    rw [keysR]
    cases en : nm b L 9 p with
    | none => exact ⟨Nat.le_refl _, h1, h2⟩
    | some k =>
      have hk := nm_p en
      obtain ⟨d1, d2, -, -⟩ := dg_p (b := b) h1
      obtain ⟨r1, r2, r3, r4⟩ := sk_p (b := b) d2
      have hw : ∀ j, 10 ≤ j → bt (w ||| shlI (nI 1) (nI k)) j = false := fun j hj => by rw [b_or, h3 j hj, bt_sh (by omega), decide_eq_false (by omega)]; rfl
      dsimp only
      cases e : isB b L 48 57 (sk b L (dg b L p)) with
      | false => rw [if_neg (show ¬ (false = true) by decide)]; exact ⟨by omega, r2, r4, hw⟩
      | true =>
        rw [if_pos rfl]
        have := ih _ _ r2 r4 hw
        cases e2 : keysR b L m (sk b L (dg b L p)) (w ||| shlI (nI 1) (nI k)) with
        | inl f => rw [e2] at this; exact ⟨by have := this.1; omega, this.2⟩
        | inr x => rw [e2] at this; exact ⟨by have := this.1; omega, this.2⟩
theorem keysW_k {tx p : Nat} (h1 : tx < 22) (h7 : tx ≠ 7) (h8 : tx ≠ 8) (hpL : p ≤ L) (hs : sk b L p = p) : match keysW b L tx p with
    | .inl f => p ≤ f ∧ f ≤ L ∧ sk b L f = f
    | .inr (p', w') => p ≤ p' ∧ p' ≤ L ∧ sk b L p' = p' ∧ ∀ j, 10 ≤ j → bt w' j = false := by
  unfold keysW
  cases e : wd b L tx p with
  | false => rw [if_neg (show ¬ (false = true) by decide)]; exact ⟨Nat.le_refl _, hpL, hs, fun j _ => bt_n0⟩
  | true =>
    rw [if_pos rfl]
    have hq := wd_p hpL e
    obtain ⟨r1, r2, r3, r4⟩ := sk_p (b := b) hq.1
    have := keysR_k (b := b) (L := L) 10 _ (nI 0) r2 r4 (fun j _ => bt_n0)
    cases e2 : keysR b L 10 (sk b L (p + tln tx)) (nI 0) with
    | inl f => rw [e2] at this; exact ⟨by have := this.1; omega, this.2⟩
    | inr x => rw [e2] at this; exact ⟨by have := this.1; omega, this.2⟩
theorem p95_4 {s : mS} (h : CP b L s) : ∀ m i p w N, i + m = 10 → m < N → p ≤ L → q95_4 N w (nI i) (cAt s p) = match keysR b L m p w with
    | .inl f => rv (-nI 1) (cAt s f)
    | .inr (p', w') => rv w' (cAt s p') := by
  have hL := h.1
  intro m
  induction m with
  | zero =>
    intro i p w N hi hN hp
    obtain ⟨N, rfl⟩ : ∃ N', N = N' + 1 := ⟨N - 1, by omega⟩
    rw [keysR, q95_4]
    simp (disch := omega) only [nI_lit, nI_add, pk_mul, nI_clp, nI_eqv, nI_lev, nI_ltv, nI_neg, nI_neg', nI_subv, Nat.add_zero, Nat.zero_add, Nat.mul_zero, Nat.reduceAdd, bN_rv, bM_ru, bV_rv, bV_rx, bU_ru, bU_rx, bN_ite, bM_ite, bV_ite, bU_ite, ↓bx_e, ↓sp_e, gA_ok, gZ_n, gB_0, gB_1, gB_i, and_true, and_false, true_and, false_and, decide_true, decide_false, ↓reduceIte, not_true_eq_false, not_false_eq_true, Bool.false_eq_true, Bool.true_eq_false, Bool.and_true, Bool.and_false, Bool.true_and, Bool.false_and, Bool.or_true, Bool.or_false, Bool.true_or, Bool.false_or, Bool.not_true, Bool.not_false, le_f, le_t, lt_f, lt_t, eq_f, ↓reduceIte, not_true_eq_false, not_false_eq_true, ite_10, bt_0, bt_1]
  | succ m ih =>
    intro i p w N hi hN hp
    obtain ⟨N, rfl⟩ : ∃ N', N = N' + 1 := ⟨N - 1, by omega⟩
    have k8 := p108 (hi := 9) (cAt_C (p := p) h) cAt_p hp (by omega)
    rw [keysR, q95_4]
    cases en : nm b L 9 p with
    | none =>
      rw [en, show oI none = -nI 1 from rfl, if_neg (show ¬ (none : Option Nat).isSome = true by decide), cAt_2] at k8
      simp (disch := omega) only [k8, nI_lit, nI_add, pk_mul, nI_clp, nI_eqv, nI_lev, nI_ltv, nI_neg, nI_neg', nI_subv, Nat.add_zero, Nat.zero_add, Nat.mul_zero, Nat.reduceAdd, bN_rv, bM_ru, bV_rv, bV_rx, bU_ru, bU_rx, bN_ite, bM_ite, bV_ite, bU_ite, ↓bx_e, ↓sp_e, gA_ok, gZ_n, gB_0, gB_1, gB_i, and_true, and_false, true_and, false_and, decide_true, decide_false, ↓reduceIte, not_true_eq_false, not_false_eq_true, Bool.false_eq_true, Bool.true_eq_false, Bool.and_true, Bool.and_false, Bool.true_and, Bool.false_and, Bool.or_true, Bool.or_false, Bool.true_or, Bool.false_or, Bool.not_true, Bool.not_false, le_f, le_t, lt_f, lt_t, eq_f, ↓reduceIte, not_true_eq_false, not_false_eq_true, ite_10, bt_0, bt_1]
    | some k =>
      have hk := nm_p en
      obtain ⟨d1, d2, -, -⟩ := dg_p (b := b) hp
      obtain ⟨r1, r2, r3, r4⟩ := sk_p (b := b) d2
      rw [en, show oI (some k) = nI k from rfl, if_pos (show (some k).isSome = true from rfl), cAt_2] at k8
      have k6 := p106 (cAt_C (p := sk b L (dg b L p)) h) cAt_p r2
      dsimp only
      cases e : isB b L 48 57 (sk b L (dg b L p)) with
      | false =>
        rw [e, b2_f] at k6
        rw [if_neg (show ¬ (false = true) by decide)]
        simp (disch := omega) only [k8, k6, nI_lit, nI_add, pk_mul, nI_clp, nI_eqv, nI_lev, nI_ltv, nI_neg, nI_neg', nI_subv, Nat.add_zero, Nat.zero_add, Nat.mul_zero, Nat.reduceAdd, bN_rv, bM_ru, bV_rv, bV_rx, bU_ru, bU_rx, bN_ite, bM_ite, bV_ite, bU_ite, ↓bx_e, ↓sp_e, gA_ok, gZ_n, gB_0, gB_1, gB_i, and_true, and_false, true_and, false_and, decide_true, decide_false, ↓reduceIte, not_true_eq_false, not_false_eq_true, Bool.false_eq_true, Bool.true_eq_false, Bool.and_true, Bool.and_false, Bool.true_and, Bool.false_and, Bool.or_true, Bool.or_false, Bool.true_or, Bool.false_or, Bool.not_true, Bool.not_false, le_f, le_t, lt_f, lt_t, eq_f, ↓reduceIte, not_true_eq_false, not_false_eq_true, ite_10, bt_0, bt_1]
      | true =>
        rw [e, b2_t] at k6
        rw [if_pos rfl, ← ih (i + 1) _ _ N (by omega) (by omega) r2]
        simp (disch := omega) only [k8, k6, nI_lit, nI_add, pk_mul, nI_clp, nI_eqv, nI_lev, nI_ltv, nI_neg, nI_neg', nI_subv, Nat.add_zero, Nat.zero_add, Nat.mul_zero, Nat.reduceAdd, bN_rv, bM_ru, bV_rv, bV_rx, bU_ru, bU_rx, bN_ite, bM_ite, bV_ite, bU_ite, ↓bx_e, ↓sp_e, gA_ok, gZ_n, gB_0, gB_1, gB_i, and_true, and_false, true_and, false_and, decide_true, decide_false, ↓reduceIte, not_true_eq_false, not_false_eq_true, Bool.false_eq_true, Bool.true_eq_false, Bool.and_true, Bool.and_false, Bool.true_and, Bool.false_and, Bool.or_true, Bool.or_false, Bool.true_or, Bool.false_or, Bool.not_true, Bool.not_false, le_f, le_t, lt_f, lt_t, eq_f, ↓reduceIte, not_true_eq_false, not_false_eq_true, ite_10, bt_0, bt_1]
theorem p95 {s : mS} {p : Nat} (h : CP b L s) (hp : p ≤ L) : q95 (cAt s p) = match keysR b L 10 p (nI 0) with
    | .inl f => rv (-nI 1) (cAt s f)
    | .inr (p', w') => rv w' (cAt s p') := by
  unfold q95
  simp only [nI_lit]
  exact p95_4 h 10 0 p (nI 0) 10000 (by omega) (by omega) hp
theorem m226_20 {t : mS} {tx : Nat} (h : TB b L t) : ∀ m i p w N y g, i + m = 10 → m + 1 < N → y ≤ L → sk b L y = p → (match keysR b L m p w with
    | .inl f => ∃ z, q226_20 (q226_93 tx) tx N w (nI i) (nI 1) (nI 1) (tB t y g) = rv (-nI 1) (tB t z f)
    | .inr (p', w') => ∃ z x, z ≤ L ∧ sk b L z = p' ∧ q226_20 (q226_93 tx) tx N w (nI i) (nI 1) (nI 1) (tB t y g) = rv w' (tB t z x)) := by
  have hL := h.1
  have fin : ∀ N w v3 v4 u, q226_20 (q226_93 tx) tx (N + 1) w v3 v4 (nI 0) u = q226_93 tx w v4 u := fun N w v3 v4 u => by
    rw [q226_20, if_pos (show nI 0 = 0 from rfl)]
  intro m
  induction m with
  | zero =>
    intro i p w N y g hi hN hy hsy
    obtain ⟨N, rfl⟩ : ∃ N', N = N' + 1 + 1 := ⟨N - 2, by omega⟩
    have k1 := m221 (hi := 9) (tB_T (p := y) (g := g) h) tB_p hy (by omega)
    rw [hsy, tB_2] at k1
    rw [keysR]
    refine ⟨dg b L p, ?_⟩
    rw [q226_20]
    have m0 : (-nI 1 < nI 0) = True := neg1_lt
    cases en : nm b L 9 p with
    | none =>
      rw [en, show oI none = -nI 1 from rfl] at k1
      simp (disch := omega) only [k1, m0, q226_49, q226_50, q226_66, q226_87, q226_88, q226_93, fin, nI_lit, nI_add, pk_mul, nI_clp, nI_eqv, nI_lev, nI_ltv, nI_neg, nI_neg', nI_subv, Nat.add_zero, Nat.zero_add, Nat.mul_zero, Nat.reduceAdd, bN_rv, bM_ru, bV_rv, bV_rx, bU_ru, bU_rx, bN_ite, bM_ite, bV_ite, bU_ite, ↓bx_e, ↓sp_e, gA_ok, gZ_n, gB_0, gB_1, gB_i, and_true, and_false, true_and, false_and, decide_true, decide_false, ↓reduceIte, not_true_eq_false, not_false_eq_true, Bool.false_eq_true, Bool.true_eq_false, Bool.and_true, Bool.and_false, Bool.true_and, Bool.false_and, Bool.or_true, Bool.or_false, Bool.true_or, Bool.false_or, Bool.not_true, Bool.not_false, le_f, le_t, lt_f, lt_t, eq_f, ↓reduceIte, not_true_eq_false, not_false_eq_true, ite_10, bt_0, bt_1]
    | some k =>
      have hk := nm_p en
      rw [en, show oI (some k) = nI k from rfl] at k1
      have l0 : (nI k < nI 0) = False := lt0 (by omega)
      simp (disch := omega) only [k1, l0, q226_49, q226_50, q226_66, q226_87, q226_88, q226_93, fin, nI_lit, nI_add, pk_mul, nI_clp, nI_eqv, nI_lev, nI_ltv, nI_neg, nI_neg', nI_subv, Nat.add_zero, Nat.zero_add, Nat.mul_zero, Nat.reduceAdd, bN_rv, bM_ru, bV_rv, bV_rx, bU_ru, bU_rx, bN_ite, bM_ite, bV_ite, bU_ite, ↓bx_e, ↓sp_e, gA_ok, gZ_n, gB_0, gB_1, gB_i, and_true, and_false, true_and, false_and, decide_true, decide_false, ↓reduceIte, not_true_eq_false, not_false_eq_true, Bool.false_eq_true, Bool.true_eq_false, Bool.and_true, Bool.and_false, Bool.true_and, Bool.false_and, Bool.or_true, Bool.or_false, Bool.true_or, Bool.false_or, Bool.not_true, Bool.not_false, le_f, le_t, lt_f, lt_t, eq_f, ↓reduceIte, not_true_eq_false, not_false_eq_true, ite_10, bt_0, bt_1]
  | succ m ih =>
    intro i p w N y g hi hN hy hsy
    obtain ⟨N, rfl⟩ : ∃ N', N = N' + 1 + 1 := ⟨N - 2, by omega⟩
    have hpL : p ≤ L := by rw [← hsy]; exact (sk_p (b := b) hy).2.1
    have k1 := m221 (hi := 9) (tB_T (p := y) (g := g) h) tB_p hy (by omega)
    rw [hsy, tB_2] at k1
    rw [keysR]
    have m0 : (-nI 1 < nI 0) = True := neg1_lt
    cases en : nm b L 9 p with
    | none =>
      rw [en, show oI none = -nI 1 from rfl] at k1
      refine ⟨dg b L p, ?_⟩
      rw [q226_20]
      simp (disch := omega) only [k1, m0, q226_49, q226_50, q226_66, q226_87, q226_88, q226_93, fin, nI_lit, nI_add, pk_mul, nI_clp, nI_eqv, nI_lev, nI_ltv, nI_neg, nI_neg', nI_subv, Nat.add_zero, Nat.zero_add, Nat.mul_zero, Nat.reduceAdd, bN_rv, bM_ru, bV_rv, bV_rx, bU_ru, bU_rx, bN_ite, bM_ite, bV_ite, bU_ite, ↓bx_e, ↓sp_e, gA_ok, gZ_n, gB_0, gB_1, gB_i, and_true, and_false, true_and, false_and, decide_true, decide_false, ↓reduceIte, not_true_eq_false, not_false_eq_true, Bool.false_eq_true, Bool.true_eq_false, Bool.and_true, Bool.and_false, Bool.true_and, Bool.false_and, Bool.or_true, Bool.or_false, Bool.true_or, Bool.false_or, Bool.not_true, Bool.not_false, le_f, le_t, lt_f, lt_t, eq_f, ↓reduceIte, not_true_eq_false, not_false_eq_true, ite_10, bt_0, bt_1]
    | some k =>
      have hk := nm_p en
      obtain ⟨d1, d2, -, -⟩ := dg_p (b := b) hpL
      obtain ⟨r1, r2, r3, r4⟩ := sk_p (b := b) d2
      rw [en, show oI (some k) = nI k from rfl] at k1
      have l0 : (nI k < nI 0) = False := lt0 (by omega)
      have k2 := m222 (tB_T (p := dg b L p) (g := p) h) tB_p d2
      rw [tB_2] at k2
      dsimp only
      cases e : isB b L 48 57 (sk b L (dg b L p)) with
      | false =>
        rw [e, b2_f] at k2
        rw [if_neg (show ¬ (false = true) by decide)]
        refine ⟨_, sk b L (dg b L p), r2, r4, ?_⟩
        rw [q226_20]
        simp (disch := omega) only [k1, l0, k2, q226_49, q226_50, q226_66, q226_87, q226_88, q226_93, fin, nI_lit, nI_add, pk_mul, nI_clp, nI_eqv, nI_lev, nI_ltv, nI_neg, nI_neg', nI_subv, Nat.add_zero, Nat.zero_add, Nat.mul_zero, Nat.reduceAdd, bN_rv, bM_ru, bV_rv, bV_rx, bU_ru, bU_rx, bN_ite, bM_ite, bV_ite, bU_ite, ↓bx_e, ↓sp_e, gA_ok, gZ_n, gB_0, gB_1, gB_i, and_true, and_false, true_and, false_and, decide_true, decide_false, ↓reduceIte, not_true_eq_false, not_false_eq_true, Bool.false_eq_true, Bool.true_eq_false, Bool.and_true, Bool.and_false, Bool.true_and, Bool.false_and, Bool.or_true, Bool.or_false, Bool.true_or, Bool.false_or, Bool.not_true, Bool.not_false, le_f, le_t, lt_f, lt_t, eq_f, ↓reduceIte, not_true_eq_false, not_false_eq_true, ite_10, bt_0, bt_1]
      | true =>
        rw [e, b2_t] at k2
        rw [if_pos rfl]
        have i1 := ih (i + 1) _ (w ||| shlI (nI 1) (nI k)) (N + 1) (sk b L (dg b L p)) (sk b L (dg b L p)) (by omega) (by omega) r2 r4
        have eq : q226_20 (q226_93 tx) tx (N + 1 + 1) w (nI i) (nI 1) (nI 1) (tB t y g) = q226_20 (q226_93 tx) tx (N + 1) (w ||| shlI (nI 1) (nI k)) (nI (i + 1)) (nI 1) (nI 1) (tB t (sk b L (dg b L p)) (sk b L (dg b L p))) := by
          rw [q226_20]
          simp (disch := omega) only [k1, l0, k2, q226_49, q226_50, q226_66, q226_87, q226_88, nI_lit, nI_add, pk_mul, nI_clp, nI_eqv, nI_lev, nI_ltv, nI_neg, nI_neg', nI_subv, Nat.add_zero, Nat.zero_add, Nat.mul_zero, Nat.reduceAdd, bN_rv, bM_ru, bV_rv, bV_rx, bU_ru, bU_rx, bN_ite, bM_ite, bV_ite, bU_ite, ↓bx_e, ↓sp_e, gA_ok, gZ_n, gB_0, gB_1, gB_i, and_true, and_false, true_and, false_and, decide_true, decide_false, ↓reduceIte, not_true_eq_false, not_false_eq_true, Bool.false_eq_true, Bool.true_eq_false, Bool.and_true, Bool.and_false, Bool.true_and, Bool.false_and, Bool.or_true, Bool.or_false, Bool.true_or, Bool.false_or, Bool.not_true, Bool.not_false, le_f, le_t, lt_f, lt_t, eq_f, ↓reduceIte, not_true_eq_false, not_false_eq_true, ite_10, bt_0, bt_1]
        rw [eq]
        exact i1
theorem m226 {t : mS} {p tx : Nat} (h : TB b L t) (hp : AtP b L t p) (h1 : tx < 22) (h7 : tx ≠ 7) (h8 : tx ≠ 8) : match keysW b L tx p with
    | .inl f => ∃ z, q226 tx t = rv (-nI 1) (tB t z f)
    | .inr (p', w') => ∃ z x, z ≤ L ∧ sk b L z = p' ∧ q226 tx t = rv w' (tB t z x) := by
  obtain ⟨pL, ps⟩ := AtP_l hp
  have k := m219_P h hp h1 h7 h8
  unfold keysW
  cases e : wd b L tx p with
  | false =>
    rw [e, b2_f, if_neg (show ¬ (false = true) by decide)] at k
    rw [if_neg (show ¬ (false = true) by decide)]
    refine ⟨p, p, pL, ps, ?_⟩
    unfold q226
    simp (disch := omega) only [k, nI_lit, nI_add, pk_mul, nI_clp, nI_eqv, nI_lev, nI_ltv, nI_neg, nI_neg', nI_subv, Nat.add_zero, Nat.zero_add, Nat.mul_zero, Nat.reduceAdd, bN_rv, bM_ru, bV_rv, bV_rx, bU_ru, bU_rx, bN_ite, bM_ite, bV_ite, bU_ite, ↓bx_e, ↓sp_e, gA_ok, gZ_n, gB_0, gB_1, gB_i, and_true, and_false, true_and, false_and, decide_true, decide_false, ↓reduceIte, not_true_eq_false, not_false_eq_true, Bool.false_eq_true, Bool.true_eq_false, Bool.and_true, Bool.and_false, Bool.true_and, Bool.false_and, Bool.or_true, Bool.or_false, Bool.true_or, Bool.false_or, Bool.not_true, Bool.not_false, le_f, le_t, lt_f, lt_t, eq_f, ↓reduceIte, not_true_eq_false, not_false_eq_true, ite_10, bt_0, bt_1]
  | true =>
    have hq := wd_p pL e
    rw [e, b2_t, if_pos rfl] at k
    rw [if_pos rfl]
    have k2 := m226_20 (tx := tx) h 10 0 (sk b L (p + tln tx)) (nI 0) 10000 (p + tln tx) p (by omega) (by omega) hq.1 rfl
    have eq : q226 tx t = q226_20 (q226_93 tx) tx 10000 (nI 0) (nI 0) (nI 1) (nI 1) (tB t (p + tln tx) p) := by
      unfold q226
      simp (disch := omega) only [k, nI_lit, nI_add, pk_mul, nI_clp, nI_eqv, nI_lev, nI_ltv, nI_neg, nI_neg', nI_subv, Nat.add_zero, Nat.zero_add, Nat.mul_zero, Nat.reduceAdd, bN_rv, bM_ru, bV_rv, bV_rx, bU_ru, bU_rx, bN_ite, bM_ite, bV_ite, bU_ite, ↓bx_e, ↓sp_e, gA_ok, gZ_n, gB_0, gB_1, gB_i, and_true, and_false, true_and, false_and, decide_true, decide_false, ↓reduceIte, not_true_eq_false, not_false_eq_true, Bool.false_eq_true, Bool.true_eq_false, Bool.and_true, Bool.and_false, Bool.true_and, Bool.false_and, Bool.or_true, Bool.or_false, Bool.true_or, Bool.false_or, Bool.not_true, Bool.not_false, le_f, le_t, lt_f, lt_t, eq_f, ↓reduceIte, not_true_eq_false, not_false_eq_true, ite_10, bt_0, bt_1]
    rw [eq]
    exact k2
end ST1
