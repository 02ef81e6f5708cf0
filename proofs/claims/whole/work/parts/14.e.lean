/-! THE STORE'S TEXT: a line of the reference -/
section ST5
variable {b : Nat → Nat} {L : Nat}
def FT (t t' : mS) : Prop := (∀ c, c ≠ 512 → c ≠ 513 → t'.1 c = t.1 c) ∧ (∀ j, j ≠ 10 → j ≠ 12 → t'.1 512 j = t.1 512 j) ∧ t'.2 = t.2
theorem FT_r {t : mS} : FT t t := ⟨fun _ _ _ => rfl, fun _ _ _ => rfl, rfl⟩
theorem FT_t {t t' t'' : mS} (h : FT t t') (h2 : FT t' t'') : FT t t'' := ⟨fun c x y => (h2.1 c x y).trans (h.1 c x y), fun j x y => (h2.2.1 j x y).trans (h.2.1 j x y), h2.2.2.trans h.2.2⟩
theorem FT_B {t : mS} {q g : Nat} : FT t (tB t q g) := ⟨fun c x _ => tB_n x, fun j x y => tB_j ⟨x, y⟩, tB_x⟩
theorem FT_I {t : mS} {j : Nat} {x : Int32} : FT t (sI t 513 j x) := ⟨fun c _ y => sI_fn y, fun k _ _ => by rw [sI_fn (by omega)], Eq.trans rfl rfl⟩
theorem TB_FT {t t' : mS} (h : TB b L t) (hf : FT t t') : TB b L t' := ⟨h.1, h.2.1, by rw [hf.2.1 11 (by omega) (by omega)]; exact h.2.2.1, fun i hi => by rw [hf.1 518 (by omega) (by omega)]; exact h.2.2.2 i hi⟩
def SRf (b : Nat → Nat) (L : Nat) (t : mS) (q : Option mQ) (r : SR) : Prop := match r with
  | .inl f => ∃ t', q = rv (nI 0) t' ∧ FT t t' ∧ t'.1 512 12 = nI f
  | .inr (p', g) => ∃ t', q = rv (nI 1) t' ∧ FT t t' ∧ AtP b L t' p' ∧ t'.1 513 = g
theorem m225 {t : mS} {p hi at_ : Nat} {f : Nat → Int32} (h : TB b L t) (hp : AtP b L t p) (hf : t.1 513 = f) (hhi : hi < 10000) (ha : at_ < 100) : SRf b L t (q225 (nI at_) (nI 0) (nI hi) t) (numT b L hi at_ p f) := by
  obtain ⟨pL, ps⟩ := AtP_l hp
  obtain ⟨q, q1, q2, q3⟩ := hp
  have k := m221 (hi := hi) h q2 q1 hhi
  rw [q3] at k
  obtain ⟨d1, d2, -, -⟩ := dg_p (b := b) pL
  have m0 : (nI 0 ≤ -nI 1) = False := eq_false (by decide)
  unfold numT
  cases en : nm b L hi p with
  | none =>
    rw [en, show oI none = -nI 1 from rfl] at k
    refine ⟨sI (tB t (dg b L p) p) 513 at_ ((tB t (dg b L p) p).1 513 at_), ?_, FT_t FT_B FT_I, by rw [sI_fn (by omega), tB_g]⟩
    unfold q225 q225_29
    simp (disch := omega) only [k, m0, neg1_lt, nI_lit, nI_add, pk_mul, nI_clp, nI_eqv, nI_lev, nI_ltv, nI_neg, nI_neg', nI_subv, Nat.add_zero, Nat.zero_add, Nat.mul_zero, Nat.reduceAdd, bN_rv, bM_ru, bV_rv, bV_rx, bU_ru, bU_rx, bN_ite, bM_ite, bV_ite, bU_ite, ↓bx_e, ↓sp_e, gA_ok, gZ_n, gB_0, gB_1, gB_i, and_true, and_false, true_and, false_and, decide_true, decide_false, ↓reduceIte, not_true_eq_false, not_false_eq_true, Bool.false_eq_true, Bool.true_eq_false, Bool.and_true, Bool.and_false, Bool.true_and, Bool.false_and, Bool.or_true, Bool.or_false, Bool.true_or, Bool.false_or, Bool.not_true, Bool.not_false, le_f, le_t, lt_f, lt_t, eq_f, ↓reduceIte, not_true_eq_false, not_false_eq_true, ite_10, bt_0, bt_1]
  | some v =>
    have hv := nm_p en
    have l1 : (nI 0 ≤ nI v) = True := eq_true (by rw [nI_lev (by omega) (by omega)]; omega)
    have l0 : (nI v < nI 0) = False := lt0 (by omega)
    rw [en, show oI (some v) = nI v from rfl] at k
    refine ⟨sI (tB t (dg b L p) p) 513 at_ (nI v), ?_, FT_t FT_B FT_I, ⟨dg b L p, d2, by rw [sI_fn (by omega)]; exact tB_p, rfl⟩, by rw [sI_sm, tB_n (by omega), hf]⟩
    unfold q225 q225_29
    simp (disch := omega) only [k, l1, l0, nI_lit, nI_add, pk_mul, nI_clp, nI_eqv, nI_lev, nI_ltv, nI_neg, nI_neg', nI_subv, Nat.add_zero, Nat.zero_add, Nat.mul_zero, Nat.reduceAdd, bN_rv, bM_ru, bV_rv, bV_rx, bU_ru, bU_rx, bN_ite, bM_ite, bV_ite, bU_ite, ↓bx_e, ↓sp_e, gA_ok, gZ_n, gB_0, gB_1, gB_i, and_true, and_false, true_and, false_and, decide_true, decide_false, ↓reduceIte, not_true_eq_false, not_false_eq_true, Bool.false_eq_true, Bool.true_eq_false, Bool.and_true, Bool.and_false, Bool.true_and, Bool.false_and, Bool.or_true, Bool.or_false, Bool.true_or, Bool.false_or, Bool.not_true, Bool.not_false, le_f, le_t, lt_f, lt_t, eq_f, ↓reduceIte, not_true_eq_false, not_false_eq_true, ite_10, bt_0, bt_1]
theorem m228 {t : mS} {p T B : Nat} {f : Nat → Int32} (h : TB b L t) (hp : AtP b L t p) (hf : t.1 513 = f) (hI : IB T B f) : SRf b L t (q228 t) (verT b L p f) := by
  obtain ⟨pL, ps⟩ := AtP_l hp
  obtain ⟨q, q1, q2, q3⟩ := hp
  have k := m221 (hi := 9) h q2 q1 (by omega)
  rw [q3] at k
  obtain ⟨d1, d2, -, -⟩ := dg_p (b := b) pL
  obtain ⟨r1, r2, r3, r4⟩ := sk_p (b := b) d2
  have m0 : (nI 0 ≤ -nI 1) = False := eq_false (by decide)
  unfold verT
  cases en : nm b L 9 p with
  | none =>
    rw [en, show oI none = -nI 1 from rfl] at k
    refine ⟨tB t (dg b L p) p, ?_, FT_B, tB_g⟩
    unfold q228
    simp (disch := omega) only [k, neg1_lt, nI_lit, nI_add, pk_mul, nI_clp, nI_eqv, nI_lev, nI_ltv, nI_neg, nI_neg', nI_subv, Nat.add_zero, Nat.zero_add, Nat.mul_zero, Nat.reduceAdd, bN_rv, bM_ru, bV_rv, bV_rx, bU_ru, bU_rx, bN_ite, bM_ite, bV_ite, bU_ite, ↓bx_e, ↓sp_e, gA_ok, gZ_n, gB_0, gB_1, gB_i, and_true, and_false, true_and, false_and, decide_true, decide_false, ↓reduceIte, not_true_eq_false, not_false_eq_true, Bool.false_eq_true, Bool.true_eq_false, Bool.and_true, Bool.and_false, Bool.true_and, Bool.false_and, Bool.or_true, Bool.or_false, Bool.true_or, Bool.false_or, Bool.not_true, Bool.not_false, le_f, le_t, lt_f, lt_t, eq_f, ↓reduceIte, not_true_eq_false, not_false_eq_true, ite_10, bt_0, bt_1]
  | some kk =>
    have hk := nm_p en
    have l0 : (nI kk < nI 0) = False := lt0 (by omega)
    rw [en, show oI (some kk) = nI kk from rfl] at k
    have e513 : (tB t (dg b L p) p).1 513 = f := by rw [tB_n (by omega)]; exact hf
    have k10 := m210 (k := kk) (by omega) (t := tB t (dg b L p) p)
    rw [e513, sWr_eq hI.1.1.1 (show kk < 10 by omega)] at k10
    dsimp only
    cases ew : sWri f kk with
    | some w =>
      rw [if_neg (show ¬ (some w : Option Nat) = none from fun q => by (cases q))]
      have hw8 : w < 8 := by have := (fs_some ew).2.1; omega
      rw [ew, show oI (some w) = nI w from rfl] at k10
      refine ⟨tB t (dg b L p) p, ?_, FT_B, tB_g⟩
      unfold q228
      simp (disch := omega) only [k, l0, k10, nI_lit, nI_add, pk_mul, nI_clp, nI_eqv, nI_lev, nI_ltv, nI_neg, nI_neg', nI_subv, Nat.add_zero, Nat.zero_add, Nat.mul_zero, Nat.reduceAdd, bN_rv, bM_ru, bV_rv, bV_rx, bU_ru, bU_rx, bN_ite, bM_ite, bV_ite, bU_ite, ↓bx_e, ↓sp_e, gA_ok, gZ_n, gB_0, gB_1, gB_i, and_true, and_false, true_and, false_and, decide_true, decide_false, ↓reduceIte, not_true_eq_false, not_false_eq_true, Bool.false_eq_true, Bool.true_eq_false, Bool.and_true, Bool.and_false, Bool.true_and, Bool.false_and, Bool.or_true, Bool.or_false, Bool.true_or, Bool.false_or, Bool.not_true, Bool.not_false, le_f, le_t, lt_f, lt_t, eq_f, ↓reduceIte, not_true_eq_false, not_false_eq_true, ite_10, bt_0, bt_1]
    | none =>
      rw [if_pos rfl]
      rw [ew, show oI none = -nI 1 from rfl] at k10
      have k2 := m221 (hi := 999) (tB_T (p := dg b L p) (g := p) h) tB_p d2 (by omega)
      rw [tB_2] at k2
      generalize sk b L (dg b L p) = p1 at *
      obtain ⟨u1, u2, -, -⟩ := dg_p (b := b) r2
      cases e2 : nm b L 999 p1 with
      | none =>
        rw [e2, show oI none = -nI 1 from rfl] at k2
        refine ⟨tB t (dg b L p1) p1, ?_, FT_B, tB_g⟩
        unfold q228
        simp (disch := omega) only [k, l0, k10, k2, m0, nI_lit, nI_add, pk_mul, nI_clp, nI_eqv, nI_lev, nI_ltv, nI_neg, nI_neg', nI_subv, Nat.add_zero, Nat.zero_add, Nat.mul_zero, Nat.reduceAdd, bN_rv, bM_ru, bV_rv, bV_rx, bU_ru, bU_rx, bN_ite, bM_ite, bV_ite, bU_ite, ↓bx_e, ↓sp_e, gA_ok, gZ_n, gB_0, gB_1, gB_i, and_true, and_false, true_and, false_and, decide_true, decide_false, ↓reduceIte, not_true_eq_false, not_false_eq_true, Bool.false_eq_true, Bool.true_eq_false, Bool.and_true, Bool.and_false, Bool.true_and, Bool.false_and, Bool.or_true, Bool.or_false, Bool.true_or, Bool.false_or, Bool.not_true, Bool.not_false, le_f, le_t, lt_f, lt_t, eq_f, ↓reduceIte, not_true_eq_false, not_false_eq_true, ite_10, bt_0, bt_1]
      | some v =>
        have hv := nm_p e2
        have l1 : (nI 0 ≤ nI v) = True := eq_true (by rw [nI_lev (by omega) (by omega)]; omega)
        rw [e2, show oI (some v) = nI v from rfl] at k2
        have e513' : (tB t (dg b L p1) p1).1 513 = f := by rw [tB_n (by omega)]; exact hf
        refine ⟨sI (tB t (dg b L p1) p1) 513 (9 + 4 * kk) (mnI (nI 9999) (f (9 + 4 * kk) + nI v)), ?_, FT_t FT_B FT_I, ⟨dg b L p1, u2, by rw [sI_fn (by omega)]; exact tB_p, rfl⟩, by rw [sI_sm, e513']⟩
        unfold q228
        simp (disch := omega) only [k, l0, k10, k2, l1, q199, q200, e513', nI_lit, nI_add, pk_mul, nI_clp, nI_eqv, nI_lev, nI_ltv, nI_neg, nI_neg', nI_subv, Nat.add_zero, Nat.zero_add, Nat.mul_zero, Nat.reduceAdd, bN_rv, bM_ru, bV_rv, bV_rx, bU_ru, bU_rx, bN_ite, bM_ite, bV_ite, bU_ite, ↓bx_e, ↓sp_e, gA_ok, gZ_n, gB_0, gB_1, gB_i, and_true, and_false, true_and, false_and, decide_true, decide_false, ↓reduceIte, not_true_eq_false, not_false_eq_true, Bool.false_eq_true, Bool.true_eq_false, Bool.and_true, Bool.and_false, Bool.true_and, Bool.false_and, Bool.or_true, Bool.or_false, Bool.true_or, Bool.false_or, Bool.not_true, Bool.not_false, le_f, le_t, lt_f, lt_t, eq_f, ↓reduceIte, not_true_eq_false, not_false_eq_true, ite_10, bt_0, bt_1]
theorem m227 {t : mS} {p n : Nat} {f : Nat → Int32} (h : TB b L t) (hp : AtP b L t p) (hf : t.1 513 = f) (h0 : f 0 = nI n) (hn : n < 5) : SRf b L t (q227 t) (clT b L n p f) := by
  obtain ⟨pL, ps⟩ := AtP_l hp
  have e0 : t.1 513 0 = nI n := by rw [hf]; exact h0
  have k1 := m226 (tx := 1) h hp (by omega) (by omega) (by omega)
  have kk1 := keysW_k (b := b) (L := L) (tx := 1) (by omega) (by omega) (by omega) pL ps
  have m0 : (nI 0 ≤ -nI 1) = False := eq_false (by decide)
  unfold clT
  cases e1 : keysW b L 1 p with
  | inl q =>
    rw [e1] at k1
    obtain ⟨z, k1⟩ := k1
    refine ⟨tB t z q, ?_, FT_B, tB_g⟩
    unfold q227 q227_33
    simp (disch := omega) only [e0, k1, m0, nI_lit, nI_add, pk_mul, nI_clp, nI_eqv, nI_lev, nI_ltv, nI_neg, nI_neg', nI_subv, Nat.add_zero, Nat.zero_add, Nat.mul_zero, Nat.reduceAdd, bN_rv, bM_ru, bV_rv, bV_rx, bU_ru, bU_rx, bN_ite, bM_ite, bV_ite, bU_ite, ↓bx_e, ↓sp_e, gA_ok, gZ_n, gB_0, gB_1, gB_i, and_true, and_false, true_and, false_and, decide_true, decide_false, ↓reduceIte, not_true_eq_false, not_false_eq_true, Bool.false_eq_true, Bool.true_eq_false, Bool.and_true, Bool.and_false, Bool.true_and, Bool.false_and, Bool.or_true, Bool.or_false, Bool.true_or, Bool.false_or, Bool.not_true, Bool.not_false, le_f, le_t, lt_f, lt_t, eq_f, ↓reduceIte, not_true_eq_false, not_false_eq_true, ite_10, bt_0, bt_1, q198, q199, q200, q201, q202, q203, q204, m190, m205, m206, b2_0, q189, q187]
  | inr x =>
    rw [e1] at k1 kk1
    obtain ⟨z1, g1, z2, z3, k1⟩ := k1
    obtain ⟨x1, x2, x3, x4⟩ := kk1
    obtain ⟨m1, hm1, em1⟩ := bits10 x4
    have lr : (nI 0 ≤ nI m1) = True := eq_true (by rw [nI_lev (by omega) (by omega)]; omega)
    rw [em1] at k1
    have hp1 : AtP b L (tB t z1 g1) x.1 := ⟨z1, z2, tB_p, z3⟩
    have k2 := m226 (tx := 2) (tB_T (p := z1) (g := g1) h) hp1 (by omega) (by omega) (by omega)
    have kk2 := keysW_k (b := b) (L := L) (tx := 2) (by omega) (by omega) (by omega) x2 x3
    dsimp only
    cases e2 : keysW b L 2 x.1 with
    | inl q =>
      rw [e2] at k2
      obtain ⟨z, k2⟩ := k2
      rw [tB_2] at k2
      refine ⟨tB t z q, ?_, FT_B, tB_g⟩
      unfold q227 q227_33
      simp (disch := omega) only [e0, k1, lr, k2, m0, nI_lit, nI_add, pk_mul, nI_clp, nI_eqv, nI_lev, nI_ltv, nI_neg, nI_neg', nI_subv, Nat.add_zero, Nat.zero_add, Nat.mul_zero, Nat.reduceAdd, bN_rv, bM_ru, bV_rv, bV_rx, bU_ru, bU_rx, bN_ite, bM_ite, bV_ite, bU_ite, ↓bx_e, ↓sp_e, gA_ok, gZ_n, gB_0, gB_1, gB_i, and_true, and_false, true_and, false_and, decide_true, decide_false, ↓reduceIte, not_true_eq_false, not_false_eq_true, Bool.false_eq_true, Bool.true_eq_false, Bool.and_true, Bool.and_false, Bool.true_and, Bool.false_and, Bool.or_true, Bool.or_false, Bool.true_or, Bool.false_or, Bool.not_true, Bool.not_false, le_f, le_t, lt_f, lt_t, eq_f, ↓reduceIte, not_true_eq_false, not_false_eq_true, ite_10, bt_0, bt_1, q198, q199, q200, q201, q202, q203, q204, m190, m205, m206, b2_0, q189, q187]
    | inr y =>
      rw [e2] at k2 kk2
      obtain ⟨w1, g2, w2, w3, k2⟩ := k2
      rw [tB_2] at k2
      obtain ⟨y1, y2, y3, y4⟩ := kk2
      obtain ⟨m2, hm2, em2⟩ := bits10 y4
      have lw2 : (nI 0 ≤ nI m2) = True := eq_true (by rw [nI_lev (by omega) (by omega)]; omega)
      rw [em2] at k2
      have hp2 : AtP b L (tB t w1 g2) y.1 := ⟨w1, w2, tB_p, w3⟩
      have k3 := m219_P (tx := 3) (tB_T (p := w1) (g := g2) h) hp2 (by omega) (by omega) (by omega)
      rw [tB_2] at k3
      -- the client is added
      have add : ∀ u o, o ≤ 1 → u.1 513 = f → q227_71 (nI n) (nI m1) (nI m2) (nI o) u = rv (nI 1) (sI (sI (sI (sI (sI (sI u 513 (49 + 5 * n) (nI m1)) 513 (49 + 5 * n + 1) (nI m2)) 513 (49 + 5 * n + 2) (nI o)) 513 (49 + 5 * n + 3) (nI 0)) 513 (49 + 5 * n + 4) (nI 0)) 513 0 (nI (n + 1))) := fun u o ho hu => by
        have n0 : (nI 0).toNatClampNeg = 0 := nI_clp (by omega)
        have ez : ∀ o', (sI (sI (sI (sI (sI u 513 (49 + 5 * n) (nI m1)) 513 (49 + 5 * n + 1) (nI m2)) 513 (49 + 5 * n + 2) (nI o')) 513 (49 + 5 * n + 3) (nI 0)) 513 (49 + 5 * n + 4) (nI 0)).1 513 0 = nI n := fun o' => by rw [sI_sm, ud_n (by omega), sI_sm, ud_n (by omega), sI_sm, ud_n (by omega), sI_sm, ud_n (by omega), sI_sm, ud_n (by omega), hu]; exact h0
        have : o = 0 ∨ o = 1 := by omega
        unfold q227_71 q227_112
        rcases this with e | e <;> subst e
        · simp (disch := omega) only [q201, n0, ez, nI_lit, nI_add, pk_mul, nI_clp, nI_eqv, nI_lev, nI_ltv, nI_neg, nI_neg', nI_subv, Nat.add_zero, Nat.zero_add, Nat.mul_zero, Nat.reduceAdd, bN_rv, bM_ru, bV_rv, bV_rx, bU_ru, bU_rx, bN_ite, bM_ite, bV_ite, bU_ite, ↓bx_e, ↓sp_e, gA_ok, gZ_n, gB_0, gB_1, gB_i, and_true, and_false, true_and, false_and, decide_true, decide_false, ↓reduceIte, not_true_eq_false, not_false_eq_true, Bool.false_eq_true, Bool.true_eq_false, Bool.and_true, Bool.and_false, Bool.true_and, Bool.false_and, Bool.or_true, Bool.or_false, Bool.true_or, Bool.false_or, Bool.not_true, Bool.not_false, le_f, le_t, lt_f, lt_t, eq_f, ↓reduceIte, not_true_eq_false, not_false_eq_true, ite_10, bt_0, bt_1]
        · simp (disch := omega) only [q201, n0, ez, nI_lit, nI_add, pk_mul, nI_clp, nI_eqv, nI_lev, nI_ltv, nI_neg, nI_neg', nI_subv, Nat.add_zero, Nat.zero_add, Nat.mul_zero, Nat.reduceAdd, bN_rv, bM_ru, bV_rv, bV_rx, bU_ru, bU_rx, bN_ite, bM_ite, bV_ite, bU_ite, ↓bx_e, ↓sp_e, gA_ok, gZ_n, gB_0, gB_1, gB_i, and_true, and_false, true_and, false_and, decide_true, decide_false, ↓reduceIte, not_true_eq_false, not_false_eq_true, Bool.false_eq_true, Bool.true_eq_false, Bool.and_true, Bool.and_false, Bool.true_and, Bool.false_and, Bool.or_true, Bool.or_false, Bool.true_or, Bool.false_or, Bool.not_true, Bool.not_false, le_f, le_t, lt_f, lt_t, eq_f, ↓reduceIte, not_true_eq_false, not_false_eq_true, ite_10, bt_0, bt_1]
      have fin : ∀ u z o, FT t u → AtP b L u z → u.1 513 = f → o ≤ 1 → q227 t = q227_71 (nI n) (nI m1) (nI m2) (nI o) u → ∃ t', q227 t = rv (nI 1) t' ∧ FT t t' ∧ AtP b L t' z ∧ t'.1 513 = adC f n x.2 y.2 (nI o) := fun u z o hu hz hu5 ho e => by
        refine ⟨_, by rw [e, add u o ho hu5], FT_t hu (FT_t FT_I (FT_t FT_I (FT_t FT_I (FT_t FT_I (FT_t FT_I FT_I))))), ?_, ?_⟩
        · obtain ⟨q, h1, h2, h3⟩ := hz
          exact ⟨q, h1, by rw [sI_fn (by omega), sI_fn (by omega), sI_fn (by omega), sI_fn (by omega), sI_fn (by omega), sI_fn (by omega)]; exact h2, h3⟩
        · rw [sI_sm, sI_sm, sI_sm, sI_sm, sI_sm, sI_sm, hu5, em1, em2]; rfl
      dsimp only
      cases e3 : wd b L 3 y.1 with
      | false =>
        rw [e3, b2_f, if_neg (show ¬ (false = true) by decide)] at k3
        rw [if_neg (show ¬ (false = true) by decide)]
        refine fin (tB t y.1 y.1) y.1 0 FT_B (AtP_s y2 y3) (by rw [tB_n (by omega)]; exact hf) (by omega) ?_
        unfold q227 q227_33
        simp (disch := omega) only [e0, k1, lr, k2, lw2, k3, nI_lit, nI_add, pk_mul, nI_clp, nI_eqv, nI_lev, nI_ltv, nI_neg, nI_neg', nI_subv, Nat.add_zero, Nat.zero_add, Nat.mul_zero, Nat.reduceAdd, bN_rv, bM_ru, bV_rv, bV_rx, bU_ru, bU_rx, bN_ite, bM_ite, bV_ite, bU_ite, ↓bx_e, ↓sp_e, gA_ok, gZ_n, gB_0, gB_1, gB_i, and_true, and_false, true_and, false_and, decide_true, decide_false, ↓reduceIte, not_true_eq_false, not_false_eq_true, Bool.false_eq_true, Bool.true_eq_false, Bool.and_true, Bool.and_false, Bool.true_and, Bool.false_and, Bool.or_true, Bool.or_false, Bool.true_or, Bool.false_or, Bool.not_true, Bool.not_false, le_f, le_t, lt_f, lt_t, eq_f, ↓reduceIte, not_true_eq_false, not_false_eq_true, ite_10, bt_0, bt_1, q198, q199, q200, q201, q202, q203, q204, m190, m205, m206, b2_0, q189, q187]
      | true =>
        have hq := wd_p y2 e3
        rw [e3, b2_t, if_pos rfl] at k3
        rw [if_pos rfl]
        by_cases hz : y.2 = nI 0
        · rw [if_pos hz]
          have hm : m2 = 0 := by rw [em2, nI_eqv (by omega) (by omega)] at hz; exact hz
          refine fin (tB t (y.1 + tln 3) y.1) _ 1 FT_B (AtP_B hq.1) (by rw [tB_n (by omega)]; exact hf) (by omega) ?_
          subst hm
          unfold q227 q227_33
          simp (disch := omega) only [e0, k1, lr, k2, lw2, k3, nI_lit, nI_add, pk_mul, nI_clp, nI_eqv, nI_lev, nI_ltv, nI_neg, nI_neg', nI_subv, Nat.add_zero, Nat.zero_add, Nat.mul_zero, Nat.reduceAdd, bN_rv, bM_ru, bV_rv, bV_rx, bU_ru, bU_rx, bN_ite, bM_ite, bV_ite, bU_ite, ↓bx_e, ↓sp_e, gA_ok, gZ_n, gB_0, gB_1, gB_i, and_true, and_false, true_and, false_and, decide_true, decide_false, ↓reduceIte, not_true_eq_false, not_false_eq_true, Bool.false_eq_true, Bool.true_eq_false, Bool.and_true, Bool.and_false, Bool.true_and, Bool.false_and, Bool.or_true, Bool.or_false, Bool.true_or, Bool.false_or, Bool.not_true, Bool.not_false, le_f, le_t, lt_f, lt_t, eq_f, ↓reduceIte, not_true_eq_false, not_false_eq_true, ite_10, bt_0, bt_1, q198, q199, q200, q201, q202, q203, q204, m190, m205, m206, b2_0, q189, q187]
        · rw [if_neg hz]
          have hm : m2 ≠ 0 := fun q => hz (by rw [em2, q])
          have k17 := m217 (tB_T (p := y.1) (g := y.1) h) tB_p y2
          rw [y3, tB_2] at k17
          refine ⟨tB t (lw b L y.1) y.1, ?_, FT_B, tB_g⟩
          unfold q227 q227_33
          simp (disch := omega) only [e0, k1, lr, k2, lw2, k3, tB_g, tB_M, k17, hm, nI_lit, nI_add, pk_mul, nI_clp, nI_eqv, nI_lev, nI_ltv, nI_neg, nI_neg', nI_subv, Nat.add_zero, Nat.zero_add, Nat.mul_zero, Nat.reduceAdd, bN_rv, bM_ru, bV_rv, bV_rx, bU_ru, bU_rx, bN_ite, bM_ite, bV_ite, bU_ite, ↓bx_e, ↓sp_e, gA_ok, gZ_n, gB_0, gB_1, gB_i, and_true, and_false, true_and, false_and, decide_true, decide_false, ↓reduceIte, not_true_eq_false, not_false_eq_true, Bool.false_eq_true, Bool.true_eq_false, Bool.and_true, Bool.and_false, Bool.true_and, Bool.false_and, Bool.or_true, Bool.or_false, Bool.true_or, Bool.false_or, Bool.not_true, Bool.not_false, le_f, le_t, lt_f, lt_t, eq_f, ↓reduceIte, not_true_eq_false, not_false_eq_true, ite_10, bt_0, bt_1, q198, q199, q200, q201, q202, q203, q204, m190, m205, m206, b2_0, q189, q187]
theorem m229 {t : mS} {p T B : Nat} {f : Nat → Int32} (h : TB b L t) (hp : t.1 512 10 = nI (lw b L p)) (hg : t.1 512 12 = nI p) (hpL : p ≤ L) (hf : t.1 513 = f) (hI : IB T B f) : SRf b L t (q229 t) (stL b L p f) := by
  obtain ⟨n, hn, h0, -⟩ := hI.1.1.2.1
  obtain ⟨l1, l2, -, -⟩ := lw_p (b := b) hpL
  have k0 := m218 (tx := 0) h hp hg hpL (by omega) (by omega) (by omega)
  have k4 := m218 (tx := 4) h hp hg hpL (by omega) (by omega) (by omega)
  have k5 := m218 (tx := 5) h hp hg hpL (by omega) (by omega) (by omega)
  have k6 := m218 (tx := 6) h hp hg hpL (by omega) (by omega) (by omega)
  have hA : ∀ tx, wd b L tx p = true → AtP b L t (sk b L (p + tln tx)) := fun tx e => ⟨lw b L p, l2, hp, by rw [wd_l e]⟩
  have ref : ∀ {q q' : Option mQ} {r : SR}, SRf b L t q' r → (∀ x s', q' = rv x s' → x = nI 0 ∨ x = nI 1 → q = rv x s') → SRf b L t q r := fun {q q' r} hS hq => by
    cases r with
    | inl f =>
      obtain ⟨s', a1, a2⟩ := hS
      exact ⟨s', hq _ s' a1 (Or.inl rfl), a2⟩
    | inr y =>
      obtain ⟨s', a1, a2⟩ := hS
      exact ⟨s', hq _ s' a1 (Or.inr rfl), a2⟩
  unfold stL q229
  cases e0 : wd b L 0 p with
  | true =>
    rw [e0, b2_t] at k0
    rw [if_pos rfl, k0, bN_rv, if_neg (show ¬ nI 1 = 0 by decide)]
    by_cases e5 : n = 5
    · rw [if_pos (by rw [h0, e5])]
      have e05 : t.1 513 0 = nI 5 := by rw [hf, h0, e5]
      refine ⟨t, ?_, FT_r, hg⟩
      unfold q227
      simp (disch := omega) only [e05, nI_lit, nI_add, pk_mul, nI_clp, nI_eqv, nI_lev, nI_ltv, nI_neg, nI_neg', nI_subv, Nat.add_zero, Nat.zero_add, Nat.mul_zero, Nat.reduceAdd, bN_rv, bM_ru, bV_rv, bV_rx, bU_ru, bU_rx, bN_ite, bM_ite, bV_ite, bU_ite, ↓bx_e, ↓sp_e, gA_ok, gZ_n, gB_0, gB_1, gB_i, and_true, and_false, true_and, false_and, decide_true, decide_false, ↓reduceIte, not_true_eq_false, not_false_eq_true, Bool.false_eq_true, Bool.true_eq_false, Bool.and_true, Bool.and_false, Bool.true_and, Bool.false_and, Bool.or_true, Bool.or_false, Bool.true_or, Bool.false_or, Bool.not_true, Bool.not_false, le_f, le_t, lt_f, lt_t, eq_f, ↓reduceIte, not_true_eq_false, not_false_eq_true, ite_10, bt_0, bt_1, q198, q199, q200, q201, q202, q203, q204, m190, m205, m206, b2_0, q189, q187]
    · rw [if_neg (by rw [h0, nI_eqv (by omega) (by omega)]; exact e5), cN_e h0 hn]
      refine ref (m227 h (hA 0 e0) hf h0 (by omega)) (fun x s' e hx => ?_)
      rw [e, bN_rv]
      rcases hx with q | q <;> subst q
      · exact gB_0
      · exact gB_1
  | false =>
  rw [e0, b2_f] at k0
  rw [if_neg (show ¬ (false = true) by decide), k0, bN_rv, if_pos (show nI 0 = 0 from rfl)]
  cases e4 : wd b L 4 p with
  | true =>
    rw [e4, b2_t] at k4
    rw [if_pos rfl, k4, bN_rv, if_neg (show ¬ nI 1 = 0 by decide)]
    refine ref (m228 h (hA 4 e4) hf hI) (fun x s' e hx => ?_)
    rw [e, bN_rv]
    rcases hx with q | q <;> subst q
    · exact gB_0
    · exact gB_1
  | false =>
  rw [e4, b2_f] at k4
  rw [if_neg (show ¬ (false = true) by decide), k4, bN_rv, if_pos (show nI 0 = 0 from rfl)]
  cases e5 : wd b L 5 p with
  | true =>
    rw [e5, b2_t] at k5
    rw [if_pos rfl, k5, bN_rv, if_neg (show ¬ nI 1 = 0 by decide)]
    simp only [nI_lit]
    refine ref (m225 (hi := 6) (at_ := 4) h (hA 5 e5) hf (by omega) (by omega)) (fun x s' e hx => ?_)
    rw [e, bN_rv]
    rcases hx with q | q <;> subst q
    · exact gB_0
    · exact gB_1
  | false =>
  rw [e5, b2_f] at k5
  rw [if_neg (show ¬ (false = true) by decide), k5, bN_rv, if_pos (show nI 0 = 0 from rfl)]
  cases e6 : wd b L 6 p with
  | true =>
    rw [e6, b2_t] at k6
    rw [if_pos rfl, k6, bN_rv, if_neg (show ¬ nI 1 = 0 by decide)]
    simp only [nI_lit]
    refine ref (m225 (hi := 999) (at_ := 5) h (hA 6 e6) hf (by omega) (by omega)) (fun x s' e hx => ?_)
    rw [e, bN_rv]
    rcases hx with q | q <;> subst q
    · rw [if_pos rfl]
    · rw [if_neg (by decide)]
  | false =>
    rw [e6, b2_f] at k6
    rw [if_neg (show ¬ (false = true) by decide), k6, bN_rv, if_pos (show nI 0 = 0 from rfl)]
    exact ⟨t, rfl, FT_r, hg⟩
end ST5
