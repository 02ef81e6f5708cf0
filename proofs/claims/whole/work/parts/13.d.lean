/-! THE LAW'S TEXT: the reference reads it -/
def FD (t t' : mS) : Prop := (∀ c, c ≠ 512 → c ≠ 513 → t'.1 c = t.1 c) ∧ (∀ j, j ≠ 10 → j ≠ 12 → j ≠ 13 → j ≠ 16 → t'.1 512 j = t.1 512 j) ∧ (∀ j, j < 1668 → t'.1 513 j = t.1 513 j) ∧ t'.2 = t.2
theorem FD_r {t : mS} : FD t t := ⟨fun _ _ _ => rfl, fun _ _ _ _ _ => rfl, fun _ _ => rfl, rfl⟩
theorem FD_t {t t' t'' : mS} (h : FD t t') (h2 : FD t' t'') : FD t t'' := ⟨fun c x y => (h2.1 c x y).trans (h.1 c x y), fun j a b c d => (h2.2.1 j a b c d).trans (h.2.1 j a b c d), fun j x => (h2.2.2.1 j x).trans (h.2.2.1 j x), h2.2.2.2.trans h.2.2.2⟩
def DL (t : mS) : Nat → List (Nat × Nat) → Prop
  | _, [] => True
  | c, x :: l => t.1 513 (1668 + 2 * c) = nI x.1 ∧ t.1 513 (1668 + 2 * c + 1) = nI x.2 ∧ DL t (c + 1) l
theorem DL_c {t t' : mS} : ∀ {l : List (Nat × Nat)} {c : Nat}, DL t c l → (∀ j, j < 1668 + 2 * (c + l.length) → t'.1 513 j = t.1 513 j) → DL t' c l := by
  intro l
  induction l with
  | nil => intro c _ _; trivial
  | cons x l ih =>
    intro c h hc
    rw [List.length_cons] at hc
    exact ⟨by rw [hc _ (by omega)]; exact h.1, by rw [hc _ (by omega)]; exact h.2.1, ih h.2.2 (fun j hj => hc j (by omega))⟩
theorem DL_a {t : mS} : ∀ {l : List (Nat × Nat)} {c : Nat} {r : List (Nat × Nat)}, DL t c l → DL t (c + l.length) r → DL t c (l ++ r) := by
  intro l
  induction l with
  | nil => intro c r _ h; exact h
  | cons x l ih =>
    intro c r h hr
    rw [List.length_cons] at hr
    exact ⟨h.1, h.2.1, ih h.2.2 (by rw [show c + 1 + l.length = c + (l.length + 1) by omega]; exact hr)⟩
section RL
variable {b : Nat → Nat} {L : Nat}
def AtP (b : Nat → Nat) (L : Nat) (t : mS) (p : Nat) : Prop := ∃ q, q ≤ L ∧ t.1 512 10 = nI q ∧ sk b L q = p
def SS (b : Nat → Nat) (L : Nat) (t t' : mS) (c : Nat) (l : List (Nat × Nat)) (p' : Nat) : Prop := FD t t' ∧ AtP b L t' p' ∧ t'.1 512 13 = t.1 512 13 ∧ t'.1 512 16 = nI (c + l.length) ∧ DL t' c l ∧ ∀ j, j < 1668 + 2 * c → t'.1 513 j = t.1 513 j
def SF (t t' : mS) (f : Nat) : Prop := FD t t' ∧ t'.1 512 12 = nI f
def RQ (b : Nat → Nat) (L : Nat) (t : mS) (c : Nat) (q : Option mQ) (r : LR) : Prop := match r with
  | .inl f => ∃ t', q = rv (nI 0) t' ∧ SF t t' f
  | .inr (p', l) => ∃ t', q = rv (nI 1) t' ∧ SS b L t t' c l p'
def IN (b : Nat → Nat) (L : Nat) (t : mS) (p c : Nat) : Prop := TB b L t ∧ AtP b L t p ∧ t.1 512 16 = nI c ∧ c < p
theorem TB_D {t t' : mS} (h : TB b L t) (hf : FD t t') : TB b L t' := ⟨h.1, h.2.1, by rw [hf.2.1 11 (by omega) (by omega) (by omega) (by omega)]; exact h.2.2.1, fun i hi => by rw [hf.1 518 (by omega) (by omega)]; exact h.2.2.2 i hi⟩
theorem AtP_l {t : mS} {p : Nat} (h : AtP b L t p) : p ≤ L ∧ sk b L p = p := by
  obtain ⟨q, h1, h2, h3⟩ := h
  obtain ⟨s1, s2, s3, s4⟩ := sk_p (b := b) h1
  rw [h3] at s2 s4
  exact ⟨s2, s4⟩
theorem SS_t {t t1 t2 : mS} {c p1 p2 : Nat} {l1 l2 : List (Nat × Nat)} (h : SS b L t t1 c l1 p1) (h2 : SS b L t1 t2 (c + l1.length) l2 p2) : SS b L t t2 c (l1 ++ l2) p2 := by
  obtain ⟨a1, a2, a3, a4, a5, a6⟩ := h
  obtain ⟨d1, d2, d3, d4, d5, d6⟩ := h2
  exact ⟨FD_t a1 d1, d2, d3.trans a3, by rw [d4, List.length_append, Nat.add_assoc], DL_a (DL_c a5 (fun j hj => d6 j (by omega))) d5, fun j hj => by rw [d6 j (by omega), a6 j hj]⟩
theorem SS_in {t t1 : mS} {c p1 : Nat} {l1 : List (Nat × Nat)} (h : SS b L t t1 c l1 p1) (ht : TB b L t) (hc : c + l1.length < p1) : IN b L t1 p1 (c + l1.length) := ⟨TB_D ht h.1, h.2.1, h.2.2.2.1, hc⟩
theorem FD_B {t : mS} {q g : Nat} : FD t (tB t q g) := ⟨fun c x _ => tB_n x, fun j x y _ _ => tB_j ⟨x, y⟩, fun j _ => by rw [tB_n (by omega)], tB_x⟩
theorem SS_B {t : mS} {q g c : Nat} (hq : q ≤ L) (h16 : t.1 512 16 = nI c) : SS b L t (tB t q g) c [] (sk b L q) := ⟨FD_B, ⟨q, hq, tB_p, rfl⟩, tB_j (by omega), by rw [tB_j (by omega)]; exact h16, trivial, fun j _ => by rw [tB_n (by omega)]⟩
theorem SF_t {t t1 t2 : mS} {f : Nat} (h : FD t t1) (h2 : SF t1 t2 f) : SF t t2 f := ⟨FD_t h h2.1, h2.2⟩
def emX (t : mS) (c : Nat) (x y : Int32) : mS := sI (sI (sI t 513 (1668 + 2 * c) x) 513 (1668 + 2 * c + 1) y) 512 16 (nI (c + 1))
theorem m230 {t : mS} {c : Nat} {x y : Int32} (h : t.1 512 16 = nI c) (hc : c < 400) : q230 x y t = ru (emX t c x y) := by
  have e1 : (sI t 513 (1668 + 2 * c) x).1 512 16 = nI c := by rw [sI_fn (by omega)]; exact h
  have e2 : (sI (sI t 513 (1668 + 2 * c) x) 513 (1668 + 2 * c + 1) y).1 512 16 = nI c := by rw [sI_fn (by omega)]; exact e1
  unfold q230 emX
  simp (disch := omega) only [h, e1, e2, nI_lit, nI_add, pk_mul, nI_clp, nI_eqv, nI_lev, nI_ltv, nI_neg, nI_neg', nI_subv, Nat.add_zero, Nat.zero_add, Nat.mul_zero, Nat.reduceAdd, bN_rv, bM_ru, bV_rv, bV_rx, bU_ru, bU_rx, bN_ite, bM_ite, bV_ite, bU_ite, ↓bx_e, ↓sp_e, gA_ok, gZ_n, gB_0, gB_1, gB_i, and_true, and_false, true_and, false_and, decide_true, decide_false, ↓reduceIte, not_true_eq_false, not_false_eq_true, Bool.false_eq_true, Bool.true_eq_false, Bool.and_true, Bool.and_false, Bool.true_and, Bool.false_and, Bool.or_true, Bool.or_false, Bool.true_or, Bool.false_or, Bool.not_true, Bool.not_false, le_f, le_t, lt_f, lt_t, eq_f, ↓reduceIte, not_true_eq_false, not_false_eq_true, ite_10, bt_0, bt_1]
theorem em_FD {t : mS} {c : Nat} {x y : Int32} : FD t (emX t c x y) := by
  unfold emX
  exact ⟨fun d x y => by rw [sI_fn x, sI_fn y, sI_fn y], fun j _ _ _ w => by rw [sI_sm, ud_n w, sI_fn (by omega), sI_fn (by omega)], fun j hj => by rw [sI_fn (by omega), sI_sm, ud_n (by omega), sI_sm, ud_n (by omega)], Eq.trans rfl rfl⟩
theorem em_j {t : mS} {c j : Nat} {x y : Int32} (h : j ≠ 16) : (emX t c x y).1 512 j = t.1 512 j := by
  unfold emX
  rw [sI_sm, ud_n h, sI_fn (by omega), sI_fn (by omega)]
theorem em_SS {t : mS} {c p o v : Nat} (hp : AtP b L t p) : SS b L t (emX t c (nI o) (nI v)) c [(o, v)] p := by
  obtain ⟨q, h1, h2, h3⟩ := hp
  refine ⟨em_FD, ⟨q, h1, by rw [em_j (by omega)]; exact h2, h3⟩, em_j (by omega), ?_, ⟨?_, ?_, trivial⟩, fun j hj => ?_⟩
  · unfold emX; rw [sI_sm, ud_e rfl]; rfl
  · unfold emX; rw [sI_fn (by omega), sI_sm, ud_n (by omega), sI_sm, ud_e rfl]
  · unfold emX; rw [sI_fn (by omega), sI_sm, ud_e rfl]
  · unfold emX; rw [sI_fn (by omega), sI_sm, ud_n (by omega), sI_sm, ud_n (by omega)]
theorem m231 {t : mS} {p : Nat} (h : TB b L t) (hp : t.1 512 10 = nI (lw b L p)) (hg : t.1 512 12 = nI p) (hpL : p ≤ L) : q231 t = rv (oI (factS b L p)) t := by
  have k16 := m218 (tx := 16) h hp hg hpL (by omega) (by omega) (by omega)
  have k0 := m218 (tx := 0) h hp hg hpL (by omega) (by omega) (by omega)
  have k17 := m218 (tx := 17) h hp hg hpL (by omega) (by omega) (by omega)
  have k1 := m218 (tx := 1) h hp hg hpL (by omega) (by omega) (by omega)
  have k2 := m218 (tx := 2) h hp hg hpL (by omega) (by omega) (by omega)
  have k18 := m218 (tx := 18) h hp hg hpL (by omega) (by omega) (by omega)
  have k19 := m218 (tx := 19) h hp hg hpL (by omega) (by omega) (by omega)
  unfold q231 factS
  rw [k16, bN_rv]
  cases wd b L 16 p with
  | true => rw [b2_t, if_neg (show ¬ nI 1 = 0 by decide), if_pos rfl]; rfl
  | false =>
  rw [b2_f, if_pos (show nI 0 = 0 from rfl), if_neg (show ¬ (false = true) by decide), k0, bN_rv]
  cases wd b L 0 p with
  | true => rw [b2_t, if_neg (show ¬ nI 1 = 0 by decide), if_pos rfl]; rfl
  | false =>
  rw [b2_f, if_pos (show nI 0 = 0 from rfl), if_neg (show ¬ (false = true) by decide), k17, bN_rv]
  cases wd b L 17 p with
  | true => rw [b2_t, if_neg (show ¬ nI 1 = 0 by decide), if_pos rfl]; rfl
  | false =>
  rw [b2_f, if_pos (show nI 0 = 0 from rfl), if_neg (show ¬ (false = true) by decide), k1, bN_rv]
  cases wd b L 1 p with
  | true => rw [b2_t, if_neg (show ¬ nI 1 = 0 by decide), if_pos rfl]; rfl
  | false =>
  rw [b2_f, if_pos (show nI 0 = 0 from rfl), if_neg (show ¬ (false = true) by decide), k2, bN_rv]
  cases wd b L 2 p with
  | true => rw [b2_t, if_neg (show ¬ nI 1 = 0 by decide), if_pos rfl]; rfl
  | false =>
  rw [b2_f, if_pos (show nI 0 = 0 from rfl), if_neg (show ¬ (false = true) by decide), k18, bN_rv]
  cases wd b L 18 p with
  | true => rw [b2_t, if_neg (show ¬ nI 1 = 0 by decide), if_pos rfl]; rfl
  | false =>
  rw [b2_f, if_pos (show nI 0 = 0 from rfl), if_neg (show ¬ (false = true) by decide), k19, bN_rv]
  cases wd b L 19 p with
  | true => rw [b2_t, if_neg (show ¬ nI 1 = 0 by decide), if_pos rfl]; rfl
  | false =>
  rw [b2_f, if_pos (show nI 0 = 0 from rfl), if_neg (show ¬ (false = true) by decide)]; rfl
theorem neg1_lt : (-nI 1 < nI 0) = True := eq_true (by decide)
theorem m232 {t : mS} {p c : Nat} (h : IN b L t p c) : RQ b L t c (q232 t) (partS b L p) := by
  obtain ⟨h1, h2, h3, h4⟩ := h
  obtain ⟨pL, ps⟩ := AtP_l h2
  obtain ⟨q, q1, q2, q3⟩ := h2
  have hL := h1.1
  obtain ⟨l1, l2, l3, l4⟩ := lw_p (b := b) pL
  have k := m217 h1 q2 q1
  rw [q3] at k
  have hB := tB_T (p := lw b L p) (g := p) h1
  have e16 : (tB t (lw b L p) p).1 512 16 = nI c := by rw [tB_j (by omega)]; exact h3
  unfold partS
  by_cases e : lw b L p = p
  · rw [if_pos e]
    obtain ⟨d1, d2, -, -⟩ := dg_p (b := b) pL
    have k2 := m221 (p := p) (hi := 999) hB (by rw [tB_p, e]) pL (by omega)
    rw [ps, tB_2] at k2
    have e16' : (tB t (dg b L p) p).1 512 16 = nI c := by rw [tB_j (by omega)]; exact h3
    cases en : nm b L 999 p with
    | none =>
      rw [en, show oI none = -nI 1 from rfl] at k2
      have k3 := m230 (x := nI 10) (y := -nI 1) e16' (by omega)
      refine ⟨emX (tB t (dg b L p) p) c (nI 10) (-nI 1), ?_, FD_t FD_B em_FD, by rw [em_j (by omega), tB_g]⟩
      unfold q232 q232_20 q232_40 q232_52 q232_61
      simp (disch := omega) only [k, tB_p, tB_g, e, k2, k3, neg1_lt, nI_lit, nI_add, pk_mul, nI_clp, nI_eqv, nI_lev, nI_ltv, nI_neg, nI_neg', nI_subv, Nat.add_zero, Nat.zero_add, Nat.mul_zero, Nat.reduceAdd, bN_rv, bM_ru, bV_rv, bV_rx, bU_ru, bU_rx, bN_ite, bM_ite, bV_ite, bU_ite, ↓bx_e, ↓sp_e, gA_ok, gZ_n, gB_0, gB_1, gB_i, and_true, and_false, true_and, false_and, decide_true, decide_false, ↓reduceIte, not_true_eq_false, not_false_eq_true, Bool.false_eq_true, Bool.true_eq_false, Bool.and_true, Bool.and_false, Bool.true_and, Bool.false_and, Bool.or_true, Bool.or_false, Bool.true_or, Bool.false_or, Bool.not_true, Bool.not_false, le_f, le_t, lt_f, lt_t, eq_f, ↓reduceIte, not_true_eq_false, not_false_eq_true, ite_10, bt_0, bt_1]
      simp (disch := omega) only [e] at k2 ⊢
      simp (disch := omega) only [k2, k3, neg1_lt, nI_lit, nI_add, pk_mul, nI_clp, nI_eqv, nI_lev, nI_ltv, nI_neg, nI_neg', nI_subv, Nat.add_zero, Nat.zero_add, Nat.mul_zero, Nat.reduceAdd, bN_rv, bM_ru, bV_rv, bV_rx, bU_ru, bU_rx, bN_ite, bM_ite, bV_ite, bU_ite, ↓bx_e, ↓sp_e, gA_ok, gZ_n, gB_0, gB_1, gB_i, and_true, and_false, true_and, false_and, decide_true, decide_false, ↓reduceIte, not_true_eq_false, not_false_eq_true, Bool.false_eq_true, Bool.true_eq_false, Bool.and_true, Bool.and_false, Bool.true_and, Bool.false_and, Bool.or_true, Bool.or_false, Bool.true_or, Bool.false_or, Bool.not_true, Bool.not_false, le_f, le_t, lt_f, lt_t, eq_f, ↓reduceIte, not_true_eq_false, not_false_eq_true, ite_10, bt_0, bt_1]
    | some v =>
      have hv := nm_p en
      rw [en, show oI (some v) = nI v from rfl] at k2
      have k3 := m230 (x := nI 10) (y := nI v) e16' (by omega)
      have l0 : (nI v < nI 0) = False := lt0 (by omega)
      refine ⟨emX (tB t (dg b L p) p) c (nI 10) (nI v), ?_, SS_t (l1 := []) (SS_B d2 h3) (em_SS ⟨_, d2, tB_p, rfl⟩)⟩
      unfold q232 q232_20 q232_40 q232_52 q232_61
      simp (disch := omega) only [e] at k k2
      simp (disch := omega) only [k, tB_p, tB_g, k2, k3, l0, nI_lit, nI_add, pk_mul, nI_clp, nI_eqv, nI_lev, nI_ltv, nI_neg, nI_neg', nI_subv, Nat.add_zero, Nat.zero_add, Nat.mul_zero, Nat.reduceAdd, bN_rv, bM_ru, bV_rv, bV_rx, bU_ru, bU_rx, bN_ite, bM_ite, bV_ite, bU_ite, ↓bx_e, ↓sp_e, gA_ok, gZ_n, gB_0, gB_1, gB_i, and_true, and_false, true_and, false_and, decide_true, decide_false, ↓reduceIte, not_true_eq_false, not_false_eq_true, Bool.false_eq_true, Bool.true_eq_false, Bool.and_true, Bool.and_false, Bool.true_and, Bool.false_and, Bool.or_true, Bool.or_false, Bool.true_or, Bool.false_or, Bool.not_true, Bool.not_false, le_f, le_t, lt_f, lt_t, eq_f, ↓reduceIte, not_true_eq_false, not_false_eq_true, ite_10, bt_0, bt_1]
  · rw [if_neg e]
    have k2 := m231 hB tB_p tB_g pL
    cases en : factS b L p with
    | none =>
      rw [en, show oI none = -nI 1 from rfl] at k2
      have k3 := m230 (x := -nI 1) (y := nI 0) e16 (by omega)
      refine ⟨emX (tB t (lw b L p) p) c (-nI 1) (nI 0), ?_, FD_t FD_B em_FD, by rw [em_j (by omega), tB_g]⟩
      unfold q232 q232_20 q232_40 q232_52 q232_61
      simp (disch := omega) only [k, tB_p, tB_g, k2, k3, neg1_lt, nI_lit, nI_add, pk_mul, nI_clp, nI_eqv, nI_lev, nI_ltv, nI_neg, nI_neg', nI_subv, Nat.add_zero, Nat.zero_add, Nat.mul_zero, Nat.reduceAdd, bN_rv, bM_ru, bV_rv, bV_rx, bU_ru, bU_rx, bN_ite, bM_ite, bV_ite, bU_ite, ↓bx_e, ↓sp_e, gA_ok, gZ_n, gB_0, gB_1, gB_i, and_true, and_false, true_and, false_and, decide_true, decide_false, ↓reduceIte, not_true_eq_false, not_false_eq_true, Bool.false_eq_true, Bool.true_eq_false, Bool.and_true, Bool.and_false, Bool.true_and, Bool.false_and, Bool.or_true, Bool.or_false, Bool.true_or, Bool.false_or, Bool.not_true, Bool.not_false, le_f, le_t, lt_f, lt_t, eq_f, ↓reduceIte, not_true_eq_false, not_false_eq_true, ite_10, bt_0, bt_1]
    | some v =>
      have hv := fact_l pL en
      rw [en, show oI (some v) = nI v from rfl] at k2
      have k3 := m230 (x := nI v) (y := nI 0) e16 (by omega)
      have l0 : (nI v < nI 0) = False := lt0 (by omega)
      refine ⟨emX (tB t (lw b L p) p) c (nI v) (nI 0), ?_, SS_t (l1 := []) (SS_B l2 h3) (em_SS ⟨_, l2, tB_p, rfl⟩)⟩
      unfold q232 q232_20 q232_40 q232_52 q232_61
      simp (disch := omega) only [k, tB_p, tB_g, k2, k3, l0, nI_lit, nI_add, pk_mul, nI_clp, nI_eqv, nI_lev, nI_ltv, nI_neg, nI_neg', nI_subv, Nat.add_zero, Nat.zero_add, Nat.mul_zero, Nat.reduceAdd, bN_rv, bM_ru, bV_rv, bV_rx, bU_ru, bU_rx, bN_ite, bM_ite, bV_ite, bU_ite, ↓bx_e, ↓sp_e, gA_ok, gZ_n, gB_0, gB_1, gB_i, and_true, and_false, true_and, false_and, decide_true, decide_false, ↓reduceIte, not_true_eq_false, not_false_eq_true, Bool.false_eq_true, Bool.true_eq_false, Bool.and_true, Bool.and_false, Bool.true_and, Bool.false_and, Bool.or_true, Bool.or_false, Bool.true_or, Bool.false_or, Bool.not_true, Bool.not_false, le_f, le_t, lt_f, lt_t, eq_f, ↓reduceIte, not_true_eq_false, not_false_eq_true, ite_10, bt_0, bt_1]
end RL
