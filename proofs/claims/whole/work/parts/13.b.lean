/-! TEXTS: the reference's tape -/
section RT
variable {b : Nat → Nat} {L : Nat}
def TB (b : Nat → Nat) (L : Nat) (t : mS) : Prop := L ≤ 400 ∧ (∀ i, i < L → b i < 256) ∧ t.1 512 11 = nI L ∧ ∀ i, i < L → t.1 518 i = sx (b i)
def tM (t : mS) (p : Nat) : mS := sI t 512 10 (nI p)
def tB (t : mS) (p g : Nat) : mS := sI (sI t 512 10 (nI p)) 512 12 (nI g)
theorem sI_cm {s : mS} {a k j : Nat} {x y : Int32} (h : k ≠ j) : sI (sI s a k x) a j y = sI (sI s a j y) a k x := by
  have : (sI (sI s a k x) a j y).1 = (sI (sI s a j y) a k x).1 := by
    funext c
    by_cases e : c = a
    · subst e
      rw [sI_sm, sI_sm, sI_sm, sI_sm]
      funext i
      by_cases e1 : i = j
      · subst e1; rw [ud_e rfl, ud_n (fun q => h q.symm), ud_e rfl]
      · rw [ud_n e1]
        by_cases e2 : i = k
        · subst e2; rw [ud_e rfl, ud_e rfl]
        · rw [ud_n e2, ud_n e2, ud_n e1]
    · rw [sI_fn e, sI_fn e, sI_fn e, sI_fn e]
  exact Prod.ext this rfl
theorem tB_2 {t : mS} {p g p' g' : Nat} : tB (tB t p g) p' g' = tB t p' g' := by
  unfold tB
  rw [sI_cm (k := 12) (j := 10) (by omega), sI_2x, sI_2x]
theorem tB_M {t : mS} {p g q : Nat} : sI (tB t p g) 512 10 (nI q) = tB t q g := by
  unfold tB
  rw [sI_cm (k := 12) (j := 10) (by omega), sI_2x]
theorem tB_p {t : mS} {p g : Nat} : (tB t p g).1 512 10 = nI p := by unfold tB; rw [sI_sm, ud_n (by omega), sI_sm, ud_e rfl]
theorem tB_g {t : mS} {p g : Nat} : (tB t p g).1 512 12 = nI g := by unfold tB; rw [sI_sm, ud_e rfl]
theorem tB_n {t : mS} {p g c : Nat} (h : c ≠ 512) : (tB t p g).1 c = t.1 c := by unfold tB; rw [sI_fn h, sI_fn h]
theorem tB_j {t : mS} {p g j : Nat} (h : j ≠ 10 ∧ j ≠ 12) : (tB t p g).1 512 j = t.1 512 j := by unfold tB; rw [sI_sm, ud_n h.2, sI_sm, ud_n h.1]
theorem tB_x {t : mS} {p g : Nat} : (tB t p g).2 = t.2 := Eq.trans rfl rfl
theorem tB_T {t : mS} {p g : Nat} (h : TB b L t) : TB b L (tB t p g) := ⟨h.1, h.2.1, by rw [tB_j (by omega)]; exact h.2.2.1, fun i hi => by rw [tB_n (by omega)]; exact h.2.2.2 i hi⟩
theorem tM_T {t : mS} {p : Nat} (h : TB b L t) : TB b L (tM t p) := ⟨h.1, h.2.1, by unfold tM; rw [sI_sm, ud_n (by omega)]; exact h.2.2.1, fun i hi => by unfold tM; rw [sI_fn (by omega)]; exact h.2.2.2 i hi⟩
theorem tM_p {t : mS} {p : Nat} : (tM t p).1 512 10 = nI p := by unfold tM; rw [sI_sm, ud_e rfl]
theorem sx_lt {x lo : Nat} (hx : x < 256) (hlo : lo < 128) : (sx x < nI lo) = (128 ≤ x ∨ x < lo) := by
  by_cases h : x < 128
  · rw [sx_lo h, nI_ltv (by omega) (by omega)]
    exact propext ⟨fun q => Or.inr q, fun q => by omega⟩
  · have h1 := sx_neg x hx (by omega)
    have h2 : nI 0 ≤ nI lo := by rw [nI_lev (by omega) (by omega)]; omega
    exact propext ⟨fun _ => Or.inl (by omega), fun _ => Int32.lt_of_lt_of_le h1 h2⟩
theorem lt_sx {x hi : Nat} (hx : x < 128) (hhi : hi < 128) : (nI hi < sx x) = (hi < x) := by rw [sx_lo hx, nI_ltv (by omega) (by omega)]
theorem m215 {t : mS} {p lo hi : Nat} (h : TB b L t) (hp : t.1 512 10 = nI p) (hpL : p ≤ L) (hlo : lo < 128) (hhi : hi < 128) : q215 (nI lo) (nI hi) t = rv (b2 (isB b L lo hi p)) t := by
  obtain ⟨h1, h2, h3, h4⟩ := h
  unfold q215
  by_cases c : p < L
  · have e := h4 p c
    have e2 := h2 p c
    have l1 := sx_lt e2 hlo
    unfold isB
    rw [decide_eq_true c, Bool.true_and]
    by_cases c1 : 128 ≤ b p ∨ b p < lo
    · have l1 : (sx (b p) < nI lo) = True := by rw [l1]; exact eq_true c1
      have : (decide (lo ≤ b p) && decide (b p ≤ hi)) = false := by
        rcases c1 with q | q
        · rw [decide_eq_false (show ¬ b p ≤ hi by omega), Bool.and_false]
        · rw [decide_eq_false (show ¬ lo ≤ b p by omega), Bool.false_and]
      rw [this, b2_f]
      simp (disch := omega) only [hp, h3, e, l1, nI_lit, nI_add, pk_mul, nI_clp, nI_eqv, nI_lev, nI_ltv, nI_neg, nI_neg', nI_subv, Nat.add_zero, Nat.zero_add, Nat.mul_zero, Nat.reduceAdd, bN_rv, bM_ru, bV_rv, bV_rx, bU_ru, bU_rx, bN_ite, bM_ite, bV_ite, bU_ite, ↓bx_e, ↓sp_e, gA_ok, gZ_n, gB_0, gB_1, gB_i, and_true, and_false, true_and, false_and, decide_true, decide_false, ↓reduceIte, not_true_eq_false, not_false_eq_true, Bool.false_eq_true, Bool.true_eq_false, Bool.and_true, Bool.and_false, Bool.true_and, Bool.false_and, Bool.or_true, Bool.or_false, Bool.true_or, Bool.false_or, Bool.not_true, Bool.not_false, le_f, le_t, lt_f, lt_t, eq_f, ↓reduceIte, not_true_eq_false, not_false_eq_true, ite_10, bt_0, bt_1]
    · have l1 : (sx (b p) < nI lo) = False := by rw [l1]; exact eq_false c1
      have l2 := lt_sx (x := b p) (hi := hi) (by omega) hhi
      rw [decide_eq_true (show lo ≤ b p by omega), Bool.true_and]
      by_cases c2 : b p ≤ hi
      · rw [decide_eq_true c2, b2_t]
        simp (disch := omega) only [hp, h3, e, l1, l2, nI_lit, nI_add, pk_mul, nI_clp, nI_eqv, nI_lev, nI_ltv, nI_neg, nI_neg', nI_subv, Nat.add_zero, Nat.zero_add, Nat.mul_zero, Nat.reduceAdd, bN_rv, bM_ru, bV_rv, bV_rx, bU_ru, bU_rx, bN_ite, bM_ite, bV_ite, bU_ite, ↓bx_e, ↓sp_e, gA_ok, gZ_n, gB_0, gB_1, gB_i, and_true, and_false, true_and, false_and, decide_true, decide_false, ↓reduceIte, not_true_eq_false, not_false_eq_true, Bool.false_eq_true, Bool.true_eq_false, Bool.and_true, Bool.and_false, Bool.true_and, Bool.false_and, Bool.or_true, Bool.or_false, Bool.true_or, Bool.false_or, Bool.not_true, Bool.not_false, le_f, le_t, lt_f, lt_t, eq_f, ↓reduceIte, not_true_eq_false, not_false_eq_true, ite_10, bt_0, bt_1]
      · rw [decide_eq_false c2, b2_f]
        simp (disch := omega) only [hp, h3, e, l1, l2, nI_lit, nI_add, pk_mul, nI_clp, nI_eqv, nI_lev, nI_ltv, nI_neg, nI_neg', nI_subv, Nat.add_zero, Nat.zero_add, Nat.mul_zero, Nat.reduceAdd, bN_rv, bM_ru, bV_rv, bV_rx, bU_ru, bU_rx, bN_ite, bM_ite, bV_ite, bU_ite, ↓bx_e, ↓sp_e, gA_ok, gZ_n, gB_0, gB_1, gB_i, and_true, and_false, true_and, false_and, decide_true, decide_false, ↓reduceIte, not_true_eq_false, not_false_eq_true, Bool.false_eq_true, Bool.true_eq_false, Bool.and_true, Bool.and_false, Bool.true_and, Bool.false_and, Bool.or_true, Bool.or_false, Bool.true_or, Bool.false_or, Bool.not_true, Bool.not_false, le_f, le_t, lt_f, lt_t, eq_f, ↓reduceIte, not_true_eq_false, not_false_eq_true, ite_10, bt_0, bt_1]
  · rw [isB_L (by omega), b2_f]
    simp (disch := omega) only [hp, h3, nI_lit, nI_add, pk_mul, nI_clp, nI_eqv, nI_lev, nI_ltv, nI_neg, nI_neg', nI_subv, Nat.add_zero, Nat.zero_add, Nat.mul_zero, Nat.reduceAdd, bN_rv, bM_ru, bV_rv, bV_rx, bU_ru, bU_rx, bN_ite, bM_ite, bV_ite, bU_ite, ↓bx_e, ↓sp_e, gA_ok, gZ_n, gB_0, gB_1, gB_i, and_true, and_false, true_and, false_and, decide_true, decide_false, ↓reduceIte, not_true_eq_false, not_false_eq_true, Bool.false_eq_true, Bool.true_eq_false, Bool.and_true, Bool.and_false, Bool.true_and, Bool.false_and, Bool.or_true, Bool.or_false, Bool.true_or, Bool.false_or, Bool.not_true, Bool.not_false, le_f, le_t, lt_f, lt_t, eq_f, ↓reduceIte, not_true_eq_false, not_false_eq_true, ite_10, bt_0, bt_1]
theorem m216_0 {t : mS} {K : mS → Option mQ} (h : TB b L t) : ∀ m p n, p + m = L → m < n → q216_0 K n (tM t p) = K (tM t (sk b L p)) := by
  intro m
  induction m with
  | zero =>
    intro p n hp hn
    cases n with
    | zero => omega
    | succ n =>
      have k := m215 (lo := 32) (hi := 32) (tM_T (p := p) h) tM_p (by omega) (by omega) (by omega)
      rw [isB_L (by omega), b2_f] at k
      rw [sk_n (by omega) (isB_L (by omega)), q216_0]
      simp (disch := omega) only [k, nI_lit, nI_add, pk_mul, nI_clp, nI_eqv, nI_lev, nI_ltv, nI_neg, nI_neg', nI_subv, Nat.add_zero, Nat.zero_add, Nat.mul_zero, Nat.reduceAdd, bN_rv, bM_ru, bV_rv, bV_rx, bU_ru, bU_rx, bN_ite, bM_ite, bV_ite, bU_ite, ↓bx_e, ↓sp_e, gA_ok, gZ_n, gB_0, gB_1, gB_i, and_true, and_false, true_and, false_and, decide_true, decide_false, ↓reduceIte, not_true_eq_false, not_false_eq_true, Bool.false_eq_true, Bool.true_eq_false, Bool.and_true, Bool.and_false, Bool.true_and, Bool.false_and, Bool.or_true, Bool.or_false, Bool.true_or, Bool.false_or, Bool.not_true, Bool.not_false, le_f, le_t, lt_f, lt_t, eq_f, ↓reduceIte, not_true_eq_false, not_false_eq_true, ite_10, bt_0, bt_1]
  | succ m ih =>
    intro p n hp hn
    cases n with
    | zero => omega
    | succ n =>
      have k := m215 (lo := 32) (hi := 32) (tM_T (p := p) h) tM_p (by omega) (by omega) (by omega)
      rw [q216_0]
      cases e : isB b L 32 32 p with
      | true =>
        rw [e, b2_t] at k
        rw [sk_s (by omega) e, ← ih (p + 1) n (by omega) (by omega)]
        have e5 : sI (tM t p) 512 10 (nI (p + 1)) = tM t (p + 1) := sI_2x
        simp (disch := omega) only [k, tM_p, e5, nI_lit, nI_add, pk_mul, nI_clp, nI_eqv, nI_lev, nI_ltv, nI_neg, nI_neg', nI_subv, Nat.add_zero, Nat.zero_add, Nat.mul_zero, Nat.reduceAdd, bN_rv, bM_ru, bV_rv, bV_rx, bU_ru, bU_rx, bN_ite, bM_ite, bV_ite, bU_ite, ↓bx_e, ↓sp_e, gA_ok, gZ_n, gB_0, gB_1, gB_i, and_true, and_false, true_and, false_and, decide_true, decide_false, ↓reduceIte, not_true_eq_false, not_false_eq_true, Bool.false_eq_true, Bool.true_eq_false, Bool.and_true, Bool.and_false, Bool.true_and, Bool.false_and, Bool.or_true, Bool.or_false, Bool.true_or, Bool.false_or, Bool.not_true, Bool.not_false, le_f, le_t, lt_f, lt_t, eq_f, ↓reduceIte, not_true_eq_false, not_false_eq_true, ite_10, bt_0, bt_1]
      | false =>
        rw [e, b2_f] at k
        rw [sk_n (by omega) e]
        simp (disch := omega) only [k, nI_lit, nI_add, pk_mul, nI_clp, nI_eqv, nI_lev, nI_ltv, nI_neg, nI_neg', nI_subv, Nat.add_zero, Nat.zero_add, Nat.mul_zero, Nat.reduceAdd, bN_rv, bM_ru, bV_rv, bV_rx, bU_ru, bU_rx, bN_ite, bM_ite, bV_ite, bU_ite, ↓bx_e, ↓sp_e, gA_ok, gZ_n, gB_0, gB_1, gB_i, and_true, and_false, true_and, false_and, decide_true, decide_false, ↓reduceIte, not_true_eq_false, not_false_eq_true, Bool.false_eq_true, Bool.true_eq_false, Bool.and_true, Bool.and_false, Bool.true_and, Bool.false_and, Bool.or_true, Bool.or_false, Bool.true_or, Bool.false_or, Bool.not_true, Bool.not_false, le_f, le_t, lt_f, lt_t, eq_f, ↓reduceIte, not_true_eq_false, not_false_eq_true, ite_10, bt_0, bt_1]
theorem m216 {t : mS} {p : Nat} (h : TB b L t) (hp : t.1 512 10 = nI p) (hpL : p ≤ L) : q216 t = ru (tB t (sk b L p) (sk b L p)) := by
  have k := m216_0 (K := q216_24) h (L - p) p 10000 (by omega) (by have := h.1; omega)
  have e : tM t p = t := sI_id hp
  rw [e] at k
  unfold q216
  rw [k]
  unfold q216_24
  rw [tM_p]
  rfl
theorem lw_s {p : Nat} (hp : p < L) (h : isB b L 97 122 p = true) : lw b L p = lw b L (p + 1) := by
  unfold lw
  obtain ⟨m, hm⟩ : ∃ m, L - p = m + 1 := ⟨L - p - 1, by omega⟩
  rw [hm, rn, if_pos h, show m = L - (p + 1) by omega]
theorem lw_n {p : Nat} (hp : p ≤ L) (h : isB b L 97 122 p = false) : lw b L p = p := rB_u (Nat.le_refl _) hp (fun i a c => by omega) h
theorem m217_4 {t : mS} {g : Nat} (h : TB b L t) : ∀ m p n, p + m = L → m < n → q217_4 n (tB t p g) = ru (tB t (lw b L p) g) := by
  intro m
  induction m with
  | zero =>
    intro p n hp hn
    cases n with
    | zero => omega
    | succ n =>
      have k := m215 (lo := 97) (hi := 122) (tB_T (p := p) (g := g) h) tB_p (by omega) (by omega) (by omega)
      rw [isB_L (by omega), b2_f] at k
      rw [lw_n (by omega) (isB_L (by omega)), q217_4]
      simp (disch := omega) only [k, nI_lit, nI_add, pk_mul, nI_clp, nI_eqv, nI_lev, nI_ltv, nI_neg, nI_neg', nI_subv, Nat.add_zero, Nat.zero_add, Nat.mul_zero, Nat.reduceAdd, bN_rv, bM_ru, bV_rv, bV_rx, bU_ru, bU_rx, bN_ite, bM_ite, bV_ite, bU_ite, ↓bx_e, ↓sp_e, gA_ok, gZ_n, gB_0, gB_1, gB_i, and_true, and_false, true_and, false_and, decide_true, decide_false, ↓reduceIte, not_true_eq_false, not_false_eq_true, Bool.false_eq_true, Bool.true_eq_false, Bool.and_true, Bool.and_false, Bool.true_and, Bool.false_and, Bool.or_true, Bool.or_false, Bool.true_or, Bool.false_or, Bool.not_true, Bool.not_false, le_f, le_t, lt_f, lt_t, eq_f, ↓reduceIte, not_true_eq_false, not_false_eq_true, ite_10, bt_0, bt_1]
  | succ m ih =>
    intro p n hp hn
    cases n with
    | zero => omega
    | succ n =>
      have k := m215 (lo := 97) (hi := 122) (tB_T (p := p) (g := g) h) tB_p (by omega) (by omega) (by omega)
      rw [q217_4]
      cases e : isB b L 97 122 p with
      | true =>
        rw [e, b2_t] at k
        rw [lw_s (by omega) e, ← ih (p + 1) n (by omega) (by omega)]
        simp (disch := omega) only [k, tB_p, tB_M, nI_lit, nI_add, pk_mul, nI_clp, nI_eqv, nI_lev, nI_ltv, nI_neg, nI_neg', nI_subv, Nat.add_zero, Nat.zero_add, Nat.mul_zero, Nat.reduceAdd, bN_rv, bM_ru, bV_rv, bV_rx, bU_ru, bU_rx, bN_ite, bM_ite, bV_ite, bU_ite, ↓bx_e, ↓sp_e, gA_ok, gZ_n, gB_0, gB_1, gB_i, and_true, and_false, true_and, false_and, decide_true, decide_false, ↓reduceIte, not_true_eq_false, not_false_eq_true, Bool.false_eq_true, Bool.true_eq_false, Bool.and_true, Bool.and_false, Bool.true_and, Bool.false_and, Bool.or_true, Bool.or_false, Bool.true_or, Bool.false_or, Bool.not_true, Bool.not_false, le_f, le_t, lt_f, lt_t, eq_f, ↓reduceIte, not_true_eq_false, not_false_eq_true, ite_10, bt_0, bt_1]
      | false =>
        rw [e, b2_f] at k
        rw [lw_n (by omega) e]
        simp (disch := omega) only [k, nI_lit, nI_add, pk_mul, nI_clp, nI_eqv, nI_lev, nI_ltv, nI_neg, nI_neg', nI_subv, Nat.add_zero, Nat.zero_add, Nat.mul_zero, Nat.reduceAdd, bN_rv, bM_ru, bV_rv, bV_rx, bU_ru, bU_rx, bN_ite, bM_ite, bV_ite, bU_ite, ↓bx_e, ↓sp_e, gA_ok, gZ_n, gB_0, gB_1, gB_i, and_true, and_false, true_and, false_and, decide_true, decide_false, ↓reduceIte, not_true_eq_false, not_false_eq_true, Bool.false_eq_true, Bool.true_eq_false, Bool.and_true, Bool.and_false, Bool.true_and, Bool.false_and, Bool.or_true, Bool.or_false, Bool.true_or, Bool.false_or, Bool.not_true, Bool.not_false, le_f, le_t, lt_f, lt_t, eq_f, ↓reduceIte, not_true_eq_false, not_false_eq_true, ite_10, bt_0, bt_1]
theorem m217 {t : mS} {p : Nat} (h : TB b L t) (hp : t.1 512 10 = nI p) (hpL : p ≤ L) : q217 t = ru (tB t (lw b L (sk b L p)) (sk b L p)) := by
  obtain ⟨s1, s2, s3, s4⟩ := sk_p (b := b) hpL
  have k := m217_4 (g := sk b L p) h (L - sk b L p) (sk b L p) 10000 (by omega) (by have := h.1; omega)
  unfold q217
  rw [m216 h hp hpL, bM_ru]
  exact k
theorem sx_e {x c : Nat} (hx : x < 256) (hc : c < 128) : (sx x = nI c) = (x = c) := by
  by_cases h : x < 128
  · rw [sx_lo h, nI_eqv (by omega) (by omega)]
  · have h1 := sx_neg x hx (by omega)
    refine propext ⟨fun q => ?_, fun q => by omega⟩
    rw [q, lt0 (by omega)] at h1
    exact h1.elim
theorem m218 {t : mS} {g tx : Nat} (h : TB b L t) (hp : t.1 512 10 = nI (lw b L g)) (hg : t.1 512 12 = nI g) (hgL : g ≤ L) (h1 : tx < 22) (h7 : tx ≠ 7) (h8 : tx ≠ 8) : q218 tx t = rv (b2 (wd b L tx g)) t := by
  obtain ⟨t1, t2, t3⟩ := tx_ok tx h1 h7 h8
  obtain ⟨l1, l2, l3, l4⟩ := lw_p (b := b) hgL
  obtain ⟨g1, g2, g3, g4⟩ := h
  have lt : (mm_txt tx).length = tln tx := rfl
  have lo : Int32.ofNat (mm_txt tx).length = nI (tln tx) := rfl
  have z : ∀ n v, q218_24 tx (n + 1) (nI 0) v t = rv (nI 0) t := fun n v => by
    rw [q218_24, if_pos (show nI 0 = 0 from rfl)]; exact gB_0
  have hs : nI (lw b L g) - nI g = nI (lw b L g - g) := nI_subv l1
  unfold q218 q218_21
  rw [hp, hg, hs, lo]
  simp only [nI_lit]
  unfold wd
  by_cases c : lw b L g = g + tln tx
  · rw [if_neg (by rw [nI_eqv (by omega) (by omega)]; omega), decide_eq_true c, Bool.true_and]
    have main : ∀ r k n, k + r = tln tx → r + 1 < n → q218_24 tx n (nI 1) (nI k) t = rv (b2 (al (fun k => decide (b (g + k) = tc tx k)) r k)) t := by
      intro r
      induction r with
      | zero =>
        intro k n hk hn
        cases n with
        | zero => omega
        | succ n =>
          rw [q218_24, al, b2_t, lo]
          simp (disch := omega) only [nI_lit, nI_add, pk_mul, nI_clp, nI_eqv, nI_lev, nI_ltv, nI_neg, nI_neg', nI_subv, Nat.add_zero, Nat.zero_add, Nat.mul_zero, Nat.reduceAdd, bN_rv, bM_ru, bV_rv, bV_rx, bU_ru, bU_rx, bN_ite, bM_ite, bV_ite, bU_ite, ↓bx_e, ↓sp_e, gA_ok, gZ_n, gB_0, gB_1, gB_i, and_true, and_false, true_and, false_and, decide_true, decide_false, ↓reduceIte, not_true_eq_false, not_false_eq_true, Bool.false_eq_true, Bool.true_eq_false, Bool.and_true, Bool.and_false, Bool.true_and, Bool.false_and, Bool.or_true, Bool.or_false, Bool.true_or, Bool.false_or, Bool.not_true, Bool.not_false, le_f, le_t, lt_f, lt_t, eq_f, ↓reduceIte, not_true_eq_false, not_false_eq_true, ite_10, bt_0, bt_1]
      | succ r ih =>
        intro k n hk hn
        obtain ⟨n, rfl⟩ : ∃ m, n = m + 1 + 1 := ⟨n - 2, by omega⟩
        obtain ⟨t4, t5, t6⟩ := t3 k (by omega)
        have e := g4 (g + k) (by omega)
        have e2 := g2 (g + k) (by omega)
        have e3 := sx_e e2 (show tc tx k < 128 by omega)
        rw [q218_24, al, lo]
        by_cases c2 : b (g + k) = tc tx k
        · rw [decide_eq_true c2, Bool.true_and, ← ih (k + 1) (n + 1) (by omega) (by omega)]
          have e3 : (sx (b (g + k)) = nI (tc tx k)) = True := by rw [e3]; exact eq_true c2
          simp (disch := omega) only [hg, e, lt, t4, e3, q218_60, nI_lit, nI_add, pk_mul, nI_clp, nI_eqv, nI_lev, nI_ltv, nI_neg, nI_neg', nI_subv, Nat.add_zero, Nat.zero_add, Nat.mul_zero, Nat.reduceAdd, bN_rv, bM_ru, bV_rv, bV_rx, bU_ru, bU_rx, bN_ite, bM_ite, bV_ite, bU_ite, ↓bx_e, ↓sp_e, gA_ok, gZ_n, gB_0, gB_1, gB_i, and_true, and_false, true_and, false_and, decide_true, decide_false, ↓reduceIte, not_true_eq_false, not_false_eq_true, Bool.false_eq_true, Bool.true_eq_false, Bool.and_true, Bool.and_false, Bool.true_and, Bool.false_and, Bool.or_true, Bool.or_false, Bool.true_or, Bool.false_or, Bool.not_true, Bool.not_false, le_f, le_t, lt_f, lt_t, eq_f, ↓reduceIte, not_true_eq_false, not_false_eq_true, ite_10, bt_0, bt_1]
        · rw [decide_eq_false c2, Bool.false_and, b2_f]
          have e3 : (sx (b (g + k)) = nI (tc tx k)) = False := by rw [e3]; exact eq_false c2
          simp (disch := omega) only [hg, e, lt, t4, e3, q218_60, z, nI_lit, nI_add, pk_mul, nI_clp, nI_eqv, nI_lev, nI_ltv, nI_neg, nI_neg', nI_subv, Nat.add_zero, Nat.zero_add, Nat.mul_zero, Nat.reduceAdd, bN_rv, bM_ru, bV_rv, bV_rx, bU_ru, bU_rx, bN_ite, bM_ite, bV_ite, bU_ite, ↓bx_e, ↓sp_e, gA_ok, gZ_n, gB_0, gB_1, gB_i, and_true, and_false, true_and, false_and, decide_true, decide_false, ↓reduceIte, not_true_eq_false, not_false_eq_true, Bool.false_eq_true, Bool.true_eq_false, Bool.and_true, Bool.and_false, Bool.true_and, Bool.false_and, Bool.or_true, Bool.or_false, Bool.true_or, Bool.false_or, Bool.not_true, Bool.not_false, le_f, le_t, lt_f, lt_t, eq_f, ↓reduceIte, not_true_eq_false, not_false_eq_true, ite_10, bt_0, bt_1]
    exact main (tln tx) 0 10000 (by omega) (by omega)
  · rw [if_pos (by rw [nI_eqv (by omega) (by omega)]; omega), decide_eq_false c, Bool.false_and, b2_f]
    exact z 9999 (nI 0)
theorem m219 {t : mS} {p tx : Nat} (h : TB b L t) (hp : t.1 512 10 = nI p) (hpL : p ≤ L) (h1 : tx < 22) (h7 : tx ≠ 7) (h8 : tx ≠ 8) : q219 tx t = rv (b2 (wd b L tx (sk b L p))) (tB t (if wd b L tx (sk b L p) = true then sk b L p + tln tx else sk b L p) (sk b L p)) := by
  obtain ⟨s1, s2, s3, s4⟩ := sk_p (b := b) hpL
  have k := m218 (tx := tx) (tB_T (p := lw b L (sk b L p)) (g := sk b L p) h) tB_p tB_g s2 h1 h7 h8
  unfold q219
  rw [m217 h hp hpL, bM_ru, k, bN_rv]
  cases e : wd b L tx (sk b L p) with
  | true =>
    rw [b2_t, if_neg (show ¬ nI 1 = 0 by decide), if_pos rfl, wd_l e]
    rfl
  | false =>
    rw [b2_f, if_pos (show nI 0 = 0 from rfl), if_neg (by decide), sp_e, tB_g, tB_M]
    rfl
theorem m220 {t : mS} {p c : Nat} (h : TB b L t) (hp : t.1 512 10 = nI p) (hpL : p ≤ L) (hc : c < 128) : q220 (nI c) t = rv (b2 (isB b L c c (sk b L p))) (tB t (if isB b L c c (sk b L p) = true then sk b L p + 1 else sk b L p) (sk b L p)) := by
  obtain ⟨s1, s2, s3, s4⟩ := sk_p (b := b) hpL
  have k := m215 (lo := c) (hi := c) (tB_T (p := sk b L p) (g := sk b L p) h) tB_p s2 hc hc
  unfold q220
  rw [m216 h hp hpL, bM_ru, k, bN_rv]
  cases e : isB b L c c (sk b L p) with
  | true =>
    rw [b2_t, if_pos (show ¬ nI 1 = 0 by decide), if_pos rfl, sp_e]
    simp only [nI_lit]
    rw [tB_p, nI_add, tB_M]
  | false =>
    rw [b2_f, if_neg (show ¬ ¬ nI 0 = 0 from not_not_intro rfl), if_neg (by decide)]
    rfl
theorem m222 {t : mS} {p : Nat} (h : TB b L t) (hp : t.1 512 10 = nI p) (hpL : p ≤ L) : q222 t = rv (b2 (isB b L 48 57 (sk b L p))) (tB t (sk b L p) (sk b L p)) := by
  obtain ⟨s1, s2, s3, s4⟩ := sk_p (b := b) hpL
  have k := m215 (lo := 48) (hi := 57) (tB_T (p := sk b L p) (g := sk b L p) h) tB_p s2 (by omega) (by omega)
  unfold q222
  simp only [nI_lit]
  rw [m216 h hp hpL, bM_ru, k, bN_rv, gB_b]
theorem m221_6 {t : mS} {K : Int32 → Int32 → Int32 → mS → Option mQ} {v1 v2 : Int32} {g : Nat} (h : TB b L t) (hgL : g ≤ L) : ∀ m p n, p + m = dg b L g → g ≤ p → m < n → q221_6 K n v1 v2 (nI (val b g (min 3 (p - g)))) (tB t p g) = K v1 v2 (nI (val b g (min 3 (dg b L g - g)))) (tB t (dg b L g) g) := by
  obtain ⟨d1, d2, d3, d4⟩ := dg_p (b := b) hgL
  have hL := h.1
  intro m
  induction m with
  | zero =>
    intro p n hp hg hn
    cases n with
    | zero => omega
    | succ n =>
      rw [Nat.add_zero] at hp
      subst hp
      have k := m215 (lo := 48) (hi := 57) (tB_T (p := dg b L g) (g := g) h) tB_p d2 (by omega) (by omega)
      rw [d4, b2_f] at k
      rw [q221_6]
      simp (disch := omega) only [k, nI_lit, nI_add, pk_mul, nI_clp, nI_eqv, nI_lev, nI_ltv, nI_neg, nI_neg', nI_subv, Nat.add_zero, Nat.zero_add, Nat.mul_zero, Nat.reduceAdd, bN_rv, bM_ru, bV_rv, bV_rx, bU_ru, bU_rx, bN_ite, bM_ite, bV_ite, bU_ite, ↓bx_e, ↓sp_e, gA_ok, gZ_n, gB_0, gB_1, gB_i, and_true, and_false, true_and, false_and, decide_true, decide_false, ↓reduceIte, not_true_eq_false, not_false_eq_true, Bool.false_eq_true, Bool.true_eq_false, Bool.and_true, Bool.and_false, Bool.true_and, Bool.false_and, Bool.or_true, Bool.or_false, Bool.true_or, Bool.false_or, Bool.not_true, Bool.not_false, le_f, le_t, lt_f, lt_t, eq_f, ↓reduceIte, not_true_eq_false, not_false_eq_true, ite_10, bt_0, bt_1]
  | succ m ih =>
    intro p n hp hg hn
    cases n with
    | zero => omega
    | succ n =>
      have hd := d3 p hg (by omega)
      obtain ⟨x1, x2, x3⟩ := isB_t hd
      have k := m215 (lo := 48) (hi := 57) (tB_T (p := p) (g := g) h) tB_p (by omega) (by omega) (by omega)
      rw [hd, b2_t] at k
      have e5 : (tB t p g).1 518 p = nI (b p) := by rw [tB_n (by omega), h.2.2.2 p x1, sx_lo (by omega)]
      have hs : nI p - nI g = nI (p - g) := nI_subv hg
      rw [← ih (p + 1) n (by omega) (by omega) (by omega), q221_6]
      by_cases c : 3 ≤ p - g
      · rw [show min 3 (p + 1 - g) = min 3 (p - g) by omega]
        simp (disch := omega) only [k, tB_p, tB_g, hs, q221_51, tB_M, nI_lit, nI_add, pk_mul, nI_clp, nI_eqv, nI_lev, nI_ltv, nI_neg, nI_neg', nI_subv, Nat.add_zero, Nat.zero_add, Nat.mul_zero, Nat.reduceAdd, bN_rv, bM_ru, bV_rv, bV_rx, bU_ru, bU_rx, bN_ite, bM_ite, bV_ite, bU_ite, ↓bx_e, ↓sp_e, gA_ok, gZ_n, gB_0, gB_1, gB_i, and_true, and_false, true_and, false_and, decide_true, decide_false, ↓reduceIte, not_true_eq_false, not_false_eq_true, Bool.false_eq_true, Bool.true_eq_false, Bool.and_true, Bool.and_false, Bool.true_and, Bool.false_and, Bool.or_true, Bool.or_false, Bool.true_or, Bool.false_or, Bool.not_true, Bool.not_false, le_f, le_t, lt_f, lt_t, eq_f, ↓reduceIte, not_true_eq_false, not_false_eq_true, ite_10, bt_0, bt_1]
      · rw [show min 3 (p - g) = p - g by omega, show min 3 (p + 1 - g) = (p - g) + 1 by omega]
        have hv := val_l (b := b) (p := g) (p - g) (fun i hi => (isB_t (d3 (g + i) (by omega) (by omega))).2.2)
        have hv2 : 10 ^ (p - g) ≤ 1000 := (by decide : ∀ k, k ≤ 3 → 10 ^ k ≤ 1000) _ (by omega)
        have hm : nI 10 * nI (val b g (p - g)) + nI (b p) - nI 48 = nI (val b g (p - g + 1)) := by
          have : nI 10 * nI (val b g (p - g)) = nI (10 * val b g (p - g)) := pk_mul _ _
          rw [this, nI_add, nI_subv (by omega), val, show g + (p - g) = p by omega]
          congr 1; omega
        simp (disch := omega) only [k, tB_p, tB_g, hs, nI_lit, bN_rv, gA_ok, nI_clp, e5, hm, nI_lev, le_f, ↓reduceIte, nI_eqv, eq_f, q221_51, sp_e, nI_add, tB_M]
theorem m221 {t : mS} {p hi : Nat} (h : TB b L t) (hp : t.1 512 10 = nI p) (hpL : p ≤ L) (hhi : hi < 10000) : q221 (nI 0) (nI hi) t = rv (oI (nm b L hi (sk b L p))) (tB t (dg b L (sk b L p)) (sk b L p)) := by
  obtain ⟨s1, s2, s3, s4⟩ := sk_p (b := b) hpL
  have hL := h.1
  unfold q221
  simp only [nI_lit]
  rw [m216 h hp hpL, bM_ru]
  generalize sk b L p = q at *
  obtain ⟨d1, d2, d3, d4⟩ := dg_p (b := b) s2
  have k := m221_6 (K := q221_65) (v1 := nI 0) (v2 := nI hi) (g := q) h s2 (dg b L q - q) q 10000 (by omega) (by omega) (by omega)
  rw [show min 3 (q - q) = 0 by omega, show val b q 0 = 0 from rfl] at k
  rw [k]
  have hv := val_l (b := b) (p := q) (min 3 (dg b L q - q)) (fun i hi => (isB_t (d3 (q + i) (by omega) (by omega))).2.2)
  have hv2 : 10 ^ (min 3 (dg b L q - q)) ≤ 1000 := (by decide : ∀ k, k ≤ 3 → 10 ^ k ≤ 1000) _ (by omega)
  have hs : nI (dg b L q) - nI q = nI (dg b L q - q) := nI_subv d1
  unfold q221_65 q221_99 nm
  simp only [nI_lit, tB_p, tB_g, hs]
  by_cases c1 : dg b L q = q
  · rw [if_pos (show dg b L q = q ∨ _ from Or.inl c1), if_pos (show nI (dg b L q) = nI q by rw [c1])]; rfl
  · rw [if_neg (show ¬ nI (dg b L q) = nI q by rw [nI_eqv (by omega) (by omega)]; exact c1)]
    by_cases c2 : 3 < dg b L q - q
    · rw [if_pos (show dg b L q = q ∨ _ from Or.inr (Or.inl c2)), if_pos (show nI 3 < nI (dg b L q - q) by rw [nI_ltv (by omega) (by omega)]; omega)]; rfl
    · rw [show min 3 (dg b L q - q) = dg b L q - q by omega] at hv hv2 ⊢
      rw [if_neg (show ¬ nI 3 < nI (dg b L q - q) by rw [nI_ltv (by omega) (by omega)]; omega), if_neg (show ¬ nI (val b q (dg b L q - q)) < nI 0 by rw [lt0 (by omega)]; exact fun q => q)]
      by_cases c3 : hi < val b q (dg b L q - q)
      · rw [if_pos (show dg b L q = q ∨ _ from Or.inr (Or.inr c3)), if_neg (show ¬ nI (val b q (dg b L q - q)) ≤ nI hi by rw [nI_lev (by omega) (by omega)]; omega)]; rfl
      · rw [if_neg (show ¬ (dg b L q = q ∨ 3 < dg b L q - q ∨ hi < val b q (dg b L q - q)) by omega), if_pos (show nI (val b q (dg b L q - q)) ≤ nI hi by rw [nI_lev (by omega) (by omega)]; omega)]; rfl
end RT
