/-! PAIRS: the reference's table, and the walk through it -/
theorem sh_n : ∀ n, n ≤ 5 → shlI (nI 1) (nI n) = nI (2 ^ n) := by decide +kernel
theorem lo_z : ∀ S, S < 32 → 0 < S → ntz (nI S) = nI (loB S) := by decide +kernel
theorem cl_e : ∀ S, S < 32 → ∀ j, j < 5 → (nI S &&& (shlI (nI 1) (nI j) ^^^ -nI 1)) = nI (clB S j) := by decide +kernel
theorem bt_S : ∀ S, S < 32 → ∀ j, j < 5 → bt (nI S) j = S.testBit j := by decide +kernel
def vI (o : Option Nat) : Int32 := match o with
  | none => -nI 1
  | some x => nI x
section PT
variable {n : Nat} {f : Nat → Int32}
theorem m319_n {t : mS} {S : Nat} (h5 : S < 32) (h0 : 0 < S) (hT : ∀ S', S' < S → t.1 522 S' = nI (pW n (clX f) (wP f) S')) : q319 (nI S) (-nI 1) t = rv (vI (vO (clX f) (wP f) (pW n (clX f) (wP f)) S 0)) t := by
  obtain ⟨l1, l2, l3⟩ := lo_b S h5 h0
  have e1 := cl_e S h5 _ l2
  have e2 := hT _ l3
  have e0 := lo_z S h5 h0
  unfold q319
  simp (disch := omega) only [q269, q342_e, e0, e1, e2, nI_lit, nI_add, pk_mul, nI_clp, nI_eqv, nI_lev, nI_ltv, nI_neg, nI_neg', nI_subv, Nat.add_zero, Nat.zero_add, Nat.mul_zero, Nat.reduceAdd, bN_rv, bM_ru, bV_rv, bV_rx, bU_ru, bU_rx, bN_ite, bM_ite, bV_ite, bU_ite, ↓bx_e, ↓sp_e, gA_ok, gZ_n, gB_0, gB_1, gB_i, and_true, and_false, true_and, false_and, decide_true, decide_false, ↓reduceIte, not_true_eq_false, not_false_eq_true, Bool.false_eq_true, Bool.true_eq_false, Bool.and_true, Bool.and_false, Bool.true_and, Bool.false_and, Bool.or_true, Bool.or_false, Bool.true_or, Bool.false_or, Bool.not_true, Bool.not_false, le_f, le_t, lt_f, lt_t, eq_f, ↓reduceIte, not_true_eq_false, not_false_eq_true, ite_10, bt_0, bt_1]
  rfl
theorem m319_j {t : mS} {S o : Nat} (h5 : S < 32) (h0 : 0 < S) (ho : o < 5) (hf : t.1 513 = f) (hT : ∀ S', S' < S → t.1 522 S' = nI (pW n (clX f) (wP f) S')) : q319 (nI S) (nI o) t = rv (vI (vO (clX f) (wP f) (pW n (clX f) (wP f)) S (o + 1))) t := by
  obtain ⟨l1, l2, l3⟩ := lo_b S h5 h0
  have e1 := cl_e S h5 _ l2
  have e0 := lo_z S h5 h0
  have eb := bt_S (clB S (loB S)) (by omega) o ho
  have hv : vO (clX f) (wP f) (pW n (clX f) (wP f)) S (o + 1) = if (clB S (loB S)).testBit o = true ∧ clX f (loB S) o = false then some (wP f (loB S) + wP f o + pW n (clX f) (wP f) (clB (clB S (loB S)) o)) else none := rfl
  have k190 := m190 (x := nI (clB S (loB S))) (show o < 32 by omega) (t := t)
  have k302 := m302 (t := t) l2 ho
  rw [hf] at k302
  rw [eb] at k190
  unfold q319
  cases hb : (clB S (loB S)).testBit o with
  | false =>
    rw [hb, b2_f] at k190
    rw [hv, if_neg (fun q => by rw [hb] at q; cases q.1)]
    simp (disch := omega) only [q269, q342_e, e0, e1, k190, nI_lit, nI_add, pk_mul, nI_clp, nI_eqv, nI_lev, nI_ltv, nI_neg, nI_neg', nI_subv, Nat.add_zero, Nat.zero_add, Nat.mul_zero, Nat.reduceAdd, bN_rv, bM_ru, bV_rv, bV_rx, bU_ru, bU_rx, bN_ite, bM_ite, bV_ite, bU_ite, ↓bx_e, ↓sp_e, gA_ok, gZ_n, gB_0, gB_1, gB_i, and_true, and_false, true_and, false_and, decide_true, decide_false, ↓reduceIte, not_true_eq_false, not_false_eq_true, Bool.false_eq_true, Bool.true_eq_false, Bool.and_true, Bool.and_false, Bool.true_and, Bool.false_and, Bool.or_true, Bool.or_false, Bool.true_or, Bool.false_or, Bool.not_true, Bool.not_false, le_f, le_t, lt_f, lt_t, eq_f, ↓reduceIte, not_true_eq_false, not_false_eq_true, ite_10, bt_0, bt_1]
    rfl
  | true =>
    rw [hb, b2_t] at k190
    cases hx : clX f (loB S) o with
    | true =>
      rw [hx, b2_t] at k302
      rw [hv, if_neg (fun q => by rw [hx] at q; cases q.2)]
      simp (disch := omega) only [q269, q342_e, e0, e1, k190, k302, nI_lit, nI_add, pk_mul, nI_clp, nI_eqv, nI_lev, nI_ltv, nI_neg, nI_neg', nI_subv, Nat.add_zero, Nat.zero_add, Nat.mul_zero, Nat.reduceAdd, bN_rv, bM_ru, bV_rv, bV_rx, bU_ru, bU_rx, bN_ite, bM_ite, bV_ite, bU_ite, ↓bx_e, ↓sp_e, gA_ok, gZ_n, gB_0, gB_1, gB_i, and_true, and_false, true_and, false_and, decide_true, decide_false, ↓reduceIte, not_true_eq_false, not_false_eq_true, Bool.false_eq_true, Bool.true_eq_false, Bool.and_true, Bool.and_false, Bool.true_and, Bool.false_and, Bool.or_true, Bool.or_false, Bool.true_or, Bool.false_or, Bool.not_true, Bool.not_false, le_f, le_t, lt_f, lt_t, eq_f, ↓reduceIte, not_true_eq_false, not_false_eq_true, ite_10, bt_0, bt_1]
      rfl
    | false =>
      rw [hx, b2_f] at k302
      rw [hv, if_pos ⟨hb, hx⟩]
      have c2 := cl_e (clB S (loB S)) (by omega) o ho
      have c3 := clB_le (clB S (loB S)) o
      have e2 := hT _ (show clB (clB S (loB S)) o < S by omega)
      have k1 := m301 (t := t) l2
      have k2 := m301 (t := t) ho
      rw [hf] at k1 k2
      have w1 := wP_e f (loB S)
      have w2 := wP_e f o
      simp (disch := omega) only [q269, q342_e, e0, e1, k190, k302, k1, k2, q343_e, w1, w2, c2, e2, nI_lit, nI_add, pk_mul, nI_clp, nI_eqv, nI_lev, nI_ltv, nI_neg, nI_neg', nI_subv, Nat.add_zero, Nat.zero_add, Nat.mul_zero, Nat.reduceAdd, bN_rv, bM_ru, bV_rv, bV_rx, bU_ru, bU_rx, bN_ite, bM_ite, bV_ite, bU_ite, ↓bx_e, ↓sp_e, gA_ok, gZ_n, gB_0, gB_1, gB_i, and_true, and_false, true_and, false_and, decide_true, decide_false, ↓reduceIte, not_true_eq_false, not_false_eq_true, Bool.false_eq_true, Bool.true_eq_false, Bool.and_true, Bool.and_false, Bool.true_and, Bool.false_and, Bool.or_true, Bool.or_false, Bool.true_or, Bool.false_or, Bool.not_true, Bool.not_false, le_f, le_t, lt_f, lt_t, eq_f, ↓reduceIte, not_true_eq_false, not_false_eq_true, ite_10, bt_0, bt_1]
      rfl
theorem vI_mx {b : Nat} {o : Option Nat} (hb : b < 2147483648) (ho : ∀ x, o = some x → x < 2147483648) : mxI (nI b) (vI o) = nI (max b (o.getD 0)) := by
  cases o with
  | none =>
    have h1 : (-nI 1 : Int32).toInt = -1 := by decide
    unfold mxI vI
    rw [if_neg (by rw [Int32.lt_iff_toInt_lt, nI_toInt hb]; simp only; rw [h1]; omega), Option.getD_none, Nat.max_zero]
  | some x =>
    have hx := ho x rfl
    unfold mxI
    show (if nI b < nI x then nI x else nI b) = nI (max b x)
    by_cases h : b < x
    · rw [if_pos (by rw [nI_ltv hb hx]; exact h), Nat.max_eq_right (by omega)]
    · rw [if_neg (by rw [nI_ltv hb hx]; exact h), Nat.max_eq_left (by omega)]
theorem vO_le {S p x : Nat} (h5 : S < 32) (h0 : 0 < S) (hp : p < n + 1) (hv : vO (clX f) (wP f) (pW n (clX f) (wP f)) S p = some x) : x ≤ 128 * S := by
  have h1 := (oP_s (n := n) (X := clX f) (w := wP f) h5 h0).2.2.2.2 p x hp hv
  have h2 := pW_le (n := n) (X := clX f) (wP_l f) S h5
  omega
theorem m320_23 {t : mS} {S : Nat} {K : Int32 → Int32 → mS → Option mQ} (hn : n ≤ 5) (hf : t.1 513 = f) (f0 : f 0 = nI n) (h5 : S < 32) (h0 : 0 < S) (hT : ∀ S', S' < S → t.1 522 S' = nI (pW n (clX f) (wP f) S')) : ∀ r o b k, o + r = n → r < k → b ≤ 128 * S → q320_23 K k (nI S) (nI b) (nI o) t = K (nI S) (nI (fo (fun p b => max b ((vO (clX f) (wP f) (pW n (clX f) (wP f)) S p).getD 0)) r (o + 1) b)) t := by
  intro r
  induction r with
  | zero =>
    intro o b k ho hk hb
    cases k with
    | zero => omega
    | succ k =>
      have e0 : t.1 513 0 = nI n := by rw [hf]; exact f0
      rw [fo]
      simp (disch := omega) only [q320_23, e0, nI_lit, nI_add, pk_mul, nI_clp, nI_eqv, nI_lev, nI_ltv, nI_neg, nI_neg', nI_subv, Nat.add_zero, Nat.zero_add, Nat.mul_zero, Nat.reduceAdd, bN_rv, bM_ru, bV_rv, bV_rx, bU_ru, bU_rx, bN_ite, bM_ite, bV_ite, bU_ite, ↓bx_e, ↓sp_e, gA_ok, gZ_n, gB_0, gB_1, gB_i, and_true, and_false, true_and, false_and, decide_true, decide_false, ↓reduceIte, not_true_eq_false, not_false_eq_true, Bool.false_eq_true, Bool.true_eq_false, Bool.and_true, Bool.and_false, Bool.true_and, Bool.false_and, Bool.or_true, Bool.or_false, Bool.true_or, Bool.false_or, Bool.not_true, Bool.not_false, le_f, le_t, lt_f, lt_t, eq_f, ↓reduceIte, not_true_eq_false, not_false_eq_true, ite_10, bt_0, bt_1, q198, q199, q200, q201, q202, q203, q204, m190, m205, m206, b2_0, q189, q187]
  | succ r ih =>
    intro o b k ho hk hb
    cases k with
    | zero => omega
    | succ k =>
      have e0 : t.1 513 0 = nI n := by rw [hf]; exact f0
      have e1 := m319_j (n := n) h5 h0 (show o < 5 by omega) hf hT
      have hv := fun x (h : vO (clX f) (wP f) (pW n (clX f) (wP f)) S (o + 1) = some x) => vO_le h5 h0 (show o + 1 < n + 1 by omega) h
      have e2 := vI_mx (b := b) (o := vO (clX f) (wP f) (pW n (clX f) (wP f)) S (o + 1)) (by omega) (fun x h => by have := hv x h; omega)
      have hb2 : max b ((vO (clX f) (wP f) (pW n (clX f) (wP f)) S (o + 1)).getD 0) ≤ 128 * S := by
        cases e : vO (clX f) (wP f) (pW n (clX f) (wP f)) S (o + 1) with
        | none => rw [Option.getD_none]; omega
        | some x => have := hv x e; rw [Option.getD_some]; omega
      rw [fo, ← ih (o + 1) _ k (by omega) (by omega) hb2]
      simp (disch := omega) only [q320_23, e0, e1, e2, nI_lit, nI_add, pk_mul, nI_clp, nI_eqv, nI_lev, nI_ltv, nI_neg, nI_neg', nI_subv, Nat.add_zero, Nat.zero_add, Nat.mul_zero, Nat.reduceAdd, bN_rv, bM_ru, bV_rv, bV_rx, bU_ru, bU_rx, bN_ite, bM_ite, bV_ite, bU_ite, ↓bx_e, ↓sp_e, gA_ok, gZ_n, gB_0, gB_1, gB_i, and_true, and_false, true_and, false_and, decide_true, decide_false, ↓reduceIte, not_true_eq_false, not_false_eq_true, Bool.false_eq_true, Bool.true_eq_false, Bool.and_true, Bool.and_false, Bool.true_and, Bool.false_and, Bool.or_true, Bool.or_false, Bool.true_or, Bool.false_or, Bool.not_true, Bool.not_false, le_f, le_t, lt_f, lt_t, eq_f, ↓reduceIte, not_true_eq_false, not_false_eq_true, ite_10, bt_0, bt_1, q198, q199, q200, q201, q202, q203, q204, m190, m205, m206, b2_0, q189, q187]
theorem m320_9 {t0 : mS} (hn : n ≤ 5) (hf : t0.1 513 = f) (f0 : f 0 = nI n) : ∀ r S k t, F1 522 t0 t → S + r = 2 ^ n → 0 < S → r < k → (∀ S', S' < S → t.1 522 S' = nI (pW n (clX f) (wP f) S')) → ∃ t', q320_9 k (nI S) t = ru t' ∧ F1 522 t0 t' ∧ ∀ S', S' < 2 ^ n → t'.1 522 S' = nI (pW n (clX f) (wP f) S') := by
  have h32 : 2 ^ n ≤ 32 := (by decide : ∀ n, n ≤ 5 → 2 ^ n ≤ 32) n hn
  have hs := sh_n n hn
  intro r
  induction r with
  | zero =>
    intro S k t hF hS h0 hk hT
    cases k with
    | zero => omega
    | succ k =>
      have e0 : t.1 513 0 = nI n := by rw [hF.1 513 (by omega), hf]; exact f0
      refine ⟨t, ?_, hF, fun S' h => hT S' (by omega)⟩
      simp (disch := omega) only [q320_9, e0, hs, nI_lit, nI_add, pk_mul, nI_clp, nI_eqv, nI_lev, nI_ltv, nI_neg, nI_neg', nI_subv, Nat.add_zero, Nat.zero_add, Nat.mul_zero, Nat.reduceAdd, bN_rv, bM_ru, bV_rv, bV_rx, bU_ru, bU_rx, bN_ite, bM_ite, bV_ite, bU_ite, ↓bx_e, ↓sp_e, gA_ok, gZ_n, gB_0, gB_1, gB_i, and_true, and_false, true_and, false_and, decide_true, decide_false, ↓reduceIte, not_true_eq_false, not_false_eq_true, Bool.false_eq_true, Bool.true_eq_false, Bool.and_true, Bool.and_false, Bool.true_and, Bool.false_and, Bool.or_true, Bool.or_false, Bool.true_or, Bool.false_or, Bool.not_true, Bool.not_false, le_f, le_t, lt_f, lt_t, eq_f, ↓reduceIte, not_true_eq_false, not_false_eq_true, ite_10, bt_0, bt_1, q198, q199, q200, q201, q202, q203, q204, m190, m205, m206, b2_0, q189, q187]
  | succ r ih =>
    intro S k t hF hS h0 hk hT
    cases k with
    | zero => omega
    | succ k =>
      have e5 : t.1 513 = f := by rw [hF.1 513 (by omega), hf]
      have e0 : t.1 513 0 = nI n := by rw [e5]; exact f0
      have k1 := m319_n (n := n) (show S < 32 by omega) h0 hT
      have hv := fun x (h : vO (clX f) (wP f) (pW n (clX f) (wP f)) S 0 = some x) => vO_le (show S < 32 by omega) h0 (show 0 < n + 1 by omega) h
      have e2 := vI_mx (b := 0) (o := vO (clX f) (wP f) (pW n (clX f) (wP f)) S 0) (by omega) (fun x h => by have := hv x h; omega)
      have hb2 : max 0 ((vO (clX f) (wP f) (pW n (clX f) (wP f)) S 0).getD 0) ≤ 128 * S := by
        have := hv _ rfl
        rw [Nat.zero_max]
        exact this
      have k2 := m320_23 (K := q320_48 (q320_9 k)) hn e5 f0 (show S < 32 by omega) h0 hT n 0 _ 9999 (by omega) (by omega) hb2
      have hw := pW_s (n := n) (X := clX f) (w := wP f) (show S < 32 by omega) h0
      rw [fo] at hw
      rw [← hw] at k2
      obtain ⟨t', a1, a2, a3⟩ := ih (S + 1) k (sI t 522 S (nI (pW n (clX f) (wP f) S))) (F1_J hF _ _) (by omega) (by omega) (by omega) (fun S' h => by
        rw [sI_sm]
        by_cases e : S' = S
        · subst e; rw [ud_e rfl]
        · rw [ud_n e]; exact hT S' (by omega))
      refine ⟨t', ?_, a2, a3⟩
      have g0 : ∀ N, q320_23 (q320_48 (q320_9 k)) (N + 1) (nI S) (nI 0) (-nI 1) t = q320_23 (q320_48 (q320_9 k)) N (nI S) (nI (max 0 ((vO (clX f) (wP f) (pW n (clX f) (wP f)) S 0).getD 0))) (nI 0) t := fun N => by
        have hl : (nI n ≤ -nI 1) = False := by
          have h1 : (-nI 1 : Int32).toInt = -1 := by decide
          rw [Int32.le_iff_toInt_le, nI_toInt (by omega), h1]
          exact eq_false (by omega)
        have hp : (-nI 1 + nI 1 : Int32) = nI 0 := by decide
        simp (disch := omega) only [q320_23, e0, k1, e2, hl, hp, nI_lit, nI_add, pk_mul, nI_clp, nI_eqv, nI_lev, nI_ltv, nI_neg, nI_neg', nI_subv, Nat.add_zero, Nat.zero_add, Nat.mul_zero, Nat.reduceAdd, bN_rv, bM_ru, bV_rv, bV_rx, bU_ru, bU_rx, bN_ite, bM_ite, bV_ite, bU_ite, ↓bx_e, ↓sp_e, gA_ok, gZ_n, gB_0, gB_1, gB_i, and_true, and_false, true_and, false_and, decide_true, decide_false, ↓reduceIte, not_true_eq_false, not_false_eq_true, Bool.false_eq_true, Bool.true_eq_false, Bool.and_true, Bool.and_false, Bool.true_and, Bool.false_and, Bool.or_true, Bool.or_false, Bool.true_or, Bool.false_or, Bool.not_true, Bool.not_false, le_f, le_t, lt_f, lt_t, eq_f, ↓reduceIte, not_true_eq_false, not_false_eq_true, ite_10, bt_0, bt_1, q198, q199, q200, q201, q202, q203, q204, m190, m205, m206, b2_0, q189, q187]
      have g1 : q320_23 (q320_48 (q320_9 k)) 10000 (nI S) (nI 0) (-nI 1) t = _ := g0 9999
      rw [← a1]
      simp (disch := omega) only [q320_9, e0, hs, g1, k2, q320_48, nI_lit, nI_add, pk_mul, nI_clp, nI_eqv, nI_lev, nI_ltv, nI_neg, nI_neg', nI_subv, Nat.add_zero, Nat.zero_add, Nat.mul_zero, Nat.reduceAdd, bN_rv, bM_ru, bV_rv, bV_rx, bU_ru, bU_rx, bN_ite, bM_ite, bV_ite, bU_ite, ↓bx_e, ↓sp_e, gA_ok, gZ_n, gB_0, gB_1, gB_i, and_true, and_false, true_and, false_and, decide_true, decide_false, ↓reduceIte, not_true_eq_false, not_false_eq_true, Bool.false_eq_true, Bool.true_eq_false, Bool.and_true, Bool.and_false, Bool.true_and, Bool.false_and, Bool.or_true, Bool.or_false, Bool.true_or, Bool.false_or, Bool.not_true, Bool.not_false, le_f, le_t, lt_f, lt_t, eq_f, ↓reduceIte, not_true_eq_false, not_false_eq_true, ite_10, bt_0, bt_1, q198, q199, q200, q201, q202, q203, q204, m190, m205, m206, b2_0, q189, q187]
theorem m320 {t : mS} (hn : n ≤ 5) (hf : t.1 513 = f) (f0 : f 0 = nI n) : ∃ t', q320 t = ru t' ∧ F1 522 t t' ∧ ∀ S', S' < 2 ^ n → t'.1 522 S' = nI (pW n (clX f) (wP f) S') := by
  have h1 : 1 ≤ 2 ^ n := Nat.one_le_two_pow
  have h32 : 2 ^ n ≤ 32 := (by decide : ∀ n, n ≤ 5 → 2 ^ n ≤ 32) n hn
  have h0 : (nI 0).toNatClampNeg = 0 := nI_clp (by omega)
  obtain ⟨t', a1, a2, a3⟩ := m320_9 (t0 := sI t 522 0 (nI 0)) hn (by rw [sI_fn (by omega)]; exact hf) f0 (2 ^ n - 1) 1 10000 (sI t 522 0 (nI 0)) F1_r (by omega) (by omega) (by omega) (fun S' h => by
    have : S' = 0 := by omega
    subst this
    rw [sI_sm, ud_e rfl, pW_0])
  refine ⟨t', ?_, F1_t F1_I a2, a3⟩
  unfold q320
  simp (disch := omega) only [h0, nI_lit, nI_add, pk_mul, nI_clp, nI_eqv, nI_lev, nI_ltv, nI_neg, nI_neg', nI_subv, Nat.add_zero, Nat.zero_add, Nat.mul_zero, Nat.reduceAdd, bN_rv, bM_ru, bV_rv, bV_rx, bU_ru, bU_rx, bN_ite, bM_ite, bV_ite, bU_ite, ↓bx_e, ↓sp_e, gA_ok, gZ_n, gB_0, gB_1, gB_i, and_true, and_false, true_and, false_and, decide_true, decide_false, ↓reduceIte, not_true_eq_false, not_false_eq_true, Bool.false_eq_true, Bool.true_eq_false, Bool.and_true, Bool.and_false, Bool.true_and, Bool.false_and, Bool.or_true, Bool.or_false, Bool.true_or, Bool.false_or, Bool.not_true, Bool.not_false, le_f, le_t, lt_f, lt_t, eq_f, ↓reduceIte, not_true_eq_false, not_false_eq_true, ite_10, bt_0, bt_1]
  exact a1
/-- the first choice that is worth the most is found -/
theorem m321_77 {t : mS} {S : Nat} {v1 v5 : Int32} {K : Int32 → Int32 → Int32 → Int32 → mS → Option mQ} (hn : n ≤ 5) (hf : t.1 513 = f) (h5 : S < 32) (h0 : 0 < S) (hT : ∀ S', S' ≤ S → t.1 522 S' = nI (pW n (clX f) (wP f) S')) : ∀ r o k, o + 1 + r = oP n (clX f) (wP f) S → r < k → q321_77 K k v1 (nI S) v5 (nI o) t = K v1 (nI S) v5 (nI (oP n (clX f) (wP f) S - 1)) t := by
  obtain ⟨-, g1, g2, g3, g4⟩ := oP_s (n := n) (X := clX f) (w := wP f) h5 h0
  have hw := pW_le (n := n) (X := clX f) (wP_l f) S h5
  have eS := hT S (Nat.le_refl _)
  intro r
  induction r with
  | zero =>
    intro o k ho hk
    cases k with
    | zero => omega
    | succ k =>
      have k1 := m319_j (n := n) h5 h0 (show o < 5 by omega) hf (fun S' h => hT S' (by omega))
      rw [show o + 1 = oP n (clX f) (wP f) S by omega, g2] at k1
      have k2 : vI (some (pW n (clX f) (wP f) S)) = nI (pW n (clX f) (wP f) S) := rfl
      rw [show oP n (clX f) (wP f) S - 1 = o by omega]
      simp (disch := omega) only [q321_77, k1, k2, eS, nI_lit, nI_add, pk_mul, nI_clp, nI_eqv, nI_lev, nI_ltv, nI_neg, nI_neg', nI_subv, Nat.add_zero, Nat.zero_add, Nat.mul_zero, Nat.reduceAdd, bN_rv, bM_ru, bV_rv, bV_rx, bU_ru, bU_rx, bN_ite, bM_ite, bV_ite, bU_ite, ↓bx_e, ↓sp_e, gA_ok, gZ_n, gB_0, gB_1, gB_i, and_true, and_false, true_and, false_and, decide_true, decide_false, ↓reduceIte, not_true_eq_false, not_false_eq_true, Bool.false_eq_true, Bool.true_eq_false, Bool.and_true, Bool.and_false, Bool.true_and, Bool.false_and, Bool.or_true, Bool.or_false, Bool.true_or, Bool.false_or, Bool.not_true, Bool.not_false, le_f, le_t, lt_f, lt_t, eq_f, ↓reduceIte, not_true_eq_false, not_false_eq_true, ite_10, bt_0, bt_1]
  | succ r ih =>
    intro o k ho hk
    cases k with
    | zero => omega
    | succ k =>
      have k1 := m319_j (n := n) h5 h0 (show o < 5 by omega) hf (fun S' h => hT S' (by omega))
      have hne := g3 (o + 1) (by omega)
      have k2 : (vI (vO (clX f) (wP f) (pW n (clX f) (wP f)) S (o + 1)) = nI (pW n (clX f) (wP f) S)) = False := by
        apply eq_false
        cases e : vO (clX f) (wP f) (pW n (clX f) (wP f)) S (o + 1) with
        | none => exact fun h => by have : (-nI 1 = nI (pW n (clX f) (wP f) S)) := h; rw [nI_neg' (by omega)] at this; exact this
        | some x =>
          have hx := g4 (o + 1) x (by omega) e
          intro h
          have h : nI x = nI (pW n (clX f) (wP f) S) := h
          rw [nI_eqv (by omega) (by omega)] at h
          exact hne (by rw [e, h])
      rw [← ih (o + 1) k (by omega) (by omega)]
      simp (disch := omega) only [q321_77, k1, k2, eS, nI_lit, nI_add, pk_mul, nI_clp, nI_eqv, nI_lev, nI_ltv, nI_neg, nI_neg', nI_subv, Nat.add_zero, Nat.zero_add, Nat.mul_zero, Nat.reduceAdd, bN_rv, bM_ru, bV_rv, bV_rx, bU_ru, bU_rx, bN_ite, bM_ite, bV_ite, bU_ite, ↓bx_e, ↓sp_e, gA_ok, gZ_n, gB_0, gB_1, gB_i, and_true, and_false, true_and, false_and, decide_true, decide_false, ↓reduceIte, not_true_eq_false, not_false_eq_true, Bool.false_eq_true, Bool.true_eq_false, Bool.and_true, Bool.and_false, Bool.true_and, Bool.false_and, Bool.or_true, Bool.or_false, Bool.true_or, Bool.false_or, Bool.not_true, Bool.not_false, le_f, le_t, lt_f, lt_t, eq_f, ↓reduceIte, not_true_eq_false, not_false_eq_true, ite_10, bt_0, bt_1]
/-- with whom one is paired -/
theorem m321_63 {t : mS} {c : Nat} (hn : n ≤ 5) (hf : t.1 513 = f) (hc : c < 5) (hT : ∀ S', S' < 2 ^ n → t.1 522 S' = nI (pW n (clX f) (wP f) S')) : ∀ m S k A v3, S ≤ m → S < 2 ^ n → m + 1 < k → S.testBit c = true → A c = -nI 1 → q321_63 k (nI c) (nI S) v3 (nI 0) t = rv (mP n (clX f) (wP f) S A c) t := by
  have h32 : 2 ^ n ≤ 32 := (by decide : ∀ n, n ≤ 5 → 2 ^ n ≤ 32) n hn
  intro m
  induction m with
  | zero =>
    intro S k A v3 hm hS hk hb hA
    have : S = 0 := by omega
    subst this
    rw [Nat.zero_testBit] at hb; cases hb
  | succ m ih =>
    intro S k A v3 hm hS hk hb hA
    have h0 : 0 < S := by
      rcases Nat.eq_zero_or_pos S with e | e
      · rw [e, Nat.zero_testBit] at hb; cases hb
      · exact e
    have h5 : S < 32 := by omega
    obtain ⟨l1, l2, l3⟩ := lo_b S h5 h0
    obtain ⟨-, g1, g2, g3, g4⟩ := oP_s (n := n) (X := clX f) (w := wP f) h5 h0
    have hw := pW_le (n := n) (X := clX f) (wP_l f) S h5
    have eS := hT S hS
    have e0 := lo_z S h5 h0
    have c1 := cl_e S h5 _ l2
    have b1 := clB_b S h5 (loB S) l2 c hc
    rw [hb, Bool.true_and] at b1
    obtain ⟨k, rfl⟩ : ∃ k', k = k' + 1 + 1 := ⟨k - 2, by omega⟩
    rw [mP_s h5 h0]
    cases eo : oP n (clX f) (wP f) S with
    | zero =>
      rw [eo] at g2
      have k1 := m319_n (n := n) h5 h0 (fun S' h => hT S' (by omega))
      have k2 : vI (some (pW n (clX f) (wP f) S)) = nI (pW n (clX f) (wP f) S) := rfl
      rw [g2, k2] at k1
      have k78 : ∀ K N, q321_77 K (N + 1) (nI c) (nI S) (nI (loB S)) (-nI 1) t = K (nI c) (nI S) (nI (loB S)) (-nI 1) t := fun K N => by
        simp (disch := omega) only [q321_77, k1, eS, nI_lit, nI_add, pk_mul, nI_clp, nI_eqv, nI_lev, nI_ltv, nI_neg, nI_neg', nI_subv, Nat.add_zero, Nat.zero_add, Nat.mul_zero, Nat.reduceAdd, bN_rv, bM_ru, bV_rv, bV_rx, bU_ru, bU_rx, bN_ite, bM_ite, bV_ite, bU_ite, ↓bx_e, ↓sp_e, gA_ok, gZ_n, gB_0, gB_1, gB_i, and_true, and_false, true_and, false_and, decide_true, decide_false, ↓reduceIte, not_true_eq_false, not_false_eq_true, Bool.false_eq_true, Bool.true_eq_false, Bool.and_true, Bool.and_false, Bool.true_and, Bool.false_and, Bool.or_true, Bool.or_false, Bool.true_or, Bool.false_or, Bool.not_true, Bool.not_false, le_f, le_t, lt_f, lt_t, eq_f, ↓reduceIte, not_true_eq_false, not_false_eq_true, ite_10, bt_0, bt_1]
      have k77 : ∀ K, q321_77 K 10000 (nI c) (nI S) (nI (loB S)) (-nI 1) t = K (nI c) (nI S) (nI (loB S)) (-nI 1) t := fun K => k78 K 9999
      show _ = rv (mP n (clX f) (wP f) (clB S (loB S)) A c) t
      by_cases e : loB S = c
      · rw [decide_eq_true e.symm, Bool.not_true] at b1
        rw [mP_n _ _ A c (Nat.le_refl _) (by omega) hc hn b1, hA]
        subst e
        simp (disch := omega) only [q321_63, q269, q342_e, e0, k77, q321_99, q321_111, q321_116, q321_131, q321_159, c1, nI_lit, nI_add, pk_mul, nI_clp, nI_eqv, nI_lev, nI_ltv, nI_neg, nI_neg', nI_subv, Nat.add_zero, Nat.zero_add, Nat.mul_zero, Nat.reduceAdd, bN_rv, bM_ru, bV_rv, bV_rx, bU_ru, bU_rx, bN_ite, bM_ite, bV_ite, bU_ite, ↓bx_e, ↓sp_e, gA_ok, gZ_n, gB_0, gB_1, gB_i, and_true, and_false, true_and, false_and, decide_true, decide_false, ↓reduceIte, not_true_eq_false, not_false_eq_true, Bool.false_eq_true, Bool.true_eq_false, Bool.and_true, Bool.and_false, Bool.true_and, Bool.false_and, Bool.or_true, Bool.or_false, Bool.true_or, Bool.false_or, Bool.not_true, Bool.not_false, le_f, le_t, lt_f, lt_t, eq_f, ↓reduceIte, not_true_eq_false, not_false_eq_true, ite_10, bt_0, bt_1]
      · have e' : c ≠ loB S := fun q => e q.symm
        rw [decide_eq_false e', Bool.not_false] at b1
        rw [← ih (clB S (loB S)) (k + 1) A (nI (loB S)) (by omega) (by omega) (by omega) b1 hA]
        simp (disch := omega) only [q321_63, q269, q342_e, e0, k77, q321_99, q321_111, q321_116, q321_131, q321_159, e, c1, nI_lit, nI_add, pk_mul, nI_clp, nI_eqv, nI_lev, nI_ltv, nI_neg, nI_neg', nI_subv, Nat.add_zero, Nat.zero_add, Nat.mul_zero, Nat.reduceAdd, bN_rv, bM_ru, bV_rv, bV_rx, bU_ru, bU_rx, bN_ite, bM_ite, bV_ite, bU_ite, ↓bx_e, ↓sp_e, gA_ok, gZ_n, gB_0, gB_1, gB_i, and_true, and_false, true_and, false_and, decide_true, decide_false, ↓reduceIte, not_true_eq_false, not_false_eq_true, Bool.false_eq_true, Bool.true_eq_false, Bool.and_true, Bool.and_false, Bool.true_and, Bool.false_and, Bool.or_true, Bool.or_false, Bool.true_or, Bool.false_or, Bool.not_true, Bool.not_false, le_f, le_t, lt_f, lt_t, eq_f, ↓reduceIte, not_true_eq_false, not_false_eq_true, ite_10, bt_0, bt_1]
    | succ j =>
      rw [eo] at g1 g2
      have hj5 : j < 5 := by omega
      have hj : (clB S (loB S)).testBit j = true := by
        unfold vO at g2
        simp only at g2
        split at g2
        · rename_i q; exact q.1
        · cases g2
      have c2 := cl_e (clB S (loB S)) (by omega) j hj5
      have c3 := clB_le (clB S (loB S)) j
      have b2 := clB_b (clB S (loB S)) (by omega) j hj5 c hc
      rw [b1] at b2
      have bj := clB_b S h5 (loB S) l2 j hj5
      have hjl : j ≠ loB S := fun q => by
        rw [hj, decide_eq_true q, Bool.not_true, Bool.and_false] at bj; cases bj
      have k0 := m319_n (n := n) h5 h0 (fun S' h => hT S' (by omega))
      have hne0 := g3 0 (by omega)
      have hv0 := g4 0 _ (by omega) (show vO (clX f) (wP f) (pW n (clX f) (wP f)) S 0 = some (pW n (clX f) (wP f) (clB S (loB S))) from rfl)
      have hx0 : (vI (vO (clX f) (wP f) (pW n (clX f) (wP f)) S 0) = nI (pW n (clX f) (wP f) S)) = False := by
        apply eq_false
        intro h
        have h : nI (pW n (clX f) (wP f) (clB S (loB S))) = nI (pW n (clX f) (wP f) S) := h
        rw [nI_eqv (by omega) (by omega)] at h
        exact hne0 (by rw [← h]; rfl)
      have hp : (-nI 1 + nI 1 : Int32) = nI 0 := by decide
      have k77 : ∀ K, q321_77 K 10000 (nI c) (nI S) (nI (loB S)) (-nI 1) t = K (nI c) (nI S) (nI (loB S)) (nI j) t := fun K => by
        have := m321_77 (v1 := nI c) (v5 := nI (loB S)) (K := K) hn hf h5 h0 (fun S' h => hT S' (by omega)) j 0 9999 (by omega) (by omega)
        rw [eo, Nat.add_sub_cancel] at this
        have k78 : ∀ N, q321_77 K (N + 1) (nI c) (nI S) (nI (loB S)) (-nI 1) t = q321_77 K N (nI c) (nI S) (nI (loB S)) (nI 0) t := fun N => by
          simp (disch := omega) only [q321_77, k0, hx0, eS, hp, nI_lit, nI_add, pk_mul, nI_clp, nI_eqv, nI_lev, nI_ltv, nI_neg, nI_neg', nI_subv, Nat.add_zero, Nat.zero_add, Nat.mul_zero, Nat.reduceAdd, bN_rv, bM_ru, bV_rv, bV_rx, bU_ru, bU_rx, bN_ite, bM_ite, bV_ite, bU_ite, ↓bx_e, ↓sp_e, gA_ok, gZ_n, gB_0, gB_1, gB_i, and_true, and_false, true_and, false_and, decide_true, decide_false, ↓reduceIte, not_true_eq_false, not_false_eq_true, Bool.false_eq_true, Bool.true_eq_false, Bool.and_true, Bool.and_false, Bool.true_and, Bool.false_and, Bool.or_true, Bool.or_false, Bool.true_or, Bool.false_or, Bool.not_true, Bool.not_false, le_f, le_t, lt_f, lt_t, eq_f, ↓reduceIte, not_true_eq_false, not_false_eq_true, ite_10, bt_0, bt_1]
        exact (k78 9999).trans this
      show _ = rv (mP n (clX f) (wP f) (clB (clB S (loB S)) j) (upB A (loB S) j) c) t
      by_cases e : loB S = c
      · rw [decide_eq_true e.symm, Bool.not_true, Bool.false_and] at b2
        rw [mP_n _ _ _ c (Nat.le_refl _) (by omega) hc hn b2]
        have hu : upB A (loB S) j c = nI j := if_pos e.symm
        rw [hu]
        subst e
        simp (disch := omega) only [q321_63, q269, q342_e, e0, k77, q321_99, q321_111, q321_116, q321_131, q321_159, c1, c2, nI_lit, nI_add, pk_mul, nI_clp, nI_eqv, nI_lev, nI_ltv, nI_neg, nI_neg', nI_subv, Nat.add_zero, Nat.zero_add, Nat.mul_zero, Nat.reduceAdd, bN_rv, bM_ru, bV_rv, bV_rx, bU_ru, bU_rx, bN_ite, bM_ite, bV_ite, bU_ite, ↓bx_e, ↓sp_e, gA_ok, gZ_n, gB_0, gB_1, gB_i, and_true, and_false, true_and, false_and, decide_true, decide_false, ↓reduceIte, not_true_eq_false, not_false_eq_true, Bool.false_eq_true, Bool.true_eq_false, Bool.and_true, Bool.and_false, Bool.true_and, Bool.false_and, Bool.or_true, Bool.or_false, Bool.true_or, Bool.false_or, Bool.not_true, Bool.not_false, le_f, le_t, lt_f, lt_t, eq_f, ↓reduceIte, not_true_eq_false, not_false_eq_true, ite_10, bt_0, bt_1]
      · have e' : c ≠ loB S := fun q => e q.symm
        by_cases ej : j = c
        · rw [decide_eq_true ej.symm, Bool.not_true, Bool.and_false] at b2
          rw [mP_n _ _ _ c (Nat.le_refl _) (by omega) hc hn b2]
          have hu : upB A (loB S) j c = nI (loB S) := by unfold upB; rw [if_neg e', if_pos ej.symm]
          rw [hu]
          subst ej
          simp (disch := omega) only [q321_63, q269, q342_e, e0, k77, q321_99, q321_111, q321_116, q321_131, q321_159, e, c1, c2, nI_lit, nI_add, pk_mul, nI_clp, nI_eqv, nI_lev, nI_ltv, nI_neg, nI_neg', nI_subv, Nat.add_zero, Nat.zero_add, Nat.mul_zero, Nat.reduceAdd, bN_rv, bM_ru, bV_rv, bV_rx, bU_ru, bU_rx, bN_ite, bM_ite, bV_ite, bU_ite, ↓bx_e, ↓sp_e, gA_ok, gZ_n, gB_0, gB_1, gB_i, and_true, and_false, true_and, false_and, decide_true, decide_false, ↓reduceIte, not_true_eq_false, not_false_eq_true, Bool.false_eq_true, Bool.true_eq_false, Bool.and_true, Bool.and_false, Bool.true_and, Bool.false_and, Bool.or_true, Bool.or_false, Bool.true_or, Bool.false_or, Bool.not_true, Bool.not_false, le_f, le_t, lt_f, lt_t, eq_f, ↓reduceIte, not_true_eq_false, not_false_eq_true, ite_10, bt_0, bt_1]
        · have ej' : c ≠ j := fun q => ej q.symm
          rw [decide_eq_false e', decide_eq_false ej', Bool.not_false, Bool.and_true] at b2
          have hu : upB A (loB S) j c = -nI 1 := by unfold upB; rw [if_neg e', if_neg ej']; exact hA
          rw [← ih (clB (clB S (loB S)) j) (k + 1) (upB A (loB S) j) (nI (loB S)) (by omega) (by omega) (by omega) b2 hu]
          simp (disch := omega) only [q321_63, q269, q342_e, e0, k77, q321_99, q321_111, q321_116, q321_131, q321_159, e, ej, c1, c2, nI_lit, nI_add, pk_mul, nI_clp, nI_eqv, nI_lev, nI_ltv, nI_neg, nI_neg', nI_subv, Nat.add_zero, Nat.zero_add, Nat.mul_zero, Nat.reduceAdd, bN_rv, bM_ru, bV_rv, bV_rx, bU_ru, bU_rx, bN_ite, bM_ite, bV_ite, bU_ite, ↓bx_e, ↓sp_e, gA_ok, gZ_n, gB_0, gB_1, gB_i, and_true, and_false, true_and, false_and, decide_true, decide_false, ↓reduceIte, not_true_eq_false, not_false_eq_true, Bool.false_eq_true, Bool.true_eq_false, Bool.and_true, Bool.and_false, Bool.true_and, Bool.false_and, Bool.or_true, Bool.or_false, Bool.true_or, Bool.false_or, Bool.not_true, Bool.not_false, le_f, le_t, lt_f, lt_t, eq_f, ↓reduceIte, not_true_eq_false, not_false_eq_true, ite_10, bt_0, bt_1]
end PT
