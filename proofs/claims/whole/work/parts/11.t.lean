/-! ROUNDS, THE REFERENCE -/
section RND
variable {f : Nat → Int32} {n L : Nat}
theorem m307_16 {t0 : mS} {K : Int32 → Int32 → Int32 → mS → Option mQ} {w : Int32} {code : Nat} (hn : n ≤ 5) (hc : code < 5 ^ n) : ∀ i k t, F1 521 t0 t → i ≤ n → i < k → (∀ j, i ≤ j → j < n → t.1 521 j = nI (dgR n code j)) → ∃ t', q307_16 K k w (nI (code / 5 ^ (n - i))) (nI 0) (nI 1) (nI i - nI 1) t = K w (nI 0) (nI 1) t' ∧ F1 521 t0 t' ∧ ∀ j, j < n → t'.1 521 j = nI (dgR n code j) := by
  have h5 : 5 ^ n ≤ 3125 := Nat.pow_le_pow_right (n := 5) (by omega) hn
  intro i
  induction i with
  | zero =>
    intro k t hF hi hk hj
    cases k with
    | zero => omega
    | succ k =>
      refine ⟨t, ?_, hF, fun j h => hj j (by omega) h⟩
      rw [q307_16, if_pos (by decide)]
  | succ i ih =>
    intro k t hF hi hk hj
    cases k with
    | zero => omega
    | succ k =>
      have hd : code / 5 ^ (n - (i + 1)) ≤ code := Nat.div_le_self _ _
      obtain ⟨t', a1, a2, a3⟩ := ih k (sI t 521 i (nI (dgR n code i))) (F1_J hF _ _) (by omega) (by omega) (fun j h1 h2 => by
        rw [sI_sm]
        by_cases e : j = i
        · subst e; rw [ud_e rfl]
        · rw [ud_n e]; exact hj j (by omega) h2)
      refine ⟨t', ?_, a2, a3⟩
      rw [← a1]
      have e1 : nI (i + 1) - nI 1 = nI i := by rw [nI_subv (by omega)]; rfl
      have e2 : nI i + -nI 1 = nI i - nI 1 := (Int32.sub_eq_add_neg _ _).symm
      have e3 : code / 5 ^ (n - (i + 1)) % 5 = dgR n code i := by unfold dgR; rw [show n - 1 - i = n - (i + 1) by omega]
      have e4 : code / 5 ^ (n - (i + 1)) / 5 = code / 5 ^ (n - i) := by rw [Nat.div_div_eq_div_mul, ← Nat.pow_succ, show (n - (i + 1)).succ = n - i by omega]
      rw [e1]
      generalize hx : code / 5 ^ (n - (i + 1)) = x at *
      simp (disch := omega) only [q307_16, nI_rem, nI_quo, e3, e4, e2, nI_lit, nI_add, pk_mul, nI_clp, nI_eqv, nI_lev, nI_ltv, nI_neg, nI_neg', nI_subv, Nat.add_zero, Nat.zero_add, Nat.mul_zero, Nat.reduceAdd, bN_rv, bM_ru, bV_rv, bV_rx, bU_ru, bU_rx, bN_ite, bM_ite, bV_ite, bU_ite, ↓bx_e, ↓sp_e, gA_ok, gZ_n, gB_0, gB_1, gB_i, and_true, and_false, true_and, false_and, decide_true, decide_false, ↓reduceIte, not_true_eq_false, not_false_eq_true, Bool.false_eq_true, Bool.true_eq_false, Bool.and_true, Bool.and_false, Bool.true_and, Bool.false_and, Bool.or_true, Bool.or_false, Bool.true_or, Bool.false_or, Bool.not_true, Bool.not_false, le_f, le_t, lt_f, lt_t, eq_f, ↓reduceIte, not_true_eq_false, not_false_eq_true, ite_10, bt_0, bt_1]
theorem m307_107 {t : mS} {K : Int32 → Int32 → Int32 → Int32 → mS → Option mQ} {w x : Int32} {d : Nat → Nat} {i : Nat} (hi : i < 5) (ht : t.1 513 = f) (hd : ∀ j, j ≤ i → t.1 521 j = nI (d j) ∧ d j < 5) : ∀ r j k, j + r = i → r < k → q307_107 K k w x (nI 1) (nI i) (nI j) t = K w x (b2 (al (fun j => !(decide (d j = d i) && clX f j i)) r j)) (nI i) t := by
  intro r
  induction r with
  | zero =>
    intro j k hj hk
    cases k with
    | zero => omega
    | succ k =>
      have : j = i := by omega
      subst this
      rw [al, b2_t]
      simp (disch := omega) only [q307_107, nI_lit, nI_add, pk_mul, nI_clp, nI_eqv, nI_lev, nI_ltv, nI_neg, nI_neg', nI_subv, Nat.add_zero, Nat.zero_add, Nat.mul_zero, Nat.reduceAdd, bN_rv, bM_ru, bV_rv, bV_rx, bU_ru, bU_rx, bN_ite, bM_ite, bV_ite, bU_ite, ↓bx_e, ↓sp_e, gA_ok, gZ_n, gB_0, gB_1, gB_i, and_true, and_false, true_and, false_and, decide_true, decide_false, ↓reduceIte, not_true_eq_false, not_false_eq_true, Bool.false_eq_true, Bool.true_eq_false, Bool.and_true, Bool.and_false, Bool.true_and, Bool.false_and, Bool.or_true, Bool.or_false, Bool.true_or, Bool.false_or, Bool.not_true, Bool.not_false, le_f, le_t, lt_f, lt_t, eq_f, ↓reduceIte, not_true_eq_false, not_false_eq_true, ite_10, bt_0, bt_1]
  | succ r ih =>
    intro j k hj hk
    cases k with
    | zero => omega
    | succ k =>
      obtain ⟨d1, d2⟩ := hd j (by omega)
      obtain ⟨d3, d4⟩ := hd i (by omega)
      have k2 := m302 (t := t) (c := j) (d := i) (by omega) (by omega)
      rw [ht] at k2
      have h2 := ih (j + 1) k (by omega) (by omega)
      have z : ∀ k, 0 < k → q307_107 K k w x (nI 0) (nI i) (nI (j + 1)) t = K w x (nI 0) (nI i) t := fun k hk => by
        cases k with
        | zero => omega
        | succ k =>
          rw [q307_107]
          by_cases e : i ≤ j + 1
          · simp (disch := omega) only [nI_lit, nI_add, pk_mul, nI_clp, nI_eqv, nI_lev, nI_ltv, nI_neg, nI_neg', nI_subv, Nat.add_zero, Nat.zero_add, Nat.mul_zero, Nat.reduceAdd, bN_rv, bM_ru, bV_rv, bV_rx, bU_ru, bU_rx, bN_ite, bM_ite, bV_ite, bU_ite, ↓bx_e, ↓sp_e, gA_ok, gZ_n, gB_0, gB_1, gB_i, and_true, and_false, true_and, false_and, decide_true, decide_false, ↓reduceIte, not_true_eq_false, not_false_eq_true, Bool.false_eq_true, Bool.true_eq_false, Bool.and_true, Bool.and_false, Bool.true_and, Bool.false_and, Bool.or_true, Bool.or_false, Bool.true_or, Bool.false_or, Bool.not_true, Bool.not_false, le_f, le_t, lt_f, lt_t, eq_f, ↓reduceIte, not_true_eq_false, not_false_eq_true, ite_10, bt_0, bt_1]
          · simp (disch := omega) only [nI_lit, nI_add, pk_mul, nI_clp, nI_eqv, nI_lev, nI_ltv, nI_neg, nI_neg', nI_subv, Nat.add_zero, Nat.zero_add, Nat.mul_zero, Nat.reduceAdd, bN_rv, bM_ru, bV_rv, bV_rx, bU_ru, bU_rx, bN_ite, bM_ite, bV_ite, bU_ite, ↓bx_e, ↓sp_e, gA_ok, gZ_n, gB_0, gB_1, gB_i, and_true, and_false, true_and, false_and, decide_true, decide_false, ↓reduceIte, not_true_eq_false, not_false_eq_true, Bool.false_eq_true, Bool.true_eq_false, Bool.and_true, Bool.and_false, Bool.true_and, Bool.false_and, Bool.or_true, Bool.or_false, Bool.true_or, Bool.false_or, Bool.not_true, Bool.not_false, le_f, le_t, lt_f, lt_t, eq_f, ↓reduceIte, not_true_eq_false, not_false_eq_true, ite_10, bt_0, bt_1]
      rw [al]
      by_cases e : d j = d i
      · cases ex : clX f j i with
        | false =>
          rw [ex] at k2
          simp (disch := omega) only [q307_107, q307_147, q307_152, d1, d3, k2, b2_f, e, h2, ex, nI_lit, nI_add, pk_mul, nI_clp, nI_eqv, nI_lev, nI_ltv, nI_neg, nI_neg', nI_subv, Nat.add_zero, Nat.zero_add, Nat.mul_zero, Nat.reduceAdd, bN_rv, bM_ru, bV_rv, bV_rx, bU_ru, bU_rx, bN_ite, bM_ite, bV_ite, bU_ite, ↓bx_e, ↓sp_e, gA_ok, gZ_n, gB_0, gB_1, gB_i, and_true, and_false, true_and, false_and, decide_true, decide_false, ↓reduceIte, not_true_eq_false, not_false_eq_true, Bool.false_eq_true, Bool.true_eq_false, Bool.and_true, Bool.and_false, Bool.true_and, Bool.false_and, Bool.or_true, Bool.or_false, Bool.true_or, Bool.false_or, Bool.not_true, Bool.not_false, le_f, le_t, lt_f, lt_t, eq_f, ↓reduceIte, not_true_eq_false, not_false_eq_true, ite_10, bt_0, bt_1]
        | true =>
          rw [ex] at k2
          have zk := z k (by omega)
          simp (disch := omega) only [q307_107, q307_147, q307_152, d1, d3, k2, b2_t, b2_f, e, zk, ex, nI_lit, nI_add, pk_mul, nI_clp, nI_eqv, nI_lev, nI_ltv, nI_neg, nI_neg', nI_subv, Nat.add_zero, Nat.zero_add, Nat.mul_zero, Nat.reduceAdd, bN_rv, bM_ru, bV_rv, bV_rx, bU_ru, bU_rx, bN_ite, bM_ite, bV_ite, bU_ite, ↓bx_e, ↓sp_e, gA_ok, gZ_n, gB_0, gB_1, gB_i, and_true, and_false, true_and, false_and, decide_true, decide_false, ↓reduceIte, not_true_eq_false, not_false_eq_true, Bool.false_eq_true, Bool.true_eq_false, Bool.and_true, Bool.and_false, Bool.true_and, Bool.false_and, Bool.or_true, Bool.or_false, Bool.true_or, Bool.false_or, Bool.not_true, Bool.not_false, le_f, le_t, lt_f, lt_t, eq_f, ↓reduceIte, not_true_eq_false, not_false_eq_true, ite_10, bt_0, bt_1]
      · simp (disch := omega) only [q307_107, q307_147, q307_152, d1, d3, e, h2, nI_lit, nI_add, pk_mul, nI_clp, nI_eqv, nI_lev, nI_ltv, nI_neg, nI_neg', nI_subv, Nat.add_zero, Nat.zero_add, Nat.mul_zero, Nat.reduceAdd, bN_rv, bM_ru, bV_rv, bV_rx, bU_ru, bU_rx, bN_ite, bM_ite, bV_ite, bU_ite, ↓bx_e, ↓sp_e, gA_ok, gZ_n, gB_0, gB_1, gB_i, and_true, and_false, true_and, false_and, decide_true, decide_false, ↓reduceIte, not_true_eq_false, not_false_eq_true, Bool.false_eq_true, Bool.true_eq_false, Bool.and_true, Bool.and_false, Bool.true_and, Bool.false_and, Bool.or_true, Bool.or_false, Bool.true_or, Bool.false_or, Bool.not_true, Bool.not_false, le_f, le_t, lt_f, lt_t, eq_f, ↓reduceIte, not_true_eq_false, not_false_eq_true, ite_10, bt_0, bt_1]
theorem m307_44 {t : mS} {d : Nat → Nat} (hn : n ≤ 5) (hL : L ≤ 5) (ht : t.1 513 = f) (f0 : f 0 = nI n) (hd : ∀ j, j < n → t.1 521 j = nI (d j) ∧ d j < 5) : ∀ k i m K, i + k = n → k < K → m ≤ i → q307_44 K (nI L) (nI m) (nI 1) (nI i) t = rv (b2 (okR (clX f) L d k i m)) t := by
  have k198 : q198 t = rv (nI n) t := by unfold q198; simp (disch := omega) only [ht, f0, nI_lit, nI_add, pk_mul, nI_clp, nI_eqv, nI_lev, nI_ltv, nI_neg, nI_neg', nI_subv, Nat.add_zero, Nat.zero_add, Nat.mul_zero, Nat.reduceAdd, bN_rv, bM_ru, bV_rv, bV_rx, bU_ru, bU_rx, bN_ite, bM_ite, bV_ite, bU_ite, ↓bx_e, ↓sp_e, gA_ok, gZ_n, gB_0, gB_1, gB_i, and_true, and_false, true_and, false_and, decide_true, decide_false, ↓reduceIte, not_true_eq_false, not_false_eq_true, Bool.false_eq_true, Bool.true_eq_false, Bool.and_true, Bool.and_false, Bool.true_and, Bool.false_and, Bool.or_true, Bool.or_false, Bool.true_or, Bool.false_or, Bool.not_true, Bool.not_false, le_f, le_t, lt_f, lt_t, eq_f, ↓reduceIte, not_true_eq_false, not_false_eq_true, ite_10, bt_0, bt_1]
  intro k
  induction k with
  | zero =>
    intro i m K hi hK hm
    cases K with
    | zero => omega
    | succ K =>
      rw [okR, b2_t]
      have : i = n := by omega
      subst this
      simp (disch := omega) only [q307_44, k198, nI_lit, nI_add, pk_mul, nI_clp, nI_eqv, nI_lev, nI_ltv, nI_neg, nI_neg', nI_subv, Nat.add_zero, Nat.zero_add, Nat.mul_zero, Nat.reduceAdd, bN_rv, bM_ru, bV_rv, bV_rx, bU_ru, bU_rx, bN_ite, bM_ite, bV_ite, bU_ite, ↓bx_e, ↓sp_e, gA_ok, gZ_n, gB_0, gB_1, gB_i, and_true, and_false, true_and, false_and, decide_true, decide_false, ↓reduceIte, not_true_eq_false, not_false_eq_true, Bool.false_eq_true, Bool.true_eq_false, Bool.and_true, Bool.and_false, Bool.true_and, Bool.false_and, Bool.or_true, Bool.or_false, Bool.true_or, Bool.false_or, Bool.not_true, Bool.not_false, le_f, le_t, lt_f, lt_t, eq_f, ↓reduceIte, not_true_eq_false, not_false_eq_true, ite_10, bt_0, bt_1]
  | succ k ih =>
    intro i m K hi hK hm
    cases K with
    | zero => omega
    | succ K =>
      obtain ⟨d1, d2⟩ := hd i (by omega)
      have z0 : ∀ x : Int32, q307_44 K (nI L) x (nI 0) (nI (i + 1)) t = rv (nI 0) t := fun x => by
        cases K with
        | zero => omega
        | succ K =>
          by_cases e : n ≤ i + 1
          · simp (disch := omega) only [q307_44, k198, nI_lit, nI_add, pk_mul, nI_clp, nI_eqv, nI_lev, nI_ltv, nI_neg, nI_neg', nI_subv, Nat.add_zero, Nat.zero_add, Nat.mul_zero, Nat.reduceAdd, bN_rv, bM_ru, bV_rv, bV_rx, bU_ru, bU_rx, bN_ite, bM_ite, bV_ite, bU_ite, ↓bx_e, ↓sp_e, gA_ok, gZ_n, gB_0, gB_1, gB_i, and_true, and_false, true_and, false_and, decide_true, decide_false, ↓reduceIte, not_true_eq_false, not_false_eq_true, Bool.false_eq_true, Bool.true_eq_false, Bool.and_true, Bool.and_false, Bool.true_and, Bool.false_and, Bool.or_true, Bool.or_false, Bool.true_or, Bool.false_or, Bool.not_true, Bool.not_false, le_f, le_t, lt_f, lt_t, eq_f, ↓reduceIte, not_true_eq_false, not_false_eq_true, ite_10, bt_0, bt_1]
          · simp (disch := omega) only [q307_44, k198, nI_lit, nI_add, pk_mul, nI_clp, nI_eqv, nI_lev, nI_ltv, nI_neg, nI_neg', nI_subv, Nat.add_zero, Nat.zero_add, Nat.mul_zero, Nat.reduceAdd, bN_rv, bM_ru, bV_rv, bV_rx, bU_ru, bU_rx, bN_ite, bM_ite, bV_ite, bU_ite, ↓bx_e, ↓sp_e, gA_ok, gZ_n, gB_0, gB_1, gB_i, and_true, and_false, true_and, false_and, decide_true, decide_false, ↓reduceIte, not_true_eq_false, not_false_eq_true, Bool.false_eq_true, Bool.true_eq_false, Bool.and_true, Bool.and_false, Bool.true_and, Bool.false_and, Bool.or_true, Bool.or_false, Bool.true_or, Bool.false_or, Bool.not_true, Bool.not_false, le_f, le_t, lt_f, lt_t, eq_f, ↓reduceIte, not_true_eq_false, not_false_eq_true, ite_10, bt_0, bt_1]
      have z : ∀ x : Int32, q307_107 (q307_160 (q307_44 K)) 10000 (nI L) x (nI 0) (nI i) (nI 0) t = rv (nI 0) t := fun x => by
        rw [show (10000 : Nat) = 9999 + 1 from rfl, q307_107]
        by_cases e : i ≤ 0
        · simp (disch := omega) only [q307_160, z0, nI_lit, nI_add, pk_mul, nI_clp, nI_eqv, nI_lev, nI_ltv, nI_neg, nI_neg', nI_subv, Nat.add_zero, Nat.zero_add, Nat.mul_zero, Nat.reduceAdd, bN_rv, bM_ru, bV_rv, bV_rx, bU_ru, bU_rx, bN_ite, bM_ite, bV_ite, bU_ite, ↓bx_e, ↓sp_e, gA_ok, gZ_n, gB_0, gB_1, gB_i, and_true, and_false, true_and, false_and, decide_true, decide_false, ↓reduceIte, not_true_eq_false, not_false_eq_true, Bool.false_eq_true, Bool.true_eq_false, Bool.and_true, Bool.and_false, Bool.true_and, Bool.false_and, Bool.or_true, Bool.or_false, Bool.true_or, Bool.false_or, Bool.not_true, Bool.not_false, le_f, le_t, lt_f, lt_t, eq_f, ↓reduceIte, not_true_eq_false, not_false_eq_true, ite_10, bt_0, bt_1]
        · simp (disch := omega) only [q307_160, z0, nI_lit, nI_add, pk_mul, nI_clp, nI_eqv, nI_lev, nI_ltv, nI_neg, nI_neg', nI_subv, Nat.add_zero, Nat.zero_add, Nat.mul_zero, Nat.reduceAdd, bN_rv, bM_ru, bV_rv, bV_rx, bU_ru, bU_rx, bN_ite, bM_ite, bV_ite, bU_ite, ↓bx_e, ↓sp_e, gA_ok, gZ_n, gB_0, gB_1, gB_i, and_true, and_false, true_and, false_and, decide_true, decide_false, ↓reduceIte, not_true_eq_false, not_false_eq_true, Bool.false_eq_true, Bool.true_eq_false, Bool.and_true, Bool.and_false, Bool.true_and, Bool.false_and, Bool.or_true, Bool.or_false, Bool.true_or, Bool.false_or, Bool.not_true, Bool.not_false, le_f, le_t, lt_f, lt_t, eq_f, ↓reduceIte, not_true_eq_false, not_false_eq_true, ite_10, bt_0, bt_1]
      rw [okR]
      by_cases h1 : d i ≤ m
      · by_cases h2 : d i < L
        · have k107 := m307_107 (t := t) (K := q307_160 (q307_44 K)) (w := nI L) (x := nI (nxR m (d i))) (d := d) (i := i) (by omega) ht (fun j hj => hd j (by omega)) i 0 10000 (by omega) (by omega)
          have em : mxI (nI m) (nI (d i + 1)) = nI (nxR m (d i)) := by
            rw [mx_nI (by omega) (by omega)]
            unfold nxR
            congr 1
            split <;> omega
          have ef : al (fun j => !(decide (d j = d i) && clX f j i)) i 0 = fitR (clX f) d i (d i) := rfl
          rw [ef] at k107
          have E : q307_44 (K + 1) (nI L) (nI m) (nI 1) (nI i) t = q307_44 K (nI L) (nI (nxR m (d i))) (b2 (fitR (clX f) d i (d i))) (nI (i + 1)) t := by
            simp (disch := omega) only [q307_44, q307_86, k198, d1, em, k107, nI_lit, nI_add, pk_mul, nI_clp, nI_eqv, nI_lev, nI_ltv, nI_neg, nI_neg', nI_subv, Nat.add_zero, Nat.zero_add, Nat.mul_zero, Nat.reduceAdd, bN_rv, bM_ru, bV_rv, bV_rx, bU_ru, bU_rx, bN_ite, bM_ite, bV_ite, bU_ite, ↓bx_e, ↓sp_e, gA_ok, gZ_n, gB_0, gB_1, gB_i, and_true, and_false, true_and, false_and, decide_true, decide_false, ↓reduceIte, not_true_eq_false, not_false_eq_true, Bool.false_eq_true, Bool.true_eq_false, Bool.and_true, Bool.and_false, Bool.true_and, Bool.false_and, Bool.or_true, Bool.or_false, Bool.true_or, Bool.false_or, Bool.not_true, Bool.not_false, le_f, le_t, lt_f, lt_t, eq_f, ↓reduceIte, not_true_eq_false, not_false_eq_true, ite_10, bt_0, bt_1]
            simp (disch := omega) only [q307_160, nI_lit, nI_add, pk_mul, nI_clp, nI_eqv, nI_lev, nI_ltv, nI_neg, nI_neg', nI_subv, Nat.add_zero, Nat.zero_add, Nat.mul_zero, Nat.reduceAdd, bN_rv, bM_ru, bV_rv, bV_rx, bU_ru, bU_rx, bN_ite, bM_ite, bV_ite, bU_ite, ↓bx_e, ↓sp_e, gA_ok, gZ_n, gB_0, gB_1, gB_i, and_true, and_false, true_and, false_and, decide_true, decide_false, ↓reduceIte, not_true_eq_false, not_false_eq_true, Bool.false_eq_true, Bool.true_eq_false, Bool.and_true, Bool.and_false, Bool.true_and, Bool.false_and, Bool.or_true, Bool.or_false, Bool.true_or, Bool.false_or, Bool.not_true, Bool.not_false, le_f, le_t, lt_f, lt_t, eq_f, ↓reduceIte, not_true_eq_false, not_false_eq_true, ite_10, bt_0, bt_1]
          rw [E]
          cases hf : fitR (clX f) d i (d i) with
          | false =>
            rw [b2_f, z0, decide_eq_false (fun q => by have := q.2.2; simp at this), Bool.false_and, b2_f]
          | true =>
            rw [b2_t, ih (i + 1) (nxR m (d i)) K (by omega) (by omega) (by unfold nxR; split <;> omega), decide_eq_true ⟨h1, h2, rfl⟩, Bool.true_and]
        · rw [decide_eq_false (fun q => h2 q.2.1), Bool.false_and, b2_f]
          have h2' : L ≤ d i := by omega
          simp (disch := omega) only [q307_44, q307_85, q307_86, k198, d1, z, nI_lit, nI_add, pk_mul, nI_clp, nI_eqv, nI_lev, nI_ltv, nI_neg, nI_neg', nI_subv, Nat.add_zero, Nat.zero_add, Nat.mul_zero, Nat.reduceAdd, bN_rv, bM_ru, bV_rv, bV_rx, bU_ru, bU_rx, bN_ite, bM_ite, bV_ite, bU_ite, ↓bx_e, ↓sp_e, gA_ok, gZ_n, gB_0, gB_1, gB_i, and_true, and_false, true_and, false_and, decide_true, decide_false, ↓reduceIte, not_true_eq_false, not_false_eq_true, Bool.false_eq_true, Bool.true_eq_false, Bool.and_true, Bool.and_false, Bool.true_and, Bool.false_and, Bool.or_true, Bool.or_false, Bool.true_or, Bool.false_or, Bool.not_true, Bool.not_false, le_f, le_t, lt_f, lt_t, eq_f, ↓reduceIte, not_true_eq_false, not_false_eq_true, ite_10, bt_0, bt_1]
      · rw [decide_eq_false (fun q => h1 q.1), Bool.false_and, b2_f]
        have h1' : m < d i := by omega
        simp (disch := omega) only [q307_44, q307_85, q307_86, k198, d1, z, nI_lit, nI_add, pk_mul, nI_clp, nI_eqv, nI_lev, nI_ltv, nI_neg, nI_neg', nI_subv, Nat.add_zero, Nat.zero_add, Nat.mul_zero, Nat.reduceAdd, bN_rv, bM_ru, bV_rv, bV_rx, bU_ru, bU_rx, bN_ite, bM_ite, bV_ite, bU_ite, ↓bx_e, ↓sp_e, gA_ok, gZ_n, gB_0, gB_1, gB_i, and_true, and_false, true_and, false_and, decide_true, decide_false, ↓reduceIte, not_true_eq_false, not_false_eq_true, Bool.false_eq_true, Bool.true_eq_false, Bool.and_true, Bool.and_false, Bool.true_and, Bool.false_and, Bool.or_true, Bool.or_false, Bool.true_or, Bool.false_or, Bool.not_true, Bool.not_false, le_f, le_t, lt_f, lt_t, eq_f, ↓reduceIte, not_true_eq_false, not_false_eq_true, ite_10, bt_0, bt_1]
theorem m307 {t : mS} {code : Nat} (hn : n ≤ 5) (hL : L ≤ 5) (ht : t.1 513 = f) (f0 : f 0 = nI n) (hc : code < 5 ^ n) : ∃ t', q307 (nI code) (nI L) t = rv (b2 (okR (clX f) L (dgR n code) n 0 0)) t' ∧ F1 521 t t' ∧ ∀ j, j < n → t'.1 521 j = nI (dgR n code j) := by
  have k198 : q198 t = rv (nI n) t := by unfold q198; simp (disch := omega) only [ht, f0, nI_lit, nI_add, pk_mul, nI_clp, nI_eqv, nI_lev, nI_ltv, nI_neg, nI_neg', nI_subv, Nat.add_zero, Nat.zero_add, Nat.mul_zero, Nat.reduceAdd, bN_rv, bM_ru, bV_rv, bV_rx, bU_ru, bU_rx, bN_ite, bM_ite, bV_ite, bU_ite, ↓bx_e, ↓sp_e, gA_ok, gZ_n, gB_0, gB_1, gB_i, and_true, and_false, true_and, false_and, decide_true, decide_false, ↓reduceIte, not_true_eq_false, not_false_eq_true, Bool.false_eq_true, Bool.true_eq_false, Bool.and_true, Bool.and_false, Bool.true_and, Bool.false_and, Bool.or_true, Bool.or_false, Bool.true_or, Bool.false_or, Bool.not_true, Bool.not_false, le_f, le_t, lt_f, lt_t, eq_f, ↓reduceIte, not_true_eq_false, not_false_eq_true, ite_10, bt_0, bt_1]
  obtain ⟨t', a1, a2, a3⟩ := m307_16 (t0 := t) (K := q307_41) (w := nI L) hn hc n 10000 t F1_r (by omega) (by omega) (fun j h1 h2 => by omega)
  refine ⟨t', ?_, a2, a3⟩
  have hz : code / 5 ^ (n - n) = code := by rw [Nat.sub_self, Nat.pow_zero, Nat.div_one]
  rw [hz] at a1
  unfold q307
  rw [k198, bN_rv, bx_e, nI_lit, nI_lit, a1]
  unfold q307_41
  rw [nI_lit]
  exact m307_44 hn hL (by rw [a2.1 513 (by omega)]; exact ht) f0 (fun j hj => ⟨a3 j hj, Nat.mod_lt _ (by omega)⟩) n 0 0 10000 (by omega) (by omega) (by omega)
/-- what the reference's search for rounds may change -/
def FR (t t' : mS) : Prop := (∀ b, b ≠ 512 → b ≠ 521 → t'.1 b = t.1 b) ∧ (∀ j, j ≠ 20 → t'.1 512 j = t.1 512 j) ∧ t'.2 = t.2
theorem FR_t {t t' t'' : mS} (h : FR t t') (h2 : FR t' t'') : FR t t'' := ⟨fun b x y => (h2.1 b x y).trans (h.1 b x y), fun j x => (h2.2.1 j x).trans (h.2.1 j x), h2.2.2.trans h.2.2⟩
theorem FR_1 {t t' : mS} (h : F1 521 t t') : FR t t' := ⟨fun b _ y => h.1 b y, fun j _ => by rw [h.1 512 (by omega)], h.2⟩
theorem FR_I {t : mS} {x : Int32} : FR t (sI t 512 20 x) := ⟨fun b y _ => sI_fn y, fun j hj => by rw [sI_sm, ud_n hj], Eq.trans rfl rfl⟩
theorem m308_56 {t0 : mS} {K : Int32 → Int32 → mS → Option mQ} (hn : n ≤ 5) (hL : L ≤ 5) (ht : t0.1 513 = f) (f0 : f 0 = nI n) (e20 : t0.1 512 20 = nI L) : ∀ r code k t, F1 521 t0 t → code + r = 5 ^ n → r < k → ∃ t', F1 521 t0 t' ∧ (match fs (fun code => okR (clX f) L (dgR n code) n 0 0) r code with
    | none => q308_56 K k (nI (5 ^ n)) (nI 0) (nI code) t = K (nI (5 ^ n)) (nI 0) t'
    | some c => q308_56 K k (nI (5 ^ n)) (nI 0) (nI code) t = K (nI (5 ^ n)) (nI 1) t' ∧ ∀ j, j < n → t'.1 521 j = nI (dgR n c j)) := by
  have h5 : 5 ^ n ≤ 3125 := Nat.pow_le_pow_right (n := 5) (by omega) hn
  generalize hM : 5 ^ n = M at *
  intro r
  induction r with
  | zero =>
    intro code k t hF hc hk
    cases k with
    | zero => omega
    | succ k =>
      refine ⟨t, hF, ?_⟩
      rw [fs]
      show q308_56 _ _ _ _ _ _ = _
      simp (disch := omega) only [q308_56, nI_lit, nI_add, pk_mul, nI_clp, nI_eqv, nI_lev, nI_ltv, nI_neg, nI_neg', nI_subv, Nat.add_zero, Nat.zero_add, Nat.mul_zero, Nat.reduceAdd, bN_rv, bM_ru, bV_rv, bV_rx, bU_ru, bU_rx, bN_ite, bM_ite, bV_ite, bU_ite, ↓bx_e, ↓sp_e, gA_ok, gZ_n, gB_0, gB_1, gB_i, and_true, and_false, true_and, false_and, decide_true, decide_false, ↓reduceIte, not_true_eq_false, not_false_eq_true, Bool.false_eq_true, Bool.true_eq_false, Bool.and_true, Bool.and_false, Bool.true_and, Bool.false_and, Bool.or_true, Bool.or_false, Bool.true_or, Bool.false_or, Bool.not_true, Bool.not_false, le_f, le_t, lt_f, lt_t, eq_f, ↓reduceIte, not_true_eq_false, not_false_eq_true, ite_10, bt_0, bt_1]
  | succ r ih =>
    intro code k t hF hc hk
    cases k with
    | zero => omega
    | succ k =>
      obtain ⟨t1, a1, a2, a3⟩ := m307 (t := t) (code := code) (L := L) (f := f) hn hL (by rw [hF.1 513 (by omega)]; exact ht) f0 (by omega)
      have e2 : t.1 512 20 = nI L := by rw [hF.1 512 (by omega)]; exact e20
      rw [fs]
      cases ho : okR (clX f) L (dgR n code) n 0 0 with
      | false =>
        rw [ho, b2_f] at a1
        rw [if_neg (by decide)]
        have E : q308_56 K (k + 1) (nI M) (nI 0) (nI code) t = q308_56 K k (nI M) (nI 0) (nI (code + 1)) t1 := by
          simp (disch := omega) only [q308_56, e2, a1, nI_lit, nI_add, pk_mul, nI_clp, nI_eqv, nI_lev, nI_ltv, nI_neg, nI_neg', nI_subv, Nat.add_zero, Nat.zero_add, Nat.mul_zero, Nat.reduceAdd, bN_rv, bM_ru, bV_rv, bV_rx, bU_ru, bU_rx, bN_ite, bM_ite, bV_ite, bU_ite, ↓bx_e, ↓sp_e, gA_ok, gZ_n, gB_0, gB_1, gB_i, and_true, and_false, true_and, false_and, decide_true, decide_false, ↓reduceIte, not_true_eq_false, not_false_eq_true, Bool.false_eq_true, Bool.true_eq_false, Bool.and_true, Bool.and_false, Bool.true_and, Bool.false_and, Bool.or_true, Bool.or_false, Bool.true_or, Bool.false_or, Bool.not_true, Bool.not_false, le_f, le_t, lt_f, lt_t, eq_f, ↓reduceIte, not_true_eq_false, not_false_eq_true, ite_10, bt_0, bt_1]
        rw [E]
        exact ih (code + 1) k t1 (F1_t hF a2) (by omega) (by omega)
      | true =>
        rw [ho, b2_t] at a1
        rw [if_pos rfl]
        refine ⟨t1, F1_t hF a2, ?_, a3⟩
        have z : ∀ k, 0 < k → q308_56 K k (nI M) (nI 1) (nI (code + 1)) t1 = K (nI M) (nI 1) t1 := fun k hk => by
          cases k with
          | zero => omega
          | succ k =>
            by_cases e : M ≤ code + 1
            · simp (disch := omega) only [q308_56, nI_lit, nI_add, pk_mul, nI_clp, nI_eqv, nI_lev, nI_ltv, nI_neg, nI_neg', nI_subv, Nat.add_zero, Nat.zero_add, Nat.mul_zero, Nat.reduceAdd, bN_rv, bM_ru, bV_rv, bV_rx, bU_ru, bU_rx, bN_ite, bM_ite, bV_ite, bU_ite, ↓bx_e, ↓sp_e, gA_ok, gZ_n, gB_0, gB_1, gB_i, and_true, and_false, true_and, false_and, decide_true, decide_false, ↓reduceIte, not_true_eq_false, not_false_eq_true, Bool.false_eq_true, Bool.true_eq_false, Bool.and_true, Bool.and_false, Bool.true_and, Bool.false_and, Bool.or_true, Bool.or_false, Bool.true_or, Bool.false_or, Bool.not_true, Bool.not_false, le_f, le_t, lt_f, lt_t, eq_f, ↓reduceIte, not_true_eq_false, not_false_eq_true, ite_10, bt_0, bt_1]
            · simp (disch := omega) only [q308_56, nI_lit, nI_add, pk_mul, nI_clp, nI_eqv, nI_lev, nI_ltv, nI_neg, nI_neg', nI_subv, Nat.add_zero, Nat.zero_add, Nat.mul_zero, Nat.reduceAdd, bN_rv, bM_ru, bV_rv, bV_rx, bU_ru, bU_rx, bN_ite, bM_ite, bV_ite, bU_ite, ↓bx_e, ↓sp_e, gA_ok, gZ_n, gB_0, gB_1, gB_i, and_true, and_false, true_and, false_and, decide_true, decide_false, ↓reduceIte, not_true_eq_false, not_false_eq_true, Bool.false_eq_true, Bool.true_eq_false, Bool.and_true, Bool.and_false, Bool.true_and, Bool.false_and, Bool.or_true, Bool.or_false, Bool.true_or, Bool.false_or, Bool.not_true, Bool.not_false, le_f, le_t, lt_f, lt_t, eq_f, ↓reduceIte, not_true_eq_false, not_false_eq_true, ite_10, bt_0, bt_1]
        have zk := z k (by omega)
        simp (disch := omega) only [q308_56, e2, a1, zk, nI_lit, nI_add, pk_mul, nI_clp, nI_eqv, nI_lev, nI_ltv, nI_neg, nI_neg', nI_subv, Nat.add_zero, Nat.zero_add, Nat.mul_zero, Nat.reduceAdd, bN_rv, bM_ru, bV_rv, bV_rx, bU_ru, bU_rx, bN_ite, bM_ite, bV_ite, bU_ite, ↓bx_e, ↓sp_e, gA_ok, gZ_n, gB_0, gB_1, gB_i, and_true, and_false, true_and, false_and, decide_true, decide_false, ↓reduceIte, not_true_eq_false, not_false_eq_true, Bool.false_eq_true, Bool.true_eq_false, Bool.and_true, Bool.and_false, Bool.true_and, Bool.false_and, Bool.or_true, Bool.or_false, Bool.true_or, Bool.false_or, Bool.not_true, Bool.not_false, le_f, le_t, lt_f, lt_t, eq_f, ↓reduceIte, not_true_eq_false, not_false_eq_true, ite_10, bt_0, bt_1]
theorem m308_40 {t0 : mS} (hn : n ≤ 5) (ht : t0.1 513 = f) (f0 : f 0 = nI n) : ∀ r L k t, FR t0 t → t.1 512 20 = nI L → L + 1 + r = n → r + 1 < k → ∃ t' d', q308_40 k (nI (5 ^ n)) (nI 0) t = ru t' ∧ FR t0 t' ∧ t'.1 512 20 = nI (rdL (clX f) n r (L + 1)) ∧ dfR (clX f) (rdL (clX f) n r (L + 1)) n 0 0 (fun _ => 0) = some d' ∧ ∀ j, j < n → t'.1 521 j = nI (d' j) := by
  have h5 : 5 ^ n ≤ 3125 := Nat.pow_le_pow_right (n := 5) (by omega) hn
  have step : ∀ L k t, FR t0 t → t.1 512 20 = nI L → L + 1 ≤ n → 1 < k → ∃ t', FR t0 t' ∧ t'.1 512 20 = nI (L + 1) ∧ (match dfR (clX f) (L + 1) n 0 0 (fun _ => 0) with
      | none => q308_40 k (nI (5 ^ n)) (nI 0) t = q308_40 (k - 1) (nI (5 ^ n)) (nI 0) t'
      | some d' => q308_40 k (nI (5 ^ n)) (nI 0) t = ru t' ∧ ∀ j, j < n → t'.1 521 j = nI (d' j)) := by
    intro L k t hF e20 hL hk
    obtain ⟨k, rfl⟩ : ∃ k', k = k' + 2 := ⟨k - 2, by omega⟩
    have e1 : (sI t 512 20 (nI (L + 1))).1 512 20 = nI (L + 1) := by rw [sI_sm, ud_e rfl]
    obtain ⟨t1, b1, b2⟩ := m308_56 (t0 := sI t 512 20 (nI (L + 1))) (K := q308_81 (q308_40 (k + 1))) (L := L + 1) (f := f) hn (by omega) (by rw [sI_fn (by omega), hF.1 513 (by omega) (by omega)]; exact ht) f0 e1 (5 ^ n) 0 10000 _ F1_r (by omega) (by omega)
    have h := okR_df (X := clX f) (L := L + 1) (n := n) n 0 0 (fun _ => 0) 0 (by omega) (by omega) hn (fun code _ _ j hj => by omega)
    rw [Nat.zero_mul] at h
    have E : q308_40 (k + 2) (nI (5 ^ n)) (nI 0) t = q308_56 (q308_81 (q308_40 (k + 1))) 10000 (nI (5 ^ n)) (nI 0) (nI 0) (sI t 512 20 (nI (L + 1))) := by
      rw [q308_40, nI_lit, if_neg (not_not_intro rfl), sp_e, e20, nI_lit, nI_add]
    refine ⟨t1, FR_t hF (FR_t FR_I (FR_1 b1)), by rw [b1.1 512 (by omega)]; exact e1, ?_⟩
    rw [E]
    generalize fs (fun code => okR (clX f) (L + 1) (dgR n code) n 0 0) (5 ^ n) 0 = o at h b2
    cases o with
    | none =>
      simp only at h b2
      rw [h]
      show q308_56 _ _ _ _ _ _ = _
      rw [b2]; unfold q308_81; rfl
    | some c =>
      obtain ⟨d', h1, h2⟩ := h
      rw [h1]
      refine ⟨?_, fun j hj => by rw [b2.2 j hj, h2 j hj]⟩
      rw [b2.1]
      unfold q308_81
      rw [q308_40, nI_lit, if_pos (by decide)]
  intro r
  induction r with
  | zero =>
    intro L k t hF e20 hr hk
    obtain ⟨t', c1, c2, c3⟩ := step L k t hF e20 (by omega) (by omega)
    have hs := dfR_all (X := clX f) hn n 0 (fun _ => 0) (by omega) (fun j hj => by omega)
    have eL : L + 1 = n := by omega
    have er : rdL (clX f) n 0 (L + 1) = n := rfl
    rw [er]
    rw [eL] at c2 c3
    cases e : dfR (clX f) n n 0 0 (fun _ => 0) with
    | none => exact absurd e hs
    | some d' =>
      rw [e] at c3
      exact ⟨t', d', c3.1, c1, c2, rfl, c3.2⟩
  | succ r ih =>
    intro L k t hF e20 hr hk
    obtain ⟨t', c1, c2, c3⟩ := step L k t hF e20 (by omega) (by omega)
    cases e : dfR (clX f) (L + 1) n 0 0 (fun _ => 0) with
    | none =>
      rw [e] at c3
      have er : rdL (clX f) n (r + 1) (L + 1) = rdL (clX f) n r (L + 1 + 1) := by
        unfold rdL
        rw [fs, e, if_neg (by decide)]
      rw [er]
      obtain ⟨t'', d', b1, b2⟩ := ih (L + 1) (k - 1) t' c1 c2 (by omega) (by omega)
      exact ⟨t'', d', c3.trans b1, b2⟩
    | some d' =>
      rw [e] at c3
      have er : rdL (clX f) n (r + 1) (L + 1) = L + 1 := by
        unfold rdL
        rw [fs, e, Option.isSome_some, if_pos rfl]
      rw [er]
      exact ⟨t', d', c3.1, c1, c2, e, c3.2⟩
theorem m308 {t : mS} (hn : n ≤ 5) (ht : t.1 513 = f) (f0 : f 0 = nI n) : ∃ t', q308 t = ru t' ∧ FR t t' ∧ t'.1 512 20 = nI (rdL (clX f) n n 0) ∧ ∀ d', dfR (clX f) (rdL (clX f) n n 0) n 0 0 (fun _ => 0) = some d' → ∀ j, j < n → t'.1 521 j = nI (d' j) := by
  have k198 : ∀ t' : mS, t'.1 513 = f → q198 t' = rv (nI n) t' := fun t' h => by unfold q198; simp (disch := omega) only [h, f0, nI_lit, nI_add, pk_mul, nI_clp, nI_eqv, nI_lev, nI_ltv, nI_neg, nI_neg', nI_subv, Nat.add_zero, Nat.zero_add, Nat.mul_zero, Nat.reduceAdd, bN_rv, bM_ru, bV_rv, bV_rx, bU_ru, bU_rx, bN_ite, bM_ite, bV_ite, bU_ite, ↓bx_e, ↓sp_e, gA_ok, gZ_n, gB_0, gB_1, gB_i, and_true, and_false, true_and, false_and, decide_true, decide_false, ↓reduceIte, not_true_eq_false, not_false_eq_true, Bool.false_eq_true, Bool.true_eq_false, Bool.and_true, Bool.and_false, Bool.true_and, Bool.false_and, Bool.or_true, Bool.or_false, Bool.true_or, Bool.false_or, Bool.not_true, Bool.not_false, le_f, le_t, lt_f, lt_t, eq_f, ↓reduceIte, not_true_eq_false, not_false_eq_true, ite_10, bt_0, bt_1]
  have h5 : 5 ^ n ≤ 3125 := Nat.pow_le_pow_right (n := 5) (by omega) hn
  have pw : ∀ K r i k, i + r = n → r < k → q308_4 K k (nI (5 ^ i)) (nI i) t = K (nI (5 ^ n)) t := by
    intro K r
    induction r with
    | zero =>
      intro i k hi hk
      cases k with
      | zero => omega
      | succ k =>
        have : i = n := by omega
        subst this
        rw [q308_4, k198 t ht, bN_rv, if_pos (by rw [nI_lev (by omega) (by omega)]; omega)]
    | succ r ih =>
      intro i k hi hk
      cases k with
      | zero => omega
      | succ k =>
        rw [q308_4, k198 t ht, bN_rv, if_neg (by rw [nI_lev (by omega) (by omega)]; omega)]
        simp only [bx_e, nI_lit, pk_mul, nI_add]
        rw [← Nat.pow_succ]
        exact ih (i + 1) k (by omega) (by omega)
  have p0 := pw q308_22 n 0 10000 (by omega) (by omega)
  rw [Nat.pow_zero] at p0
  unfold q308
  rw [nI_lit, nI_lit, p0]
  unfold q308_22
  rw [sp_e, k198 _ (by rw [sI_fn (by omega)]; exact ht), bN_rv, nI_lit, nI_lit]
  unfold q308_39
  by_cases e : n = 0
  · subst e
    rw [if_neg (not_not_intro rfl)]
    refine ⟨sI t 512 20 (nI 0), ?_, FR_I, ?_, fun d' _ j hj => by omega⟩
    · rw [show (10000 : Nat) = 9999 + 1 from rfl, q308_40, nI_lit, if_pos (by decide)]
    · rw [sI_sm, ud_e rfl]; rfl
  · rw [if_pos (by rw [nI_eqv (by omega) (by omega)]; exact e)]
    obtain ⟨t', d', b1, b2, b3, b4, b5⟩ := m308_40 (t0 := t) hn ht f0 (n - 1) 0 10000 (sI t 512 20 (nI 0)) FR_I (by rw [sI_sm, ud_e rfl]) (by omega) (by omega)
    have er : rdL (clX f) n n 0 = rdL (clX f) n (n - 1) (0 + 1) := by
      obtain ⟨m, rfl⟩ : ∃ m, n = m + 1 := ⟨n - 1, by omega⟩
      unfold rdL
      rw [Nat.add_sub_cancel, fs, dfR, tr_no 5 0 (fun k _ => if_neg (fun q => by omega)), if_neg (by decide)]
    rw [er]
    exact ⟨t', b1, b2, b3, fun d'' hd => by rw [b4] at hd; cases hd; exact b5⟩
theorem z_rounds {B : Nat} {s : mS} (hG : G B s) : ZN B q156 q309 s := by
  have hG0 := hG
  obtain ⟨⟨hR, hL, T, hT, hA⟩, -⟩ := hG0
  obtain ⟨n, hn, f0, y0, -, y1, y2, -, -⟩ := hR.2.1
  simp only [Nat.reduceAdd] at y0
  obtain ⟨s1, d', k1, k2, k3, k4⟩ := p51 (s0 := s) (f := s.1 513) hn y0 y1 y2
  refine ZN_look (v := nI (rdL (clX (s.1 513)) n n 0)) (s1 := s1) hG ?_ k2.2 ⟨fun b _ _ _ _ _ x _ _ _ _ => k2.1 b (by omega), fun j _ => by rw [k2.1 512 (by omega)]⟩ (fun t ht => ?_)
  · unfold q156
    rw [k1, bN_rv]
  · have e5 : (sI t 512 0 (nI 0)).1 513 = s.1 513 := by rw [t0_513, ht, k2.1 513 (by omega)]
    obtain ⟨t', a1, a2, a3, -⟩ := m308 (t := sI t 512 0 (nI 0)) hn e5 f0
    refine ⟨t', ?_, a2.2.2.trans (Eq.trans rfl rfl), Gq_t Gq_0 ⟨fun b _ _ _ _ _ _ x _ _ y => a2.1 b x (by omega), fun j hj => a2.2.1 j (by omega)⟩⟩
    unfold q309
    simp only [nI_lit, sp_e]
    rw [a1, bM_ru, a3]
end RND
