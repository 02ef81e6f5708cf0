/-! THE LAW'S TEXT: the class's loop over a condition -/
section CL
variable {b : Nat → Nat} {L : Nat} {K : mS → Option mQ}
theorem wd_x {p tx : Nat} (h : lw b L p = p) (h1 : tx < 22) (h7 : tx ≠ 7) (h8 : tx ≠ 8) : wd b L tx p = false := by
  cases e : wd b L tx p with
  | false => rfl
  | true => have := wd_l e; have := (tx_ok tx h1 h7 h8).1; omega
theorem lw_40 {p o : Nat} (hpL : p ≤ L) (ho : o < 97) (h : isB b L o o p = true) : lw b L p = p := by
  have := isB_t h
  refine lw_n hpL ?_
  cases e : isB b L 97 122 p with
  | false => rfl
  | true => have := isB_t e; omega
def ST (b : Nat → Nat) (L : Nat) (s0 s : mS) (c : Nat) (l : List (Nat × Nat)) (p d : Nat) (P : List Nat) : Prop := FE s0 s ∧ CS b L s p (c + l.length) d P ∧ DC s c l ∧ ∀ x, x < c → s.1 22 x = s0.1 22 x
theorem ST_t {s0 s1 s2 : mS} {c p1 p2 d1 d2 : Nat} {l1 l2 : List (Nat × Nat)} {P1 P2 : List Nat} (h : ST b L s0 s1 c l1 p1 d1 P1) (h2 : ST b L s1 s2 (c + l1.length) l2 p2 d2 P2) : ST b L s0 s2 c (l1 ++ l2) p2 d2 P2 := by
  obtain ⟨a1, a2, a3, a4⟩ := h
  obtain ⟨e1, e2, e3, e4⟩ := h2
  exact ⟨FE_t a1 e1, by rw [List.length_append, ← Nat.add_assoc]; exact e2, DC_a (DC_c a3 (fun j hj => e4 j (by omega))) e3, fun x hx => by rw [e4 x (by omega), a4 x hx]⟩
theorem ST_0 {s : mS} {c p d : Nat} {P : List Nat} (h : CS b L s p c d P) : ST b L s s c [] p d P := ⟨FE_r, h, trivial, fun _ _ => rfl⟩
theorem CS_A {s : mS} {p c d q : Nat} {P : List Nat} (h : CS b L s p c d P) : CS b L (cAt s q) q c d P := by
  obtain ⟨h1, h2, h3, h4, g1, g2, g3, g4⟩ := h
  exact ⟨cAt_C h1, cAt_p, by rw [cAt_n (by omega)]; exact h3, by rw [cAt_n (by omega)]; exact h4, by rw [cAt_n (by omega)]; exact g1, PL_u g2 (fun j _ => by rw [cAt_n (by omega)]), g3, g4⟩
theorem ST_A {s : mS} {p c d q : Nat} {P : List Nat} (h : CS b L s p c d P) : ST b L s (cAt s q) c [] q d P := ⟨FE_A, CS_A h, trivial, fun _ _ => by rw [cAt_n (by omega)]⟩
def deS (s : mS) (d : Nat) : mS := sI s 17 4 (nI d)
theorem ST_D {s : mS} {p c d d' : Nat} {P : List Nat} (h : CS b L s p c d P) : ST b L s (deS s d') c [] p d' P := by
  obtain ⟨h1, h2, h3, h4, h5⟩ := h
  unfold deS
  exact ⟨FE_d4, ⟨CP_E h1 FE_d4, by rw [sI_fn (by omega)]; exact h2, by rw [sI_fn (by omega)]; exact h3, by rw [sI_sm, ud_e rfl], d4_N h5⟩, trivial, fun _ _ => by rw [sI_fn (by omega)]⟩
theorem ST_P {s : mS} {p c d x : Nat} {P : List Nat} (h : CS b L s p c d P) (hx : x ≤ 3000) (hP : P.length < 24) : ST b L s (puS s P.length x) c [] p d (x :: P) := ⟨pu_E, pu_CS h hx hP, trivial, fun y _ => by unfold puS; rw [sI_fn (by omega), sI_fn (by omega)]⟩
/-- a sign goes down one more level -/
theorem p31 {s : mS} {p c d x q : Nat} {P : List Nat} (h : CS b L s p c d P) (hx : x ≤ 3000) (hP : P.length < 24) (hd : d < 100) : ∃ s', q31 (nI x) (cAt s q) = ru s' ∧ ST b L s s' c [] q (d + 1) (x :: P) := by
  have h1 := ST_A (q := q) h
  have h2 := ST_t h1 (ST_D (d' := d + 1) h1.2.1)
  have h3 := ST_t h2 (ST_P (x := x) h2.2.1 hx hP)
  refine ⟨_, ?_, h3⟩
  have e4 := h1.2.1.2.2.2.1
  have k := p32 (x := x) h2.2.1.2.2.2.2.1 hP
  unfold q31
  simp (disch := omega) only [e4, nI_lit, nI_add, pk_mul, nI_clp, nI_eqv, nI_lev, nI_ltv, nI_neg, nI_neg', nI_subv, Nat.add_zero, Nat.zero_add, Nat.mul_zero, Nat.reduceAdd, bN_rv, bM_ru, bV_rv, bV_rx, bU_ru, bU_rx, bN_ite, bM_ite, bV_ite, bU_ite, ↓bx_e, ↓sp_e, gA_ok, gZ_n, gB_0, gB_1, gB_i, and_true, and_false, true_and, false_and, decide_true, decide_false, ↓reduceIte, not_true_eq_false, not_false_eq_true, Bool.false_eq_true, Bool.true_eq_false, Bool.and_true, Bool.and_false, Bool.true_and, Bool.false_and, Bool.or_true, Bool.or_false, Bool.true_or, Bool.false_or, Bool.not_true, Bool.not_false, le_f, le_t, lt_f, lt_t, eq_f, ↓reduceIte, not_true_eq_false, not_false_eq_true, ite_10, bt_0, bt_1]
  have k' : q32 (nI x) (sI (cAt s q) 17 4 (nI (d + 1))) = _ := k
  rw [k', bM_ru]
section IT
variable {s : mS} {p c d i N : Nat} {P : List Nat}
theorem it_not (h : CS b L s p c d P) (hpL : p ≤ L) (hd : d < 6) (hP : P.length < 24) (hi : i ≤ 400) (hw : wd b L 13 p = true) : ∃ s', q30_14 K (N + 1) (nI 1) (nI i) s = q30_14 K N (nI 1) (nI (i + 1)) s' ∧ ST b L s s' c [] (sk b L (p + 3)) (d + 1) (2000 :: P) := by
  have k := p105 (tx := 13) h.1 h.2.1 hpL (by omega) (by omega) (by omega)
  rw [hw, b2_t, if_pos rfl, tl_13] at k
  obtain ⟨s', a1, a2⟩ := p31 (x := 2000) (q := sk b L (p + 3)) h (by omega) hP (by omega)
  have e4 := h.2.2.2.1
  refine ⟨s', ?_, a2⟩
  rw [q30_14]
  simp (disch := omega) only [e4, k, a1, q30_222, nI_lit, nI_add, pk_mul, nI_clp, nI_eqv, nI_lev, nI_ltv, nI_neg, nI_neg', nI_subv, Nat.add_zero, Nat.zero_add, Nat.mul_zero, Nat.reduceAdd, bN_rv, bM_ru, bV_rv, bV_rx, bU_ru, bU_rx, bN_ite, bM_ite, bV_ite, bU_ite, ↓bx_e, ↓sp_e, gA_ok, gZ_n, gB_0, gB_1, gB_i, and_true, and_false, true_and, false_and, decide_true, decide_false, ↓reduceIte, not_true_eq_false, not_false_eq_true, Bool.false_eq_true, Bool.true_eq_false, Bool.and_true, Bool.and_false, Bool.true_and, Bool.false_and, Bool.or_true, Bool.or_false, Bool.true_or, Bool.false_or, Bool.not_true, Bool.not_false, le_f, le_t, lt_f, lt_t, eq_f, ↓reduceIte, not_true_eq_false, not_false_eq_true, ite_10, bt_0, bt_1]
theorem it_open (h : CS b L s p c d P) (hpL : p ≤ L) (hd : d < 6) (hP : P.length < 24) (hi : i ≤ 400) (hw : isB b L 40 40 p = true) : ∃ s', q30_14 K (N + 1) (nI 1) (nI i) s = q30_14 K N (nI 1) (nI (i + 1)) s' ∧ ST b L s s' c [] (sk b L (p + 1)) (d + 1) (3000 :: P) := by
  have k := p105 (tx := 13) h.1 h.2.1 hpL (by omega) (by omega) (by omega)
  rw [wd_x (lw_40 hpL (by omega) hw) (by omega) (by omega) (by omega), b2_f, if_neg (show ¬ (false = true) by decide), cAt_i h.2.1] at k
  have k2 := p104 (c := 40) h.1 h.2.1 hpL (by omega)
  rw [hw, b2_t, if_pos rfl] at k2
  obtain ⟨s', a1, a2⟩ := p31 (x := 3000) (q := sk b L (p + 1)) h (by omega) hP (by omega)
  have e4 := h.2.2.2.1
  refine ⟨s', ?_, a2⟩
  rw [q30_14]
  simp (disch := omega) only [e4, k, k2, a1, q30_222, q30_56, nI_lit, nI_add, pk_mul, nI_clp, nI_eqv, nI_lev, nI_ltv, nI_neg, nI_neg', nI_subv, Nat.add_zero, Nat.zero_add, Nat.mul_zero, Nat.reduceAdd, bN_rv, bM_ru, bV_rv, bV_rx, bU_ru, bU_rx, bN_ite, bM_ite, bV_ite, bU_ite, ↓bx_e, ↓sp_e, gA_ok, gZ_n, gB_0, gB_1, gB_i, and_true, and_false, true_and, false_and, decide_true, decide_false, ↓reduceIte, not_true_eq_false, not_false_eq_true, Bool.false_eq_true, Bool.true_eq_false, Bool.and_true, Bool.and_false, Bool.true_and, Bool.false_and, Bool.or_true, Bool.or_false, Bool.true_or, Bool.false_or, Bool.not_true, Bool.not_false, le_f, le_t, lt_f, lt_t, eq_f, ↓reduceIte, not_true_eq_false, not_false_eq_true, ite_10, bt_0, bt_1]
theorem it_leaf (h : CS b L s p c d P) (hpL : p ≤ L) (hd : d ≤ 6) (hi : i ≤ 400) (hw : d = 6 ∨ (wd b L 13 p = false ∧ isB b L 40 40 p = false)) : q30_14 K (N + 1) (nI 1) (nI i) s = bN (q37 s) (fun x13 s12 => if ¬ x13 = nI 0 then (bM (q35 s12) fun s14 => q30_14 K N (nI 0) (nI (i + 1)) s14) else rv (nI 0) s12) := by
  have e4 := h.2.2.2.1
  by_cases e : d = 6
  · subst e
    rw [q30_14]
    simp (disch := omega) only [e4, q30_222, q30_56, q30_91, nI_lit, nI_add, pk_mul, nI_clp, nI_eqv, nI_lev, nI_ltv, nI_neg, nI_neg', nI_subv, Nat.add_zero, Nat.zero_add, Nat.mul_zero, Nat.reduceAdd, bN_rv, bM_ru, bV_rv, bV_rx, bU_ru, bU_rx, bN_ite, bM_ite, bV_ite, bU_ite, ↓bx_e, ↓sp_e, gA_ok, gZ_n, gB_0, gB_1, gB_i, and_true, and_false, true_and, false_and, decide_true, decide_false, ↓reduceIte, not_true_eq_false, not_false_eq_true, Bool.false_eq_true, Bool.true_eq_false, Bool.and_true, Bool.and_false, Bool.true_and, Bool.false_and, Bool.or_true, Bool.or_false, Bool.true_or, Bool.false_or, Bool.not_true, Bool.not_false, le_f, le_t, lt_f, lt_t, eq_f, ↓reduceIte, not_true_eq_false, not_false_eq_true, ite_10, bt_0, bt_1]
  · obtain ⟨w1, w2⟩ := hw.resolve_left e
    have k := p105 (tx := 13) h.1 h.2.1 hpL (by omega) (by omega) (by omega)
    rw [w1, b2_f, if_neg (show ¬ (false = true) by decide), cAt_i h.2.1] at k
    have k2 := p104 (c := 40) h.1 h.2.1 hpL (by omega)
    rw [w2, b2_f, if_neg (show ¬ (false = true) by decide), cAt_i h.2.1] at k2
    rw [q30_14]
    simp (disch := omega) only [e4, k, k2, q30_222, q30_56, q30_91, nI_lit, nI_add, pk_mul, nI_clp, nI_eqv, nI_lev, nI_ltv, nI_neg, nI_neg', nI_subv, Nat.add_zero, Nat.zero_add, Nat.mul_zero, Nat.reduceAdd, bN_rv, bM_ru, bV_rv, bV_rx, bU_ru, bU_rx, bN_ite, bM_ite, bV_ite, bU_ite, ↓bx_e, ↓sp_e, gA_ok, gZ_n, gB_0, gB_1, gB_i, and_true, and_false, true_and, false_and, decide_true, decide_false, ↓reduceIte, not_true_eq_false, not_false_eq_true, Bool.false_eq_true, Bool.true_eq_false, Bool.and_true, Bool.and_false, Bool.true_and, Bool.false_and, Bool.or_true, Bool.or_false, Bool.true_or, Bool.false_or, Bool.not_true, Bool.not_false, le_f, le_t, lt_f, lt_t, eq_f, ↓reduceIte, not_true_eq_false, not_false_eq_true, ite_10, bt_0, bt_1]
theorem k105 {tx : Nat} (h : CS b L s p c d P) (hpL : p ≤ L) (h1 : tx < 22) (h7 : tx ≠ 7) (h8 : tx ≠ 8) (hw : wd b L tx p = false) : q105 tx s = rv (nI 0) s := by
  have k := p105 (tx := tx) h.1 h.2.1 hpL h1 h7 h8
  rw [hw, b2_f, if_neg (show ¬ (false = true) by decide), cAt_i h.2.1] at k
  exact k
theorem it_and (h : CS b L s p c d P) (hpL : p ≤ L) (hi : i ≤ 400) (hw : wd b L 20 p = true) : q30_14 K (N + 1) (nI 0) (nI i) s = bM (q34 (nI 2001) (nI 2001) (cAt s (sk b L (p + 3)))) (fun s11 => q30_14 K N (nI 1) (nI (i + 1)) s11) := by
  have k := p105 (tx := 20) h.1 h.2.1 hpL (by omega) (by omega) (by omega)
  rw [hw, b2_t, if_pos rfl, tl_20] at k
  rw [q30_14]
  simp (disch := omega) only [k, q30_222, q30_56, q30_91, nI_lit, nI_add, pk_mul, nI_clp, nI_eqv, nI_lev, nI_ltv, nI_neg, nI_neg', nI_subv, Nat.add_zero, Nat.zero_add, Nat.mul_zero, Nat.reduceAdd, bN_rv, bM_ru, bV_rv, bV_rx, bU_ru, bU_rx, bN_ite, bM_ite, bV_ite, bU_ite, ↓bx_e, ↓sp_e, gA_ok, gZ_n, gB_0, gB_1, gB_i, and_true, and_false, true_and, false_and, decide_true, decide_false, ↓reduceIte, not_true_eq_false, not_false_eq_true, Bool.false_eq_true, Bool.true_eq_false, Bool.and_true, Bool.and_false, Bool.true_and, Bool.false_and, Bool.or_true, Bool.or_false, Bool.true_or, Bool.false_or, Bool.not_true, Bool.not_false, le_f, le_t, lt_f, lt_t, eq_f, ↓reduceIte, not_true_eq_false, not_false_eq_true, ite_10, bt_0, bt_1]
theorem it_or (h : CS b L s p c d P) (hpL : p ≤ L) (hi : i ≤ 400) (h20 : wd b L 20 p = false) (hw : wd b L 21 p = true) : q30_14 K (N + 1) (nI 0) (nI i) s = bM (q34 (nI 2002) (nI 2002) (cAt s (sk b L (p + 2)))) (fun s11 => q30_14 K N (nI 1) (nI (i + 1)) s11) := by
  have k0 := k105 (tx := 20) h hpL (by omega) (by omega) (by omega) h20
  have k := p105 (tx := 21) h.1 h.2.1 hpL (by omega) (by omega) (by omega)
  rw [hw, b2_t, if_pos rfl, tl_21] at k
  rw [q30_14]
  simp (disch := omega) only [k0, k, q30_222, q30_56, q30_91, nI_lit, nI_add, pk_mul, nI_clp, nI_eqv, nI_lev, nI_ltv, nI_neg, nI_neg', nI_subv, Nat.add_zero, Nat.zero_add, Nat.mul_zero, Nat.reduceAdd, bN_rv, bM_ru, bV_rv, bV_rx, bU_ru, bU_rx, bN_ite, bM_ite, bV_ite, bU_ite, ↓bx_e, ↓sp_e, gA_ok, gZ_n, gB_0, gB_1, gB_i, and_true, and_false, true_and, false_and, decide_true, decide_false, ↓reduceIte, not_true_eq_false, not_false_eq_true, Bool.false_eq_true, Bool.true_eq_false, Bool.and_true, Bool.and_false, Bool.true_and, Bool.false_and, Bool.or_true, Bool.or_false, Bool.true_or, Bool.false_or, Bool.not_true, Bool.not_false, le_f, le_t, lt_f, lt_t, eq_f, ↓reduceIte, not_true_eq_false, not_false_eq_true, ite_10, bt_0, bt_1]
theorem it_close (h : CS b L s p c d P) (hpL : p ≤ L) (hi : i ≤ 400) (h20 : wd b L 20 p = false) (h21 : wd b L 21 p = false) (hd : 0 < d) (hd6 : d < 100) (hw : isB b L 41 41 p = true) : q30_14 K (N + 1) (nI 0) (nI i) s = bM (q34 (nI 2002) (-nI 1) (cAt s (sk b L (p + 1)))) (fun s8 => bM (q36 s8) (fun s9 => q30_14 K N (nI 0) (nI (i + 1)) s9)) := by
  have k0 := k105 (tx := 20) h hpL (by omega) (by omega) (by omega) h20
  have k1 := k105 (tx := 21) h hpL (by omega) (by omega) (by omega) h21
  have k2 := p104 (c := 41) h.1 h.2.1 hpL (by omega)
  rw [hw, b2_t, if_pos rfl] at k2
  have e4 := h.2.2.2.1
  rw [q30_14]
  simp (disch := omega) only [k0, k1, k2, e4, q30_222, q30_56, q30_91, nI_lit, nI_add, pk_mul, nI_clp, nI_eqv, nI_lev, nI_ltv, nI_neg, nI_neg', nI_subv, Nat.add_zero, Nat.zero_add, Nat.mul_zero, Nat.reduceAdd, bN_rv, bM_ru, bV_rv, bV_rx, bU_ru, bU_rx, bN_ite, bM_ite, bV_ite, bU_ite, ↓bx_e, ↓sp_e, gA_ok, gZ_n, gB_0, gB_1, gB_i, and_true, and_false, true_and, false_and, decide_true, decide_false, ↓reduceIte, not_true_eq_false, not_false_eq_true, Bool.false_eq_true, Bool.true_eq_false, Bool.and_true, Bool.and_false, Bool.true_and, Bool.false_and, Bool.or_true, Bool.or_false, Bool.true_or, Bool.false_or, Bool.not_true, Bool.not_false, le_f, le_t, lt_f, lt_t, eq_f, ↓reduceIte, not_true_eq_false, not_false_eq_true, ite_10, bt_0, bt_1]
theorem it_end (h : CS b L s p c d P) (hpL : p ≤ L) (hi : i ≤ 400) (h20 : wd b L 20 p = false) (h21 : wd b L 21 p = false) (hd6 : d < 100) (hw : d = 0 ∨ isB b L 41 41 p = false) : q30_14 K (N + 1) (nI 0) (nI i) s = K s := by
  have k0 := k105 (tx := 20) h hpL (by omega) (by omega) (by omega) h20
  have k1 := k105 (tx := 21) h hpL (by omega) (by omega) (by omega) h21
  have e4 := h.2.2.2.1
  by_cases e : d = 0
  · subst e
    rw [q30_14]
    simp (disch := omega) only [k0, k1, e4, q30_222, q30_56, q30_91, nI_lit, nI_add, pk_mul, nI_clp, nI_eqv, nI_lev, nI_ltv, nI_neg, nI_neg', nI_subv, Nat.add_zero, Nat.zero_add, Nat.mul_zero, Nat.reduceAdd, bN_rv, bM_ru, bV_rv, bV_rx, bU_ru, bU_rx, bN_ite, bM_ite, bV_ite, bU_ite, ↓bx_e, ↓sp_e, gA_ok, gZ_n, gB_0, gB_1, gB_i, and_true, and_false, true_and, false_and, decide_true, decide_false, ↓reduceIte, not_true_eq_false, not_false_eq_true, Bool.false_eq_true, Bool.true_eq_false, Bool.and_true, Bool.and_false, Bool.true_and, Bool.false_and, Bool.or_true, Bool.or_false, Bool.true_or, Bool.false_or, Bool.not_true, Bool.not_false, le_f, le_t, lt_f, lt_t, eq_f, ↓reduceIte, not_true_eq_false, not_false_eq_true, ite_10, bt_0, bt_1]
  · have hw := hw.resolve_left e
    have k2 := p104 (c := 41) h.1 h.2.1 hpL (by omega)
    rw [hw, b2_f, if_neg (show ¬ (false = true) by decide), cAt_i h.2.1] at k2
    rw [q30_14]
    simp (disch := omega) only [k0, k1, k2, e4, q30_222, q30_56, q30_91, nI_lit, nI_add, pk_mul, nI_clp, nI_eqv, nI_lev, nI_ltv, nI_neg, nI_neg', nI_subv, Nat.add_zero, Nat.zero_add, Nat.mul_zero, Nat.reduceAdd, bN_rv, bM_ru, bV_rv, bV_rx, bU_ru, bU_rx, bN_ite, bM_ite, bV_ite, bU_ite, ↓bx_e, ↓sp_e, gA_ok, gZ_n, gB_0, gB_1, gB_i, and_true, and_false, true_and, false_and, decide_true, decide_false, ↓reduceIte, not_true_eq_false, not_false_eq_true, Bool.false_eq_true, Bool.true_eq_false, Bool.and_true, Bool.and_false, Bool.true_and, Bool.false_and, Bool.or_true, Bool.or_false, Bool.true_or, Bool.false_or, Bool.not_true, Bool.not_false, le_f, le_t, lt_f, lt_t, eq_f, ↓reduceIte, not_true_eq_false, not_false_eq_true, ite_10, bt_0, bt_1]
end IT
/-- signs are joined, and another one may wait -/
theorem jn {s0 s : mS} {c p d hi q : Nat} {l : List (Nat × Nat)} {M Q : List Nat} (hS : ST b L s0 s c l p d (M ++ Q)) (hhi : hi = 2001 ∨ hi = 2002) (hM : ∀ x, x ∈ M → (x = 2001 ∨ x = 2002) ∧ x ≤ hi) (hQ : ∀ x r, Q = x :: r → ¬ (2001 ≤ x ∧ x ≤ hi)) (hc : c + l.length + M.length ≤ 400) : ∃ s', q34_0 q34_47 10000 (nI hi) (-nI 1) (cAt s q) = ru s' ∧ ST b L s0 s' c (l ++ M.map dq) q d Q ∧ (Q.length < 24 → ∀ x, x ≤ 3000 → ∃ s'', q34_0 q34_47 10000 (nI hi) (nI x) (cAt s q) = ru s'' ∧ ST b L s0 s'' c (l ++ M.map dq) q d (x :: Q)) := by
  have hA := ST_t hS (ST_A (q := q) hS.2.1)
  rw [List.append_nil] at hA
  have hP := hA.2.1.2.2.2.2
  have hl := hP.2.2.2
  rw [List.length_append] at hl
  have key : ∀ v2, ∃ s', q34_0 q34_47 10000 (nI hi) v2 (cAt s q) = q34_47 v2 s' ∧ PN s' Q ∧ SJ (cAt s q) s' (c + l.length) (M.map dq) d := fun v2 => p34_0 (K := q34_47) (v2 := v2) (hi := hi) (d := d) (by omega) M Q (c + l.length) (cAt s q) 10000 hM hQ hP hA.2.1.2.2.1 hA.2.1.2.2.2.1 hc (by omega)
  have st : ∀ s', PN s' Q → SJ (cAt s q) s' (c + l.length) (M.map dq) d → ST b L s0 s' c (l ++ M.map dq) q d Q := fun s' h1 h2 => by
    refine ST_t hA ⟨h2.1, ⟨CP_E hA.2.1.1 h2.1, by rw [h2.2.1]; exact hA.2.1.2.1, h2.2.2.1, h2.2.2.2.2.2, h1⟩, h2.2.2.2.1, h2.2.2.2.2.1⟩
  obtain ⟨s', a1, a2, a3⟩ := key (-nI 1)
  refine ⟨s', ?_, st s' a2 a3, fun h24 x hx => ?_⟩
  · rw [a1]; exact if_pos rfl
  · obtain ⟨s'', d1, d2, d3⟩ := key (nI x)
    have hS2 := st s'' d2 d3
    have hS3 := ST_t hS2 (ST_P (x := x) hS2.2.1 hx h24)
    rw [List.append_nil] at hS3
    refine ⟨_, ?_, hS3⟩
    rw [d1]
    have k := p32 (x := x) hS2.2.1.2.2.2.2.1 h24
    unfold q34_47
    simp (disch := omega) only [k, nI_lit, nI_add, pk_mul, nI_clp, nI_eqv, nI_lev, nI_ltv, nI_neg, nI_neg', nI_subv, Nat.add_zero, Nat.zero_add, Nat.mul_zero, Nat.reduceAdd, bN_rv, bM_ru, bV_rv, bV_rx, bU_ru, bU_rx, bN_ite, bM_ite, bV_ite, bU_ite, ↓bx_e, ↓sp_e, gA_ok, gZ_n, gB_0, gB_1, gB_i, and_true, and_false, true_and, false_and, decide_true, decide_false, ↓reduceIte, not_true_eq_false, not_false_eq_true, Bool.false_eq_true, Bool.true_eq_false, Bool.and_true, Bool.and_false, Bool.true_and, Bool.false_and, Bool.or_true, Bool.or_false, Bool.true_or, Bool.false_or, Bool.not_true, Bool.not_false, le_f, le_t, lt_f, lt_t, eq_f, ↓reduceIte, not_true_eq_false, not_false_eq_true, ite_10, bt_0, bt_1]
def AR (b : Nat → Nat) (L : Nat) (K : mS → Option mQ) (s : mS) (c d j : Nat) (P : List Nat) (q : Option mQ) (r : LR) : Prop := match r with
  | .inl f => ∃ s', q = rv (nI 0) s' ∧ FE s s' ∧ s'.1 1 2 = nI f
  | .inr (p', l) => ∃ s' i' N', q = q30_14 K N' (nI 0) (nI i') s' ∧ i' ≤ p' ∧ L < N' + p' ∧ ST b L s s' c (l ++ List.replicate j (14, 0)) p' (d - j) P
def AC (b : Nat → Nat) (L : Nat) (K : mS → Option mQ) (k : Nat) : Prop := ∀ s p c d P j i N, CS b L s p c d (List.replicate j 2000 ++ P) → (∀ x r, P = x :: r → x ≠ 2000) → d + k = 6 → j ≤ d → (List.replicate j 2000 ++ P).length ≤ 3 * d + 2 → c + (List.replicate j 2000 ++ P).length < p → p ≤ L → sk b L p = p → i ≤ p → L < N + p → AR b L K s c d j P (q30_14 K N (nI 1) (nI i) s) (atomS b L k p)
theorem AC_leaf {s : mS} {p c d j i N : Nat} {P : List Nat} (h : CS b L s p c d (List.replicate j 2000 ++ P)) (hP : ∀ x r, P = x :: r → x ≠ 2000) (hd : d ≤ 6) (hj : j ≤ d) (hc : c + (List.replicate j 2000 ++ P).length < p) (hpL : p ≤ L) (hs : sk b L p = p) (hi : i ≤ p) (hN : L < N + p) (hw : d = 6 ∨ (wd b L 13 p = false ∧ isB b L 40 40 p = false)) : AR b L K s c d j P (q30_14 K N (nI 1) (nI i) s) (leafS b L p) := by
  have hL := h.1.1
  obtain ⟨N, rfl⟩ : ∃ M, N = M + 1 := ⟨N - 1, by omega⟩
  rw [List.length_append, List.length_replicate] at hc
  have k := p37 h.1 h.2.1 hpL hs h.2.2.1 (by omega)
  have kk := leaf_k (b := b) hpL hs
  rw [it_leaf h hpL hd (by omega) hw]
  cases e : leafS b L p with
  | inl f =>
    rw [e] at k
    obtain ⟨s1, a1, a2, a3⟩ := k
    refine ⟨s1, ?_, a2, a3⟩
    simp (disch := omega) only [a1, nI_lit, nI_add, pk_mul, nI_clp, nI_eqv, nI_lev, nI_ltv, nI_neg, nI_neg', nI_subv, Nat.add_zero, Nat.zero_add, Nat.mul_zero, Nat.reduceAdd, bN_rv, bM_ru, bV_rv, bV_rx, bU_ru, bU_rx, bN_ite, bM_ite, bV_ite, bU_ite, ↓bx_e, ↓sp_e, gA_ok, gZ_n, gB_0, gB_1, gB_i, and_true, and_false, true_and, false_and, decide_true, decide_false, ↓reduceIte, not_true_eq_false, not_false_eq_true, Bool.false_eq_true, Bool.true_eq_false, Bool.and_true, Bool.and_false, Bool.true_and, Bool.false_and, Bool.or_true, Bool.or_false, Bool.true_or, Bool.false_or, Bool.not_true, Bool.not_false, le_f, le_t, lt_f, lt_t, eq_f, ↓reduceIte, not_true_eq_false, not_false_eq_true, ite_10, bt_0, bt_1]
  | inr x =>
    rw [e] at k kk
    obtain ⟨s1, a1, a2⟩ := k
    obtain ⟨o1, o2, o3, o4, o5⟩ := kk
    obtain ⟨m1, m2, m3, m4, m5, m6, m7⟩ := a2
    obtain ⟨h1, h2, h3, h4, g1, g2, g3, g4⟩ := h
    have hN1 : PN s1 (List.replicate j 2000 ++ P) := ⟨by rw [m6]; exact g1, PL_u g2 (fun y _ => by rw [m7]), g3, g4⟩
    obtain ⟨s2, d1, d2, d3⟩ := p35_0 j P (c + x.2.length) d s1 10000 hP hN1 m3 (by rw [m6]; exact h4) hj (by omega) (by omega) (by omega)
    have d1' : q35 s1 = ru s2 := d1
    refine ⟨s2, i + 1, N, ?_, by omega, by omega, FE_t m1 d3.1, ⟨CP_E h1 (FE_t m1 d3.1), by rw [d3.2.1]; exact m2, by rw [d3.2.2.1, List.length_append, Nat.add_assoc], d3.2.2.2.2.2, d2⟩, DC_a (DC_c m4 (fun y hy => d3.2.2.2.2.1 y hy)) d3.2.2.2.1, fun y hy => by rw [d3.2.2.2.2.1 y (by omega), m5 y hy]⟩
    simp (disch := omega) only [a1, d1', nI_lit, nI_add, pk_mul, nI_clp, nI_eqv, nI_lev, nI_ltv, nI_neg, nI_neg', nI_subv, Nat.add_zero, Nat.zero_add, Nat.mul_zero, Nat.reduceAdd, bN_rv, bM_ru, bV_rv, bV_rx, bU_ru, bU_rx, bN_ite, bM_ite, bV_ite, bU_ite, ↓bx_e, ↓sp_e, gA_ok, gZ_n, gB_0, gB_1, gB_i, and_true, and_false, true_and, false_and, decide_true, decide_false, ↓reduceIte, not_true_eq_false, not_false_eq_true, Bool.false_eq_true, Bool.true_eq_false, Bool.and_true, Bool.and_false, Bool.true_and, Bool.false_and, Bool.or_true, Bool.or_false, Bool.true_or, Bool.false_or, Bool.not_true, Bool.not_false, le_f, le_t, lt_f, lt_t, eq_f, ↓reduceIte, not_true_eq_false, not_false_eq_true, ite_10, bt_0, bt_1]
end CL
