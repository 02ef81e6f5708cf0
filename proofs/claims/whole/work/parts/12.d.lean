section TOLD
variable {B : Nat} {s : mS}
theorem told_all (hG : G B s) : ∃ (n : Nat) (T : Bool) (w : Nat → Nat), n ≤ 5 ∧ s.1 27 0 = nI n ∧ s.1 513 0 = nI n ∧ (∀ c, c < 5 → s.1 (27 + 1) c = s.1 513 (49 + 5 * c)) ∧ (∀ c, c < 5 → s.1 (27 + 2) c = s.1 513 (49 + 5 * c + 1)) ∧ (∀ c, w c < 1000) ∧ q109 s = rv (b2 T) s ∧ (T = true → ∀ c, c < n → q168 (nI c) s = rv (nI (w c)) s) ∧ ∀ t : mS, t.1 = (us s).1 → (um t).1 513 = s.1 513 ∧ q312 (um t) = rv (b2 T) (um t) ∧ (T = true → ∀ c, c < n → q314 (nI c) (um t) = rv (nI (w c)) (um t)) := by
  have hG0 := hG
  obtain ⟨⟨hR, hL, T, hT, hA⟩, -, -, hX, -⟩ := hG0
  obtain ⟨n, hn, f0, y0, -, y1, y2, -, -⟩ := hR.2.1
  simp only [Nat.reduceAdd] at y0
  obtain ⟨L, b, x1, x2, x3, x4, x5, x6, x7⟩ := GT_b hX
  refine ⟨n, tld b L, wrN (s.1 513) b L, hn, y0, f0, y1, y2, fun c => ?_, p109 x1 x2 x6 x5, fun ht c hc => p168 hn hc y0 y1 y2 ht x2 x6, fun t ht => ?_⟩
  · have := wrg_le (s.1 513) b c (L / 2) 0 0
    unfold wrN
    omega
  · have e5 : (um t).1 513 = s.1 513 := by rw [um_n (by omega), ht, us_n (by omega)]
    have e11 : (um t).1 512 11 = nI L := by rw [um_11, ht, us_n (by omega)]; exact x4
    have e18 : ∀ i, i < L → (um t).1 518 i = sx (b i) := fun i hi => by rw [um_n (by omega), ht, us_n (by omega)]; exact x7 i hi
    exact ⟨e5, m312 x1 e11 e18 x5, fun hh c hc => m314 (by omega) e5 hh e11 e18⟩
theorem q185_1 {s : mS} : q185 (nI 1) s = ru s := if_pos (by decide)
theorem q185_0 {s : mS} : q185 (nI 0) s = rx 0 s := if_neg (by decide)
theorem z_who (hG : G B s) : ZT B [(0, 11, 1)] q164 q316 s := by
  obtain ⟨n, T, w, hn, y0, f0, y1, y2, hw, k1, k2, k3⟩ := told_all hG
  refine ZT_use (v := fitW w n 1) (T := T) hG ?_ (fun t ht => ?_)
  · unfold q164
    cases T with
    | true =>
      rw [b2_t] at k1
      have k4 := p167 hn y0 (fun c hc => ⟨hw c, k2 rfl c hc⟩)
      rw [if_pos rfl]
      simp (disch := omega) only [k1, k4, q164_20, q99_e, q185_1, nI_lit, nI_add, pk_mul, nI_clp, nI_eqv, nI_lev, nI_ltv, nI_neg, nI_neg', nI_subv, Nat.add_zero, Nat.zero_add, Nat.mul_zero, Nat.reduceAdd, bN_rv, bM_ru, bV_rv, bV_rx, bU_ru, bU_rx, bN_ite, bM_ite, bV_ite, bU_ite, ↓bx_e, ↓sp_e, gA_ok, gZ_n, gB_0, gB_1, gB_i, and_true, and_false, true_and, false_and, decide_true, decide_false, ↓reduceIte, not_true_eq_false, not_false_eq_true, Bool.false_eq_true, Bool.true_eq_false, Bool.and_true, Bool.and_false, Bool.true_and, Bool.false_and, Bool.or_true, Bool.or_false, Bool.true_or, Bool.false_or, Bool.not_true, Bool.not_false, le_f, le_t, lt_f, lt_t, eq_f, ↓reduceIte, not_true_eq_false, not_false_eq_true, ite_10, bt_0, bt_1]
    | false =>
      rw [b2_f] at k1
      rw [if_neg (by decide)]
      simp (disch := omega) only [k1, q164_20, q99_e, q185_0, nI_lit, nI_add, pk_mul, nI_clp, nI_eqv, nI_lev, nI_ltv, nI_neg, nI_neg', nI_subv, Nat.add_zero, Nat.zero_add, Nat.mul_zero, Nat.reduceAdd, bN_rv, bM_ru, bV_rv, bV_rx, bU_ru, bU_rx, bN_ite, bM_ite, bV_ite, bU_ite, ↓bx_e, ↓sp_e, gA_ok, gZ_n, gB_0, gB_1, gB_i, and_true, and_false, true_and, false_and, decide_true, decide_false, ↓reduceIte, not_true_eq_false, not_false_eq_true, Bool.false_eq_true, Bool.true_eq_false, Bool.and_true, Bool.and_false, Bool.true_and, Bool.false_and, Bool.or_true, Bool.or_false, Bool.true_or, Bool.false_or, Bool.not_true, Bool.not_false, le_f, le_t, lt_f, lt_t, eq_f, ↓reduceIte, not_true_eq_false, not_false_eq_true, ite_10, bt_0, bt_1]
  · obtain ⟨e5, g1, g2⟩ := k3 t ht
    unfold q316
    cases T with
    | true =>
      rw [b2_t] at g1
      have g3 := m315 (t := um t) (m := 1) hn (by omega) (by rw [e5]; exact f0) (fun c hc => ⟨hw c, g2 rfl c hc⟩)
      rw [if_pos rfl]
      simp (disch := omega) only [q224_e, g1, g3, q316_17, m188_0, nI_lit, nI_add, pk_mul, nI_clp, nI_eqv, nI_lev, nI_ltv, nI_neg, nI_neg', nI_subv, Nat.add_zero, Nat.zero_add, Nat.mul_zero, Nat.reduceAdd, bN_rv, bM_ru, bV_rv, bV_rx, bU_ru, bU_rx, bN_ite, bM_ite, bV_ite, bU_ite, ↓bx_e, ↓sp_e, gA_ok, gZ_n, gB_0, gB_1, gB_i, and_true, and_false, true_and, false_and, decide_true, decide_false, ↓reduceIte, not_true_eq_false, not_false_eq_true, Bool.false_eq_true, Bool.true_eq_false, Bool.and_true, Bool.and_false, Bool.true_and, Bool.false_and, Bool.or_true, Bool.or_false, Bool.true_or, Bool.false_or, Bool.not_true, Bool.not_false, le_f, le_t, lt_f, lt_t, eq_f, ↓reduceIte, not_true_eq_false, not_false_eq_true, ite_10, bt_0, bt_1]
    | false =>
      rw [b2_f] at g1
      rw [if_neg (by decide)]
      simp (disch := omega) only [q224_e, g1, q316_17, m188_1, nI_lit, nI_add, pk_mul, nI_clp, nI_eqv, nI_lev, nI_ltv, nI_neg, nI_neg', nI_subv, Nat.add_zero, Nat.zero_add, Nat.mul_zero, Nat.reduceAdd, bN_rv, bM_ru, bV_rv, bV_rx, bU_ru, bU_rx, bN_ite, bM_ite, bV_ite, bU_ite, ↓bx_e, ↓sp_e, gA_ok, gZ_n, gB_0, gB_1, gB_i, and_true, and_false, true_and, false_and, decide_true, decide_false, ↓reduceIte, not_true_eq_false, not_false_eq_true, Bool.false_eq_true, Bool.true_eq_false, Bool.and_true, Bool.and_false, Bool.true_and, Bool.false_and, Bool.or_true, Bool.or_false, Bool.true_or, Bool.false_or, Bool.not_true, Bool.not_false, le_f, le_t, lt_f, lt_t, eq_f, ↓reduceIte, not_true_eq_false, not_false_eq_true, ite_10, bt_0, bt_1]
theorem z_likely (hG : G B s) : ZT B [(0, 11, 1)] q165 q317 s := by
  obtain ⟨n, T, w, hn, y0, f0, y1, y2, hw, k1, k2, k3⟩ := told_all hG
  refine ZT_use (v := oI (fo (lkS w) n 0 (none, 2)).1) (T := T) hG ?_ (fun t ht => ?_)
  · unfold q165
    cases T with
    | true =>
      rw [b2_t] at k1
      have k4 := p165_15 (K := q165_60) hn y0 hw (fun c hc => k2 rfl c hc) n 0 (none, 2) 10000 (by omega) (by omega) (by show 2 < 1000; omega)
      rw [show oI (none, 2).1 = -nI 1 from rfl] at k4
      rw [if_pos rfl]
      have k5 : q165_15 q165_60 10000 (nI 1) (-nI 1) (nI 2) (nI 0) s = _ := k4
      simp (disch := omega) only [k1, k5, q165_60, q99_e, q185_1, nI_lit, nI_add, pk_mul, nI_clp, nI_eqv, nI_lev, nI_ltv, nI_neg, nI_neg', nI_subv, Nat.add_zero, Nat.zero_add, Nat.mul_zero, Nat.reduceAdd, bN_rv, bM_ru, bV_rv, bV_rx, bU_ru, bU_rx, bN_ite, bM_ite, bV_ite, bU_ite, ↓bx_e, ↓sp_e, gA_ok, gZ_n, gB_0, gB_1, gB_i, and_true, and_false, true_and, false_and, decide_true, decide_false, ↓reduceIte, not_true_eq_false, not_false_eq_true, Bool.false_eq_true, Bool.true_eq_false, Bool.and_true, Bool.and_false, Bool.true_and, Bool.false_and, Bool.or_true, Bool.or_false, Bool.true_or, Bool.false_or, Bool.not_true, Bool.not_false, le_f, le_t, lt_f, lt_t, eq_f, ↓reduceIte, not_true_eq_false, not_false_eq_true, ite_10, bt_0, bt_1]
    | false =>
      rw [b2_f] at k1
      rw [if_neg (by decide)]
      have k5 : ∀ N, q165_15 q165_60 (N + 1) (nI 0) (-nI 1) (nI 2) (nI 0) s = q165_60 (nI 0) (-nI 1) s := fun N => by rw [q165_15, if_pos (show nI 0 = 0 from rfl)]
      have k6 : q165_15 q165_60 10000 (nI 0) (-nI 1) (nI 2) (nI 0) s = _ := k5 9999
      simp (disch := omega) only [k1, k6, q165_60, q99_e, q185_0, nI_lit, nI_add, pk_mul, nI_clp, nI_eqv, nI_lev, nI_ltv, nI_neg, nI_neg', nI_subv, Nat.add_zero, Nat.zero_add, Nat.mul_zero, Nat.reduceAdd, bN_rv, bM_ru, bV_rv, bV_rx, bU_ru, bU_rx, bN_ite, bM_ite, bV_ite, bU_ite, ↓bx_e, ↓sp_e, gA_ok, gZ_n, gB_0, gB_1, gB_i, and_true, and_false, true_and, false_and, decide_true, decide_false, ↓reduceIte, not_true_eq_false, not_false_eq_true, Bool.false_eq_true, Bool.true_eq_false, Bool.and_true, Bool.and_false, Bool.true_and, Bool.false_and, Bool.or_true, Bool.or_false, Bool.true_or, Bool.false_or, Bool.not_true, Bool.not_false, le_f, le_t, lt_f, lt_t, eq_f, ↓reduceIte, not_true_eq_false, not_false_eq_true, ite_10, bt_0, bt_1]
  · obtain ⟨e5, g1, g2⟩ := k3 t ht
    unfold q317
    cases T with
    | true =>
      rw [b2_t] at g1
      have g3 := m315 (t := um t) (m := 1) hn (by omega) (by rw [e5]; exact f0) (fun c hc => ⟨hw c, g2 rfl c hc⟩)
      have g4 := m315 (t := um t) (m := 0) hn (by omega) (by rw [e5]; exact f0) (fun c hc => ⟨hw c, g2 rfl c hc⟩)
      rw [if_pos rfl, lk_2]
      rcases fit_f (w := w) (m := 0) hn with ⟨a1, a2⟩ | ⟨j, a1, a2, a3⟩
      · rw [a2] at g4
        rw [a1]
        rcases fit_f (w := w) (m := 1) hn with ⟨b1, b2⟩ | ⟨j, b1, b2, b3⟩
        · rw [b2] at g3
          rw [b1, show oI none = -nI 1 from rfl]
          simp (disch := omega) only [q224_e, g1, g3, g4, q317_17, q317_47, m188_0, nI_lit, nI_add, pk_mul, nI_clp, nI_eqv, nI_lev, nI_ltv, nI_neg, nI_neg', nI_subv, Nat.add_zero, Nat.zero_add, Nat.mul_zero, Nat.reduceAdd, bN_rv, bM_ru, bV_rv, bV_rx, bU_ru, bU_rx, bN_ite, bM_ite, bV_ite, bU_ite, ↓bx_e, ↓sp_e, gA_ok, gZ_n, gB_0, gB_1, gB_i, and_true, and_false, true_and, false_and, decide_true, decide_false, ↓reduceIte, not_true_eq_false, not_false_eq_true, Bool.false_eq_true, Bool.true_eq_false, Bool.and_true, Bool.and_false, Bool.true_and, Bool.false_and, Bool.or_true, Bool.or_false, Bool.true_or, Bool.false_or, Bool.not_true, Bool.not_false, le_f, le_t, lt_f, lt_t, eq_f, ↓reduceIte, not_true_eq_false, not_false_eq_true, ite_10, bt_0, bt_1]
        · rw [b1, show oI (some j) = nI j from rfl]
          simp (disch := omega) only [q224_e, g1, g3, g4, q317_17, q317_47, q269, q342_e, b2, b3, m188_0, nI_lit, nI_add, pk_mul, nI_clp, nI_eqv, nI_lev, nI_ltv, nI_neg, nI_neg', nI_subv, Nat.add_zero, Nat.zero_add, Nat.mul_zero, Nat.reduceAdd, bN_rv, bM_ru, bV_rv, bV_rx, bU_ru, bU_rx, bN_ite, bM_ite, bV_ite, bU_ite, ↓bx_e, ↓sp_e, gA_ok, gZ_n, gB_0, gB_1, gB_i, and_true, and_false, true_and, false_and, decide_true, decide_false, ↓reduceIte, not_true_eq_false, not_false_eq_true, Bool.false_eq_true, Bool.true_eq_false, Bool.and_true, Bool.and_false, Bool.true_and, Bool.false_and, Bool.or_true, Bool.or_false, Bool.true_or, Bool.false_or, Bool.not_true, Bool.not_false, le_f, le_t, lt_f, lt_t, eq_f, ↓reduceIte, not_true_eq_false, not_false_eq_true, ite_10, bt_0, bt_1]
      · rw [a1]
        show _ = rv (oI (some j)) (um t)
        rw [show oI (some j) = nI j from rfl]
        simp (disch := omega) only [q224_e, g1, g4, q317_17, q317_47, q269, q342_e, a2, a3, m188_0, nI_lit, nI_add, pk_mul, nI_clp, nI_eqv, nI_lev, nI_ltv, nI_neg, nI_neg', nI_subv, Nat.add_zero, Nat.zero_add, Nat.mul_zero, Nat.reduceAdd, bN_rv, bM_ru, bV_rv, bV_rx, bU_ru, bU_rx, bN_ite, bM_ite, bV_ite, bU_ite, ↓bx_e, ↓sp_e, gA_ok, gZ_n, gB_0, gB_1, gB_i, and_true, and_false, true_and, false_and, decide_true, decide_false, ↓reduceIte, not_true_eq_false, not_false_eq_true, Bool.false_eq_true, Bool.true_eq_false, Bool.and_true, Bool.and_false, Bool.true_and, Bool.false_and, Bool.or_true, Bool.or_false, Bool.true_or, Bool.false_or, Bool.not_true, Bool.not_false, le_f, le_t, lt_f, lt_t, eq_f, ↓reduceIte, not_true_eq_false, not_false_eq_true, ite_10, bt_0, bt_1]
    | false =>
      rw [b2_f] at g1
      rw [if_neg (by decide)]
      simp (disch := omega) only [q224_e, g1, q317_17, m188_1, nI_lit, nI_add, pk_mul, nI_clp, nI_eqv, nI_lev, nI_ltv, nI_neg, nI_neg', nI_subv, Nat.add_zero, Nat.zero_add, Nat.mul_zero, Nat.reduceAdd, bN_rv, bM_ru, bV_rv, bV_rx, bU_ru, bU_rx, bN_ite, bM_ite, bV_ite, bU_ite, ↓bx_e, ↓sp_e, gA_ok, gZ_n, gB_0, gB_1, gB_i, and_true, and_false, true_and, false_and, decide_true, decide_false, ↓reduceIte, not_true_eq_false, not_false_eq_true, Bool.false_eq_true, Bool.true_eq_false, Bool.and_true, Bool.and_false, Bool.true_and, Bool.false_and, Bool.or_true, Bool.or_false, Bool.true_or, Bool.false_or, Bool.not_true, Bool.not_false, le_f, le_t, lt_f, lt_t, eq_f, ↓reduceIte, not_true_eq_false, not_false_eq_true, ite_10, bt_0, bt_1]
theorem z_ask (hG : G B s) : ZT B [(0, 11, 1)] q166 q318 s := by
  obtain ⟨n, T, w, hn, y0, f0, y1, y2, hw, k1, k2, k3⟩ := told_all hG
  have hl := cnn_l (fun c => decide (w c ≤ 1)) n 0 0
  have kb : bc (fitW w n 1) = nI (cnn (fun c => decide (w c ≤ 1)) n 0 0) := bc_w hn (fitW_b hn)
  have hu : ∀ b, b ≠ 1 → (us s).1 b = s.1 b := fun b h => us_n h
  by_cases hA : 2 ≤ cnn (fun c => decide (w c ≤ 1)) n 0 0
  · have hs : (fo (askS (fun row => ptA (fun c => decide (w c ≤ 1)) (fun c => dn (s.1 513) c row) n)) 20 0 (-nI 1, 1000000)).1 = (fo (askS (fun row => ptA (fun c => decide (w c ≤ 1)) (fun c => dn (s.1 513) c row) n)) 20 0 (-nI 1, cnn (fun c => decide (w c ≤ 1)) n 0 0 + 1)).1 := by
      have h4 := ptA_l (fun c => decide (w c ≤ 1)) (fun c => dn (s.1 513) c 0) n
      have e : ∀ x, cnn (fun c => decide (w c ≤ 1)) n 0 0 < x → askS (fun row => ptA (fun c => decide (w c ≤ 1)) (fun c => dn (s.1 513) c row) n) 0 (-nI 1, x) = (nI 0, ptA (fun c => decide (w c ≤ 1)) (fun c => dn (s.1 513) c 0) n) := fun x hx => if_pos (by show ptA (fun c => decide (w c ≤ 1)) (fun c => dn (s.1 513) c 0) n < x; omega)
      have h20 : ∀ (g : Nat → Int32 × Nat → Int32 × Nat) a, fo g 20 0 a = fo g 19 1 (g 0 a) := fun g a => rfl
      rw [h20, h20, e 1000000 (by omega), e (cnn (fun c => decide (w c ≤ 1)) n 0 0 + 1) (by omega)]
    refine ZT_use (v := (fo (askS (fun row => ptA (fun c => decide (w c ≤ 1)) (fun c => dn (s.1 513) c row) n)) 20 0 (-nI 1, cnn (fun c => decide (w c ≤ 1)) n 0 0 + 1)).1) (T := T) hG ?_ (fun t ht => ?_)
    · unfold q166
      cases T with
      | true =>
        rw [b2_t] at k1
        have k4 := p167 hn y0 (fun c hc => ⟨hw c, k2 rfl c hc⟩)
        have k5 : q166_48 10000 (fitW w n 1) (nI (cnn (fun c => decide (w c ≤ 1)) n 0 0)) (-nI 1) (nI (cnn (fun c => decide (w c ≤ 1)) n 0 0 + 1)) (nI 0) (us s) = _ := p166_48 (s := us s) (f := s.1 513) (w := w) hn (by rw [hu _ (by omega)]; exact y0) (fun c hc => by rw [hu _ (by omega)]; exact y1 c hc) (fun c hc => by rw [hu _ (by omega)]; exact y2 c hc) hA 20 0 (-nI 1, cnn (fun c => decide (w c ≤ 1)) n 0 0 + 1) 10000 (by omega) (by omega) (by show cnn (fun c => decide (w c ≤ 1)) n 0 0 + 1 < 1000; omega)
        rw [if_pos rfl]
        simp (disch := omega) only [k1, k4, q166_20, q99_e, q185_1, q343_e, kb, k5, nI_lit, nI_add, pk_mul, nI_clp, nI_eqv, nI_lev, nI_ltv, nI_neg, nI_neg', nI_subv, Nat.add_zero, Nat.zero_add, Nat.mul_zero, Nat.reduceAdd, bN_rv, bM_ru, bV_rv, bV_rx, bU_ru, bU_rx, bN_ite, bM_ite, bV_ite, bU_ite, ↓bx_e, ↓sp_e, gA_ok, gZ_n, gB_0, gB_1, gB_i, and_true, and_false, true_and, false_and, decide_true, decide_false, ↓reduceIte, not_true_eq_false, not_false_eq_true, Bool.false_eq_true, Bool.true_eq_false, Bool.and_true, Bool.and_false, Bool.true_and, Bool.false_and, Bool.or_true, Bool.or_false, Bool.true_or, Bool.false_or, Bool.not_true, Bool.not_false, le_f, le_t, lt_f, lt_t, eq_f, ↓reduceIte, not_true_eq_false, not_false_eq_true, ite_10, bt_0, bt_1]
      | false =>
        rw [b2_f] at k1
        rw [if_neg (by decide)]
        simp (disch := omega) only [k1, q166_20, q99_e, q185_0, nI_lit, nI_add, pk_mul, nI_clp, nI_eqv, nI_lev, nI_ltv, nI_neg, nI_neg', nI_subv, Nat.add_zero, Nat.zero_add, Nat.mul_zero, Nat.reduceAdd, bN_rv, bM_ru, bV_rv, bV_rx, bU_ru, bU_rx, bN_ite, bM_ite, bV_ite, bU_ite, ↓bx_e, ↓sp_e, gA_ok, gZ_n, gB_0, gB_1, gB_i, and_true, and_false, true_and, false_and, decide_true, decide_false, ↓reduceIte, not_true_eq_false, not_false_eq_true, Bool.false_eq_true, Bool.true_eq_false, Bool.and_true, Bool.and_false, Bool.true_and, Bool.false_and, Bool.or_true, Bool.or_false, Bool.true_or, Bool.false_or, Bool.not_true, Bool.not_false, le_f, le_t, lt_f, lt_t, eq_f, ↓reduceIte, not_true_eq_false, not_false_eq_true, ite_10, bt_0, bt_1]
    · obtain ⟨e5, g1, g2⟩ := k3 t ht
      unfold q318
      cases T with
      | true =>
        rw [b2_t] at g1
        have g3 := m315 (t := um t) (m := 1) hn (by omega) (by rw [e5]; exact f0) (fun c hc => ⟨hw c, g2 rfl c hc⟩)
        have g4 : q318_47 10000 (fitW w n 1) (nI (cnn (fun c => decide (w c ≤ 1)) n 0 0)) (-nI 1) (nI 1000000) (nI 0) (um t) = _ := m318_47 (t := um t) (f := s.1 513) (w := w) hn e5 f0 hA 20 0 (-nI 1, 1000000) 10000 (by omega) (by omega) (by show 1000000 < 2000000; omega)
        rw [hs] at g4
        rw [if_pos rfl]
        simp (disch := omega) only [q224_e, g1, g3, q318_17, m188_0, q343_e, kb, g4, nI_lit, nI_add, pk_mul, nI_clp, nI_eqv, nI_lev, nI_ltv, nI_neg, nI_neg', nI_subv, Nat.add_zero, Nat.zero_add, Nat.mul_zero, Nat.reduceAdd, bN_rv, bM_ru, bV_rv, bV_rx, bU_ru, bU_rx, bN_ite, bM_ite, bV_ite, bU_ite, ↓bx_e, ↓sp_e, gA_ok, gZ_n, gB_0, gB_1, gB_i, and_true, and_false, true_and, false_and, decide_true, decide_false, ↓reduceIte, not_true_eq_false, not_false_eq_true, Bool.false_eq_true, Bool.true_eq_false, Bool.and_true, Bool.and_false, Bool.true_and, Bool.false_and, Bool.or_true, Bool.or_false, Bool.true_or, Bool.false_or, Bool.not_true, Bool.not_false, le_f, le_t, lt_f, lt_t, eq_f, ↓reduceIte, not_true_eq_false, not_false_eq_true, ite_10, bt_0, bt_1]
      | false =>
        rw [b2_f] at g1
        rw [if_neg (by decide)]
        simp (disch := omega) only [q224_e, g1, q318_17, m188_1, nI_lit, nI_add, pk_mul, nI_clp, nI_eqv, nI_lev, nI_ltv, nI_neg, nI_neg', nI_subv, Nat.add_zero, Nat.zero_add, Nat.mul_zero, Nat.reduceAdd, bN_rv, bM_ru, bV_rv, bV_rx, bU_ru, bU_rx, bN_ite, bM_ite, bV_ite, bU_ite, ↓bx_e, ↓sp_e, gA_ok, gZ_n, gB_0, gB_1, gB_i, and_true, and_false, true_and, false_and, decide_true, decide_false, ↓reduceIte, not_true_eq_false, not_false_eq_true, Bool.false_eq_true, Bool.true_eq_false, Bool.and_true, Bool.and_false, Bool.true_and, Bool.false_and, Bool.or_true, Bool.or_false, Bool.true_or, Bool.false_or, Bool.not_true, Bool.not_false, le_f, le_t, lt_f, lt_t, eq_f, ↓reduceIte, not_true_eq_false, not_false_eq_true, ite_10, bt_0, bt_1]
  · refine ZT_use (v := -nI 1) (T := T) hG ?_ (fun t ht => ?_)
    · unfold q166
      cases T with
      | true =>
        rw [b2_t] at k1
        have k4 := p167 hn y0 (fun c hc => ⟨hw c, k2 rfl c hc⟩)
        have k6 : ∀ N x, q166_48 (N + 1) (fitW w n 1) (nI (cnn (fun c => decide (w c ≤ 1)) n 0 0)) (-nI 1) x (nI 0) (us s) = rv (-nI 1) (us s) := fun N x => by
          rw [q166_48]
          simp (disch := omega) only [nI_lit, nI_add, pk_mul, nI_clp, nI_eqv, nI_lev, nI_ltv, nI_neg, nI_neg', nI_subv, Nat.add_zero, Nat.zero_add, Nat.mul_zero, Nat.reduceAdd, bN_rv, bM_ru, bV_rv, bV_rx, bU_ru, bU_rx, bN_ite, bM_ite, bV_ite, bU_ite, ↓bx_e, ↓sp_e, gA_ok, gZ_n, gB_0, gB_1, gB_i, and_true, and_false, true_and, false_and, decide_true, decide_false, ↓reduceIte, not_true_eq_false, not_false_eq_true, Bool.false_eq_true, Bool.true_eq_false, Bool.and_true, Bool.and_false, Bool.true_and, Bool.false_and, Bool.or_true, Bool.or_false, Bool.true_or, Bool.false_or, Bool.not_true, Bool.not_false, le_f, le_t, lt_f, lt_t, eq_f, ↓reduceIte, not_true_eq_false, not_false_eq_true, ite_10, bt_0, bt_1]
        have k5 : ∀ x, q166_48 10000 (fitW w n 1) (nI (cnn (fun c => decide (w c ≤ 1)) n 0 0)) (-nI 1) x (nI 0) (us s) = rv (-nI 1) (us s) := k6 9999
        rw [if_pos rfl]
        simp (disch := omega) only [k1, k4, q166_20, q99_e, q185_1, q343_e, kb, k5, nI_lit, nI_add, pk_mul, nI_clp, nI_eqv, nI_lev, nI_ltv, nI_neg, nI_neg', nI_subv, Nat.add_zero, Nat.zero_add, Nat.mul_zero, Nat.reduceAdd, bN_rv, bM_ru, bV_rv, bV_rx, bU_ru, bU_rx, bN_ite, bM_ite, bV_ite, bU_ite, ↓bx_e, ↓sp_e, gA_ok, gZ_n, gB_0, gB_1, gB_i, and_true, and_false, true_and, false_and, decide_true, decide_false, ↓reduceIte, not_true_eq_false, not_false_eq_true, Bool.false_eq_true, Bool.true_eq_false, Bool.and_true, Bool.and_false, Bool.true_and, Bool.false_and, Bool.or_true, Bool.or_false, Bool.true_or, Bool.false_or, Bool.not_true, Bool.not_false, le_f, le_t, lt_f, lt_t, eq_f, ↓reduceIte, not_true_eq_false, not_false_eq_true, ite_10, bt_0, bt_1]
      | false =>
        rw [b2_f] at k1
        rw [if_neg (by decide)]
        simp (disch := omega) only [k1, q166_20, q99_e, q185_0, nI_lit, nI_add, pk_mul, nI_clp, nI_eqv, nI_lev, nI_ltv, nI_neg, nI_neg', nI_subv, Nat.add_zero, Nat.zero_add, Nat.mul_zero, Nat.reduceAdd, bN_rv, bM_ru, bV_rv, bV_rx, bU_ru, bU_rx, bN_ite, bM_ite, bV_ite, bU_ite, ↓bx_e, ↓sp_e, gA_ok, gZ_n, gB_0, gB_1, gB_i, and_true, and_false, true_and, false_and, decide_true, decide_false, ↓reduceIte, not_true_eq_false, not_false_eq_true, Bool.false_eq_true, Bool.true_eq_false, Bool.and_true, Bool.and_false, Bool.true_and, Bool.false_and, Bool.or_true, Bool.or_false, Bool.true_or, Bool.false_or, Bool.not_true, Bool.not_false, le_f, le_t, lt_f, lt_t, eq_f, ↓reduceIte, not_true_eq_false, not_false_eq_true, ite_10, bt_0, bt_1]
    · obtain ⟨e5, g1, g2⟩ := k3 t ht
      unfold q318
      cases T with
      | true =>
        rw [b2_t] at g1
        have g3 := m315 (t := um t) (m := 1) hn (by omega) (by rw [e5]; exact f0) (fun c hc => ⟨hw c, g2 rfl c hc⟩)
        have k6 : ∀ N x, q318_47 (N + 1) (fitW w n 1) (nI (cnn (fun c => decide (w c ≤ 1)) n 0 0)) (-nI 1) x (nI 0) (um t) = rv (-nI 1) (um t) := fun N x => by
          rw [q318_47]
          simp (disch := omega) only [nI_lit, nI_add, pk_mul, nI_clp, nI_eqv, nI_lev, nI_ltv, nI_neg, nI_neg', nI_subv, Nat.add_zero, Nat.zero_add, Nat.mul_zero, Nat.reduceAdd, bN_rv, bM_ru, bV_rv, bV_rx, bU_ru, bU_rx, bN_ite, bM_ite, bV_ite, bU_ite, ↓bx_e, ↓sp_e, gA_ok, gZ_n, gB_0, gB_1, gB_i, and_true, and_false, true_and, false_and, decide_true, decide_false, ↓reduceIte, not_true_eq_false, not_false_eq_true, Bool.false_eq_true, Bool.true_eq_false, Bool.and_true, Bool.and_false, Bool.true_and, Bool.false_and, Bool.or_true, Bool.or_false, Bool.true_or, Bool.false_or, Bool.not_true, Bool.not_false, le_f, le_t, lt_f, lt_t, eq_f, ↓reduceIte, not_true_eq_false, not_false_eq_true, ite_10, bt_0, bt_1]
        have k5 : ∀ x, q318_47 10000 (fitW w n 1) (nI (cnn (fun c => decide (w c ≤ 1)) n 0 0)) (-nI 1) x (nI 0) (um t) = rv (-nI 1) (um t) := k6 9999
        rw [if_pos rfl]
        simp (disch := omega) only [q224_e, g1, g3, q318_17, m188_0, q343_e, kb, k5, nI_lit, nI_add, pk_mul, nI_clp, nI_eqv, nI_lev, nI_ltv, nI_neg, nI_neg', nI_subv, Nat.add_zero, Nat.zero_add, Nat.mul_zero, Nat.reduceAdd, bN_rv, bM_ru, bV_rv, bV_rx, bU_ru, bU_rx, bN_ite, bM_ite, bV_ite, bU_ite, ↓bx_e, ↓sp_e, gA_ok, gZ_n, gB_0, gB_1, gB_i, and_true, and_false, true_and, false_and, decide_true, decide_false, ↓reduceIte, not_true_eq_false, not_false_eq_true, Bool.false_eq_true, Bool.true_eq_false, Bool.and_true, Bool.and_false, Bool.true_and, Bool.false_and, Bool.or_true, Bool.or_false, Bool.true_or, Bool.false_or, Bool.not_true, Bool.not_false, le_f, le_t, lt_f, lt_t, eq_f, ↓reduceIte, not_true_eq_false, not_false_eq_true, ite_10, bt_0, bt_1]
      | false =>
        rw [b2_f] at g1
        rw [if_neg (by decide)]
        simp (disch := omega) only [q224_e, g1, q318_17, m188_1, nI_lit, nI_add, pk_mul, nI_clp, nI_eqv, nI_lev, nI_ltv, nI_neg, nI_neg', nI_subv, Nat.add_zero, Nat.zero_add, Nat.mul_zero, Nat.reduceAdd, bN_rv, bM_ru, bV_rv, bV_rx, bU_ru, bU_rx, bN_ite, bM_ite, bV_ite, bU_ite, ↓bx_e, ↓sp_e, gA_ok, gZ_n, gB_0, gB_1, gB_i, and_true, and_false, true_and, false_and, decide_true, decide_false, ↓reduceIte, not_true_eq_false, not_false_eq_true, Bool.false_eq_true, Bool.true_eq_false, Bool.and_true, Bool.and_false, Bool.true_and, Bool.false_and, Bool.or_true, Bool.or_false, Bool.true_or, Bool.false_or, Bool.not_true, Bool.not_false, le_f, le_t, lt_f, lt_t, eq_f, ↓reduceIte, not_true_eq_false, not_false_eq_true, ite_10, bt_0, bt_1]
end TOLD
