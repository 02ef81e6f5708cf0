/-! STORE: both sides -/
section STO
theorem RW_t1 {s : mS} {f : Nat → Int32} {v : Int32} (h : RW s 26 f) (hw : IW f) : RW (sI s 26 13 v) 26 (upd f 1 v) := by
  obtain ⟨h1, h2, h3, h4, h5, h6, h7, h8, h9, h10⟩ := h
  have c : ∀ b, b ≠ 26 → (sI s 26 13 v).1 b = s.1 b := fun b hb => sI_fn hb
  have g : ∀ j, j ≠ 1 → upd f 1 v j = f j := fun j hj => ud_n hj
  refine ⟨RS_c h1 hw (fun b x y => c b (by omega)) (fun j x y => g j (by omega)) (fun j x => g _ (by omega)), RC_c h2 (fun b x y => c b (by omega)) (g 0 (by omega)) (fun j x y => g j (by omega)), RK_c h3 (fun b x y => c b (by omega)) (fun j x y => g j (by omega)), RLg_c h4 (fun b x y => c b (by omega)) (g 6 (by omega)) (fun j x y => g j (by omega)), RH_c h5 (fun b x y => c b (by omega)) (g 7 (by omega)) (fun j x y => g j (by omega)), ?_, ?_, ?_, ?_, ?_⟩
  · rw [sI_sm, ud_n (by omega), g 3 (by omega)]; exact h6
  · rw [sI_sm, ud_n (by omega), g 4 (by omega)]; exact h7
  · rw [sI_sm, ud_n (by omega), g 5 (by omega)]; exact h8
  · rw [sI_sm, ud_n (by omega), g 8 (by omega)]; exact h9
  · rw [sI_sm, ud_e rfl, ud_e rfl]
theorem IB_t1 {T B k : Nat} {f : Nat → Int32} (h : IB T B f) (hk : k ≤ 12) : IB T B (upd f 1 (nI k)) := by
  obtain ⟨hA, hU, hH⟩ := h
  have hg : ∀ j, j ≠ 1 → upd f 1 (nI k) j = f j := fun j x => ud_n x
  refine ⟨IA_g hA ?_ (fun j hj => hg j (by omega)), IU_c hU (fun j x y => hg j (by omega)), fun i hi => ?_, fun j hj => ?_⟩
  · obtain ⟨h1, ⟨n, hn, a0, a1, a2, a3, a4⟩, h3, ⟨t0, t3, t⟩, k6, hk6, h4⟩ := hA.1
    refine ⟨IS_c h1 (fun j x y => hg _ (by omega)), ⟨n, hn, ?_, fun c hc => ?_, fun c w' hc hc5 hw' => ?_, fun c j hc hj => ?_, fun j hj hv => ?_⟩, WLw_c (hg _ (by omega)) (fun j a b => hg _ (by omega)) h3, ⟨t0, by rw [hg _ (by omega)]; exact t3, fun l hl => ?_⟩, k6, hk6, by rw [hg _ (by omega)]; exact h4⟩
    · rw [hg _ (by omega)]; exact a0
    · rw [hg _ (by omega)]; exact a1 c hc
    · rw [hg _ (by omega)]; exact a2 c w' hc hc5 hw'
    · rw [hg _ (by omega), hg _ (by omega)]; exact a3 c j hc hj
    · rw [wh_c (hg _ (by omega))]; exact a4 j hj (by rw [← sU_c (f := f) (hg _ (by omega))]; exact hv)
    · rw [hg _ (by omega), hg _ (by omega), hg _ (by omega)]; exact t l hl
  · rw [wh_c (hg _ (by omega))]; exact hH.1 i hi
  · by_cases e : j = 1
    · subst e; rw [ud_e rfl]; exact ⟨by rw [nI_lev (by omega) (by omega)]; omega, fun _ => by rw [nI_lev (by omega) (by omega)]; exact hk⟩
    · rw [hg j e]; exact hH.2 j hj
theorem IH_1 {f : Nat → Int32} (h : IH f) : ∃ k, k ≤ 12 ∧ f 1 = nI k := by
  obtain ⟨h1, h2⟩ := h.2 1 (by unfold HX; omega)
  rcases ix_of (f 1) 13 (by omega) with q | q | ⟨k, hk, e⟩
  · exact absurd q (Int32.not_lt.mpr h1)
  · exact absurd (Int32.le_trans q (h2 rfl)) (by decide)
  · exact ⟨k, by omega, e⟩
theorem z_store {B : Nat} {s : mS} (hG : G B s) : ZT B [(0, 11, 1), (1, 14, 2)] q130 q241 s := by
  have hG0 := hG
  obtain ⟨⟨hR, hL, T, hT, hA⟩, -, -, hX, -, hU, -⟩ := hG0
  obtain ⟨L, b, x1, x2, x3, x4, x5, x6, x7⟩ := GT_b hX
  have hI : IB T B (s.1 513) := ⟨hA, hU⟩
  obtain ⟨kt, hkt, ekt⟩ := IH_1 hU.2
  obtain ⟨s0, c1, c2, c3⟩ := p111 (s := s) (a := 58) (b := 26) (by omega)
  have hC : CP b L s0 := ⟨x1, x5, by rw [c3.1 1 (by omega)]; exact x2, fun i hi => by rw [c3.1 2 (by omega)]; exact x6 i hi⟩
  have k := p92 hC (c2 _ hR) hI
  have tb : ∀ t : mS, t.1 512 9 = nI L → t.1 518 = s.1 518 → TB b L (um t) := fun t h9 h18 => ⟨x1, x5, by rw [um_11]; exact h9, fun i hi => by rw [um_n (by omega), h18]; exact x7 i hi⟩
  have m0 : (nI 0 ≤ -nI 1) = False := eq_false (by decide)
  have n1c : (nI 1).toNatClampNeg = 1 := nI_clp (by omega)
  -- what the reference does when it throws: the row comes back
  have back : ∀ (u : mS) (c : Nat), (∀ j, j < 1619 → u.1 515 j = s.1 513 j) → ∃ u', q241_90 (sI u 512 0 (nI c)) = rv (nI 0) u' ∧ F1 513 (sI u 512 0 (nI c)) u' ∧ ∀ j, j < 1619 → u'.1 513 j = s.1 513 j := fun u c h5 => by
    obtain ⟨u', g1, g2, g3⟩ := m241_92 (t := sI u 512 0 (nI c)) 1619 0 10000 _ F1_r (by omega) (by omega) (fun j hj => by omega)
    exact ⟨u', g1, g2, fun j hj => by rw [g3 j hj, sI_fn (by omega)]; exact h5 j hj⟩
  -- the end of a call that throws
  have fail : ∀ (y : Int32) (c : Nat) (s2 : mS), FS s0 s2 → ∀ t : mS, t.1 = (us (sI s2 0 13 y)).1 → ∀ (tc t1 u' : mS), F1 515 t tc → (∀ j, j < 1619 → tc.1 515 j = t.1 513 j) → FT (sI (um tc) 512 16 (nI 0)) t1 → F1 513 (sI (sI t1 512 14 y) 512 0 (nI c)) u' → (∀ j, j < 1619 → u'.1 513 j = s.1 513 j) → G B u' := fun y c s2 a2 t ht tc t1 u' f1 f2 f3 f4 f5 => by
    have d : ∀ z, z ≠ 0 → z ≠ 1 → ¬ (58 ≤ z ∧ z < 90) → t.1 z = s.1 z := fun z u v w => by rw [ht, us_n v, sI_fn u, a2.1 z v w, c3.1 z (by omega)]
    have cz : ∀ z, z ≠ 512 → z ≠ 513 → z ≠ 515 → u'.1 z = t.1 z := fun z u v w => by rw [f4.1 z v, sI_fn u, sI_fn u, f3.1 z u v, sI_fn u, um_n u, f1.1 z w]
    have cj : ∀ j, j ≠ 0 → j ≠ 9 → j ≠ 10 → j ≠ 11 → j ≠ 12 → j ≠ 14 → j ≠ 16 → u'.1 512 j = t.1 512 j := fun j a b c d e f g => by rw [f4.1 512 (by omega), sI_sm, ud_n a, sI_sm, ud_n f, f3.2.1 j c e, sI_sm, ud_n g, um_j ⟨a, b, c, d⟩, f1.1 512 (by omega)]
    refine G_y hG (fun z a0 a1 _ _ _ _ _ a3 _ a4 a5 a6 _ _ => by rw [cz z a4 a5 a6, d z a0 a1 a3]) f5 (fun j hj => by rw [cj j (by omega) (by omega) (by omega) (by omega) (by omega) (by omega) (by omega), d 512 (by omega) (by omega) (by omega)]) (fun j hj => by rw [cz 0 (by omega) (by omega) (by omega), ht, us_n (by omega), sI_sm, ud_n hj, a2.1 0 (by omega) (by omega), c3.1 0 (by omega)]) ?_ ⟨0, by omega, ?_, ?_, ?_, fun i hi => by omega⟩
    · rw [cz 0 (by omega) (by omega) (by omega), ht, us_n (by omega), sI_sm, ud_e rfl, f4.1 512 (by omega), sI_sm, ud_n (by omega), sI_sm, ud_e rfl]
    · rw [cz 1 (by omega) (by omega) (by omega), ht]; unfold us; rw [sI_sm, ud_n (by omega), sI_sm, ud_e rfl]
    · rw [cz 1 (by omega) (by omega) (by omega), ht]; unfold us; rw [sI_sm, ud_e rfl]
    · rw [f4.1 512 (by omega), sI_sm, ud_n (by omega), sI_sm, ud_n (by omega), f3.2.1 9 (by omega) (by omega), sI_sm, ud_n (by omega), um_9]
  cases e : storeS b L (s.1 513) with
  | inl q =>
    rw [e] at k
    obtain ⟨s2, a1, a2, a3⟩ := k
    refine Or.inr ⟨0, 0, 11, 1, us (sI s2 0 13 (nI q)), ?_, (Eq.trans rfl rfl : _ = s2.2).trans (a2.2.2.trans c3.2), rfl, by omega, by omega, fun t ht => ?_⟩
    · unfold q130 q133 q133_16
      simp (disch := omega) only [c1, a1, a3, q99_e, nI_lit, nI_add, pk_mul, nI_clp, nI_eqv, nI_lev, nI_ltv, nI_neg, nI_neg', nI_subv, Nat.add_zero, Nat.zero_add, Nat.mul_zero, Nat.reduceAdd, bN_rv, bM_ru, bV_rv, bV_rx, bU_ru, bU_rx, bN_ite, bM_ite, bV_ite, bU_ite, ↓bx_e, ↓sp_e, gA_ok, gZ_n, gB_0, gB_1, gB_i, and_true, and_false, true_and, false_and, decide_true, decide_false, ↓reduceIte, not_true_eq_false, not_false_eq_true, Bool.false_eq_true, Bool.true_eq_false, Bool.and_true, Bool.and_false, Bool.true_and, Bool.false_and, Bool.or_true, Bool.or_false, Bool.true_or, Bool.false_or, Bool.not_true, Bool.not_false, le_f, le_t, lt_f, lt_t, eq_f, ↓reduceIte, not_true_eq_false, not_false_eq_true, ite_10, bt_0, bt_1]
    · have d : ∀ z, z ≠ 0 → z ≠ 1 → ¬ (58 ≤ z ∧ z < 90) → t.1 z = s.1 z := fun z u v w => by rw [ht, us_n v, sI_fn u, a2.1 z v w, c3.1 z (by omega)]
      obtain ⟨tc, g1, g2, g3⟩ := m241_2 (t := t) (K := q241_27) 1619 0 10000 t F1_r (by omega) (by omega) (fun j hj => by omega)
      have m := m240_1 (t := tc) (f := s.1 513) (tb tc (by rw [g2.1 512 (by omega), d 512 (by omega) (by omega) (by omega)]; exact x4) (by rw [g2.1 518 (by omega), d 518 (by omega) (by omega) (by omega)])) (by rw [g2.1 513 (by omega), d 513 (by omega) (by omega) (by omega)]) hI
      rw [e] at m
      obtain ⟨t1, n1, n2, n3⟩ := m
      have h515 : ∀ j, j < 1619 → (sI t1 512 14 (nI q)).1 515 j = s.1 513 j := fun j hj => by rw [sI_fn (by omega), n2.1 515 (by omega) (by omega), sI_fn (by omega), um_n (by omega), g3 j hj, d 513 (by omega) (by omega) (by omega)]
      obtain ⟨u', o1, o2, o3⟩ := back (sI t1 512 14 (nI q)) 1 h515
      refine ⟨nI 0, u', ?_, Lq_e (o2.2.trans ((Eq.trans rfl rfl : _ = t1.2).trans (n2.2.2.trans ((Eq.trans rfl rfl : _ = tc.2).trans g2.2)))), by rw [o2.1 512 (by omega), sI_sm, ud_e rfl], fail (nI q) 1 s2 a2 t ht tc t1 u' g2 g3 n2 o2 o3⟩
      unfold q241
      simp only [nI_lit]
      rw [g1]
      unfold q241_27 q241_46 q241_59
      simp (disch := omega) only [n1, n3, m0, m188_1, o1, nI_lit, nI_add, pk_mul, nI_clp, nI_eqv, nI_lev, nI_ltv, nI_neg, nI_neg', nI_subv, Nat.add_zero, Nat.zero_add, Nat.mul_zero, Nat.reduceAdd, bN_rv, bM_ru, bV_rv, bV_rx, bU_ru, bU_rx, bN_ite, bM_ite, bV_ite, bU_ite, ↓bx_e, ↓sp_e, gA_ok, gZ_n, gB_0, gB_1, gB_i, and_true, and_false, true_and, false_and, decide_true, decide_false, ↓reduceIte, not_true_eq_false, not_false_eq_true, Bool.false_eq_true, Bool.true_eq_false, Bool.and_true, Bool.and_false, Bool.true_and, Bool.false_and, Bool.or_true, Bool.or_false, Bool.true_or, Bool.false_or, Bool.not_true, Bool.not_false, le_f, le_t, lt_f, lt_t, eq_f, ↓reduceIte, not_true_eq_false, not_false_eq_true, ite_10, bt_0, bt_1]
  | inr g =>
    rw [e] at k
    obtain ⟨s2, a1, a2, a3⟩ := k
    have eA13 : (us (sI s2 0 13 (-nI 1))).1 26 13 = nI kt := by rw [us_n (by omega), sI_fn (by omega), a2.1 26 (by omega) (by omega), c3.1 26 (by omega), hR.2.2.2.2.2.2.2.2.2]; exact ekt
    by_cases h12 : kt = 12
    · subst h12
      refine Or.inr ⟨1, 1, 14, 2, us (sI s2 0 13 (-nI 1)), ?_, (Eq.trans rfl rfl : _ = s2.2).trans (a2.2.2.trans c3.2), rfl, by omega, by omega, fun t ht => ?_⟩
      · unfold q130 q133 q133_16
        simp (disch := omega) only [c1, a1, q99_e, eA13, nI_lit, nI_add, pk_mul, nI_clp, nI_eqv, nI_lev, nI_ltv, nI_neg, nI_neg', nI_subv, Nat.add_zero, Nat.zero_add, Nat.mul_zero, Nat.reduceAdd, bN_rv, bM_ru, bV_rv, bV_rx, bU_ru, bU_rx, bN_ite, bM_ite, bV_ite, bU_ite, ↓bx_e, ↓sp_e, gA_ok, gZ_n, gB_0, gB_1, gB_i, and_true, and_false, true_and, false_and, decide_true, decide_false, ↓reduceIte, not_true_eq_false, not_false_eq_true, Bool.false_eq_true, Bool.true_eq_false, Bool.and_true, Bool.and_false, Bool.true_and, Bool.false_and, Bool.or_true, Bool.or_false, Bool.true_or, Bool.false_or, Bool.not_true, Bool.not_false, le_f, le_t, lt_f, lt_t, eq_f, ↓reduceIte, not_true_eq_false, not_false_eq_true, ite_10, bt_0, bt_1]
      · have d : ∀ z, z ≠ 0 → z ≠ 1 → ¬ (58 ≤ z ∧ z < 90) → t.1 z = s.1 z := fun z u v w => by rw [ht, us_n v, sI_fn u, a2.1 z v w, c3.1 z (by omega)]
        obtain ⟨tc, g1, g2, g3⟩ := m241_2 (t := t) (K := q241_27) 1619 0 10000 t F1_r (by omega) (by omega) (fun j hj => by omega)
        have m := m240_1 (t := tc) (f := s.1 513) (tb tc (by rw [g2.1 512 (by omega), d 512 (by omega) (by omega) (by omega)]; exact x4) (by rw [g2.1 518 (by omega), d 518 (by omega) (by omega) (by omega)])) (by rw [g2.1 513 (by omega), d 513 (by omega) (by omega) (by omega)]) hI
        rw [e] at m
        obtain ⟨t1, nn, n1, n2, n3, n4, n5, n6⟩ := m
        have l1 : (nI 0 ≤ nI nn) = True := eq_true (by rw [nI_lev (by omega) (by omega)]; omega)
        have h515 : ∀ j, j < 1619 → (sI t1 512 14 (-nI 1)).1 515 j = s.1 513 j := fun j hj => by rw [sI_fn (by omega), n3.1 515 (by omega) (by omega), sI_fn (by omega), um_n (by omega), g3 j hj, d 513 (by omega) (by omega) (by omega)]
        obtain ⟨u', o1, o2, o3⟩ := back (sI t1 512 14 (-nI 1)) 2 h515
        have e12 : (sI t1 512 14 (-nI 1)).1 513 1 = nI 12 := by rw [sI_fn (by omega), n4, n6 1 (by omega)]; exact ekt
        refine ⟨nI 0, u', ?_, Lq_e (o2.2.trans ((Eq.trans rfl rfl : _ = t1.2).trans (n3.2.2.trans ((Eq.trans rfl rfl : _ = tc.2).trans g2.2)))), by rw [o2.1 512 (by omega), sI_sm, ud_e rfl], fail (-nI 1) 2 s2 a2 t ht tc t1 u' g2 g3 n3 o2 o3⟩
        unfold q241
        simp only [nI_lit]
        rw [g1]
        unfold q241_27 q241_46 q241_59 q241_83
        simp (disch := omega) only [n1, l1, m188_0, m188_1, n1c, e12, o1, nI_lit, nI_add, pk_mul, nI_clp, nI_eqv, nI_lev, nI_ltv, nI_neg, nI_neg', nI_subv, Nat.add_zero, Nat.zero_add, Nat.mul_zero, Nat.reduceAdd, bN_rv, bM_ru, bV_rv, bV_rx, bU_ru, bU_rx, bN_ite, bM_ite, bV_ite, bU_ite, ↓bx_e, ↓sp_e, gA_ok, gZ_n, gB_0, gB_1, gB_i, and_true, and_false, true_and, false_and, decide_true, decide_false, ↓reduceIte, not_true_eq_false, not_false_eq_true, Bool.false_eq_true, Bool.true_eq_false, Bool.and_true, Bool.and_false, Bool.true_and, Bool.false_and, Bool.or_true, Bool.or_false, Bool.true_or, Bool.false_or, Bool.not_true, Bool.not_false, le_f, le_t, lt_f, lt_t, eq_f, ↓reduceIte, not_true_eq_false, not_false_eq_true, ite_10, bt_0, bt_1]
    · -- the store is taken
      have hIg : IB T B g ∧ ∀ j, j = 1 ∨ j = 2 ∨ 770 ≤ j → g j = s.1 513 j := by
        have m := m240_1 (b := b) (L := L) (t := s) (f := s.1 513) (tb s x4 rfl) rfl hI
        rw [e] at m
        obtain ⟨t1, nn, n1, n2, n3, n4, n5, n6⟩ := m
        exact ⟨n5, n6⟩
      obtain ⟨hg1, hg2⟩ := hIg
      have g1e : g 1 = nI kt := by rw [hg2 1 (by omega)]; exact ekt
      have hB1 : IB T B (upd g 1 (nI (kt + 1))) := IB_t1 hg1 (by omega)
      have hRa : RW (us (sI s2 0 13 (-nI 1))) 58 g := RW_s a3 hg1.1.1.1.1 (fun z x y => by rw [us_n (by omega), sI_fn (by omega)])
      obtain ⟨s5, p1, p2, p3⟩ := p111 (s := us (sI s2 0 13 (-nI 1))) (a := 26) (b := 58) (by omega)
      have hR5 := p2 _ hRa
      have e5 : s5.1 26 13 = nI kt := by rw [hR5.2.2.2.2.2.2.2.2.2]; exact g1e
      have hR6 : RW (sI s5 26 13 (nI (kt + 1))) 26 (upd g 1 (nI (kt + 1))) := RW_t1 hR5 hg1.1.1.1.1
      have us3 : ∀ z, z ≠ 0 → z ≠ 1 → ¬ (58 ≤ z ∧ z < 90) → (us (sI s2 0 13 (-nI 1))).1 z = s.1 z := fun z u v w => by rw [us_n v, sI_fn u, a2.1 z v w, c3.1 z (by omega)]
      have s6c : ∀ z, z ≠ 0 → z ≠ 1 → ¬ (58 ≤ z ∧ z < 90) → ¬ (26 ≤ z ∧ z < 58) → (sI s5 26 13 (nI (kt + 1))).1 z = s.1 z := fun z u v w y => by rw [sI_fn (by omega), p3.1 z (by omega), us3 z u v w]
      have hL6 : RLw (sI s5 26 13 (nI (kt + 1))) (upd g 1 (nI (kt + 1))) := RLw_c hA.1.2.2.1 (by rw [ud_n (by omega)]; exact hg2 2 (by omega)) (fun j x y => by rw [ud_n (by omega)]; exact hg2 j (by omega)) (fun z x y => s6c z (by omega) (by omega) (by omega) (by omega)) hL
      obtain ⟨s7, r1, r2, r3, r4, r5⟩ := p125 hR6 hL6 hB1.1.1 (by omega)
      have e7 : s7.1 26 13 = nI (kt + 1) := by rw [r2.2.2.2.2.2.2.2.2.2, mTidy_x (by omega) (by omega), ud_e rfl]
      refine Or.inl ⟨nI (kt + 1), sI s7 0 11 (nI 0), ?_, (Eq.trans rfl rfl : _ = s7.2).trans (r5.2.trans ((Eq.trans rfl rfl : _ = s5.2).trans (p3.2.trans ((Eq.trans rfl rfl : _ = s2.2).trans (a2.2.2.trans c3.2))))), fun t ht => ?_⟩
      · have e7' : (sI s7 0 11 (nI 0)).1 26 13 = nI (kt + 1) := by rw [sI_fn (by omega)]; exact e7
        unfold q130 q133 q133_16 q178
        simp (disch := omega) only [c1, a1, q99_e, eA13, p1, e5, r1, e7', nI_lit, nI_add, pk_mul, nI_clp, nI_eqv, nI_lev, nI_ltv, nI_neg, nI_neg', nI_subv, Nat.add_zero, Nat.zero_add, Nat.mul_zero, Nat.reduceAdd, bN_rv, bM_ru, bV_rv, bV_rx, bU_ru, bU_rx, bN_ite, bM_ite, bV_ite, bU_ite, ↓bx_e, ↓sp_e, gA_ok, gZ_n, gB_0, gB_1, gB_i, and_true, and_false, true_and, false_and, decide_true, decide_false, ↓reduceIte, not_true_eq_false, not_false_eq_true, Bool.false_eq_true, Bool.true_eq_false, Bool.and_true, Bool.and_false, Bool.true_and, Bool.false_and, Bool.or_true, Bool.or_false, Bool.true_or, Bool.false_or, Bool.not_true, Bool.not_false, le_f, le_t, lt_f, lt_t, eq_f, ↓reduceIte, not_true_eq_false, not_false_eq_true, ite_10, bt_0, bt_1]
      · have d7 : ∀ z, z ≠ 0 → z ≠ 1 → z ≠ 8 → z ≠ 9 → ¬ (26 ≤ z ∧ z < 58) → ¬ (58 ≤ z ∧ z < 90) → t.1 z = s.1 z := fun z u v w8 w9 w y => by rw [ht, sI_fn u, r5.1 z (by omega) w8 w9, s6c z u v y w]
        obtain ⟨tc, g1, g2, g3⟩ := m241_2 (t := t) (K := q241_27) 1619 0 10000 t F1_r (by omega) (by omega) (fun j hj => by omega)
        have m := m240_1 (t := tc) (f := s.1 513) (tb tc (by rw [g2.1 512 (by omega), d7 512 (by omega) (by omega) (by omega) (by omega) (by omega) (by omega)]; exact x4) (by rw [g2.1 518 (by omega), d7 518 (by omega) (by omega) (by omega) (by omega) (by omega) (by omega)])) (by rw [g2.1 513 (by omega), d7 513 (by omega) (by omega) (by omega) (by omega) (by omega) (by omega)]) hI
        rw [e] at m
        obtain ⟨t1, nn, n1, n2, n3, n4, n5, n6⟩ := m
        have l1 : (nI 0 ≤ nI nn) = True := eq_true (by rw [nI_lev (by omega) (by omega)]; omega)
        have ekk : (sI t1 512 14 (-nI 1)).1 513 1 = nI kt := by rw [sI_fn (by omega), n4]; exact g1e
        have e513 : (sI (sI t1 512 14 (-nI 1)) 513 1 (nI (kt + 1))).1 513 = upd g 1 (nI (kt + 1)) := by rw [sI_sm, sI_fn (by omega), n4]
        obtain ⟨k6, hk6, h4⟩ := hB1.1.1.2.2.2.2
        have k61 := m261 (t := sI (sI t1 512 14 (-nI 1)) 513 1 (nI (kt + 1))) hk6 (by rw [e513]; exact h4)
        rw [e513] at k61
        have eans : (sI (wr (sI (sI t1 512 14 (-nI 1)) 513 1 (nI (kt + 1))) (mTidy (upd g 1 (nI (kt + 1))))) 512 7 (nI 0)).1 513 1 = nI (kt + 1) := by rw [sI_fn (by omega), wr_1, mTidy_x (by omega) (by omega), ud_e rfl]
        refine ⟨sI (wr (sI (sI t1 512 14 (-nI 1)) 513 1 (nI (kt + 1))) (mTidy (upd g 1 (nI (kt + 1))))) 512 7 (nI 0), ?_, Lq_e ((Eq.trans rfl rfl : _ = t1.2).trans (n3.2.2.trans ((Eq.trans rfl rfl : _ = tc.2).trans g2.2))), ?_, ?_⟩
        · unfold q241
          simp only [nI_lit]
          rw [g1]
          unfold q241_27 q241_46 q241_59 q241_83
          simp (disch := omega) only [n1, l1, m188_0, n1c, ekk, k61, eans, nI_lit, nI_add, pk_mul, nI_clp, nI_eqv, nI_lev, nI_ltv, nI_neg, nI_neg', nI_subv, Nat.add_zero, Nat.zero_add, Nat.mul_zero, Nat.reduceAdd, bN_rv, bM_ru, bV_rv, bV_rx, bU_ru, bU_rx, bN_ite, bM_ite, bV_ite, bU_ite, ↓bx_e, ↓sp_e, gA_ok, gZ_n, gB_0, gB_1, gB_i, and_true, and_false, true_and, false_and, decide_true, decide_false, ↓reduceIte, not_true_eq_false, not_false_eq_true, Bool.false_eq_true, Bool.true_eq_false, Bool.and_true, Bool.and_false, Bool.true_and, Bool.false_and, Bool.or_true, Bool.or_false, Bool.true_or, Bool.false_or, Bool.not_true, Bool.not_false, le_f, le_t, lt_f, lt_t, eq_f, ↓reduceIte, not_true_eq_false, not_false_eq_true, ite_10, bt_0, bt_1]
        · rw [sI_sm, ud_n (by omega), wr_n (by omega), sI_fn (by omega), sI_sm, ud_n (by omega), n3.2.1 0 (by omega) (by omega), sI_sm, ud_n (by omega), um_0]
        · have cz : ∀ z, z ≠ 512 → z ≠ 513 → z ≠ 515 → (sI (wr (sI (sI t1 512 14 (-nI 1)) 513 1 (nI (kt + 1))) (mTidy (upd g 1 (nI (kt + 1))))) 512 7 (nI 0)).1 z = t.1 z := fun z u v w => by rw [sI_fn u, wr_n v, sI_fn v, sI_fn u, n3.1 z u v, sI_fn u, um_n u, g2.1 z w]
          have u513 : (sI (wr (sI (sI t1 512 14 (-nI 1)) 513 1 (nI (kt + 1))) (mTidy (upd g 1 (nI (kt + 1))))) 512 7 (nI 0)).1 513 = mTidy (upd g 1 (nI (kt + 1))) := by rw [sI_fn (by omega), wr_1]
          have u512 : ∀ j, j ≠ 7 → (sI (wr (sI (sI t1 512 14 (-nI 1)) 513 1 (nI (kt + 1))) (mTidy (upd g 1 (nI (kt + 1))))) 512 7 (nI 0)).1 512 j = (sI t1 512 14 (-nI 1)).1 512 j := fun j hj => by rw [sI_sm, ud_n hj, wr_n (by omega), sI_fn (by omega)]
          have u7 : (sI (wr (sI (sI t1 512 14 (-nI 1)) 513 1 (nI (kt + 1))) (mTidy (upd g 1 (nI (kt + 1))))) 512 7 (nI 0)).1 512 7 = nI 0 := by rw [sI_sm, ud_e rfl]
          generalize sI (wr (sI (sI t1 512 14 (-nI 1)) 513 1 (nI (kt + 1))) (mTidy (upd g 1 (nI (kt + 1))))) 512 7 (nI 0) = u at *
          have t7 : ∀ z, z ≠ 0 → t.1 z = s7.1 z := fun z hz => by rw [ht, sI_fn hz]
          have s70 : s7.1 0 = (sI s2 0 13 (-nI 1)).1 0 := by rw [r5.1 0 (by omega) (by omega) (by omega), sI_fn (by omega), p3.1 0 (by omega), us_n (by omega)]
          have s71 : s7.1 1 = (us (sI s2 0 13 (-nI 1))).1 1 := by rw [r5.1 1 (by omega) (by omega) (by omega), sI_fn (by omega), p3.1 1 (by omega)]
          have t0j : ∀ j, j ≠ 11 → u.1 0 j = (sI s2 0 13 (-nI 1)).1 0 j := fun j hj => by rw [cz 0 (by omega) (by omega) (by omega), ht, sI_sm, ud_n hj, s70]
          have hA' : IA T (mTidy (upd g 1 (nI (kt + 1)))) := IA_tidy hB1.1 hB1.1.1 (fun _ _ => rfl)
          refine G_z hG (Nat.le_refl _) (fun z hz => by rw [cz z (by omega) (by omega) (by omega), d7 z (by omega) (by omega) (by omega) (by omega) (by omega) (by omega)]) ?_ ?_ ?_ ?_ u7 ⟨?_, ?_, T, hT, by rw [u513]; exact hA'⟩ (by rw [u513]; exact ⟨IU_tidy hB1.2.1, IH_tidy hB1.2.2⟩) ?_ ⟨0, by omega, ?_, ?_, ?_, fun i hi => by omega⟩
          · rw [t0j 10 (by omega), sI_sm, ud_n (by omega), a2.1 0 (by omega) (by omega), c3.1 0 (by omega)]
          · rw [t0j 12 (by omega), sI_sm, ud_n (by omega), a2.1 0 (by omega) (by omega), c3.1 0 (by omega)]
          · rw [u512 6 (by omega), sI_sm, ud_n (by omega), n3.2.1 6 (by omega) (by omega), sI_sm, ud_n (by omega), um_j (by omega), g2.1 512 (by omega), d7 512 (by omega) (by omega) (by omega) (by omega) (by omega) (by omega)]
          · rw [cz 0 (by omega) (by omega) (by omega), ht, sI_sm, ud_e rfl]
          · rw [u513]; exact RW_s r2 hA'.1.1.1 (fun z x y => by rw [cz z (by omega) (by omega) (by omega), t7 z (by omega)])
          · rw [u513]; exact RLw_c hA'.1.2.2.1 rfl (fun _ _ _ => rfl) (fun z x y => by rw [cz z (by omega) (by omega) (by omega), t7 z (by omega)]) r3
          · rw [t0j 13 (by omega), sI_sm, ud_e rfl, u512 14 (by omega), sI_sm, ud_e rfl]
          · rw [cz 1 (by omega) (by omega) (by omega), t7 1 (by omega), s71]; unfold us; rw [sI_sm, ud_n (by omega), sI_sm, ud_e rfl]
          · rw [cz 1 (by omega) (by omega) (by omega), t7 1 (by omega), s71]; unfold us; rw [sI_sm, ud_e rfl]
          · rw [u512 9 (by omega), sI_sm, ud_n (by omega), n3.2.1 9 (by omega) (by omega), sI_sm, ud_n (by omega), um_9]
end STO
