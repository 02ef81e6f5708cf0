/-! COMMIT -/
def mCo0 (f : Nat → Int32) (i : Nat) : Nat → Int32 := mClose (upd f 3 (f 3 + nI 1)) i (upd f 3 (f 3 + nI 1) 3)
def mCo1 (f : Nat → Int32) (i : Nat) : Nat → Int32 := mVer (mCo0 f i) i
def mCo2 (f : Nat → Int32) (i c : Nat) : Nat → Int32 := upd (upd (mCo1 f i) (49 + 5 * c + 4) (mCo1 f i (49 + 5 * c + 4) + nI 1)) (49 + 5 * c + 3) (nI 0)
def mCo3 (f : Nat → Int32) (i : Nat) : Nat → Int32 := upd (mCo2 f i (wh f i)) 5 (mnI (nI 9999) (mCo2 f i (wh f i) 5 + sPay f i))
def mCo4 (f : Nat → Int32) (i : Nat) : Nat → Int32 := mLog (mHis (mCo3 f i) i) i (nI 0)
def mCom (f : Nat → Int32) (i : Nat) : Nat → Int32 := mSt (mSpo (mCo4 f i) i)
theorem mCo0_n {f : Nat → Int32} {i j : Nat} (h3 : j ≠ 3) (h : j ≠ 74 + 21 * i) (h2 : j ≠ 74 + 21 * i + 3) : mCo0 f i j = f j := by unfold mCo0; rw [mClose_n h h2, ud_n h3]
theorem mCo1_n {f : Nat → Int32} {i j : Nat} (h3 : j ≠ 3) (h : j ≠ 74 + 21 * i) (h2 : j ≠ 74 + 21 * i + 3) (hv : ∀ k, k < 10 → j ≠ 9 + 4 * k) : mCo1 f i j = f j := by unfold mCo1; rw [mVer_n hv, mCo0_n h3 h h2]
theorem mCo3_s {f : Nat → Int32} {i j : Nat} (hw : wh f i < 5) (h1 : 74 ≤ j) : mCo3 f i j = mCo1 f i j := by
  unfold mCo3 mCo2
  rw [ud_n (by omega), ud_n (by omega), ud_n (by omega)]
theorem mCo1_s {f : Nat → Int32} {i j : Nat} (h1 : 74 ≤ j) : mCo1 f i j = mCo0 f i j := by unfold mCo1; exact mVer_n (fun k hk => by omega)
theorem IM_co0 {T : Nat} {f : Nat → Int32} (h : IM T f) (hT : T + 1 < 1000000000) {i : Nat} (hi : i < 8) (hr : sR f i = true) (hs : IS (mCo0 f i)) : IM (T + 1) (mCo0 f i) := IM_cl (IM_st h hT) hi (by rw [sR_u (by omega)]; exact hr) hs
theorem IM_co3 {T : Nat} {f : Nat → Int32} {i : Nat} (hi : i < 8) (hw : wh f i < 5) (h : IM T (mCo0 f i)) (hu : sU (mCo0 f i) i = true) (hwe : wh (mCo0 f i) i = wh f i) : IM T (mCo3 f i) := by
  have h1 : IM T (mCo1 f i) := IM_c h (fun j hj => mVer_n (fun k hk => by omega))
  have hs : ∀ j, 74 ≤ j → mCo3 f i j = mCo1 f i j := fun j hj => mCo3_s hw hj
  have h4 : ∀ j, j ≠ 5 → j ≠ 49 + 5 * wh f i + 4 → j ≠ 49 + 5 * wh f i + 3 → mCo3 f i j = mCo1 f i j := by
    intro j q1 q2 q3
    unfold mCo3 mCo2
    rw [ud_n q1, ud_n q3, ud_n q2]
  obtain ⟨i1, ⟨n, hn, a0, a1, a2, a3, a4⟩, i3, ⟨t0, t3, t⟩, k, hk, i5⟩ := h1
  have hcn : wh f i < n := by
    have e1 : sU (mCo1 f i) i = true := by rw [sU_c (mCo1_s (by omega))]; exact hu
    have := a4 i hi e1
    rw [wh_c (mCo1_s (by omega)), hwe] at this; exact this
  refine ⟨IS_c i1 (fun j x y => hs j x), ⟨n, hn, ?_, fun c hc => ?_, fun c w' hc hc5 hw' => ?_, fun c j hc hj => ?_, fun j hj hv => ?_⟩, WLw_c (h4 _ (by omega) (by omega) (by omega)) (fun j a b => h4 _ (by omega) (by omega) (by omega)) i3, ⟨t0, by rw [h4 _ (by omega) (by omega) (by omega)]; exact t3, fun l hl => ?_⟩, k, hk, ?_⟩
  · rw [h4 _ (by omega) (by omega) (by omega)]; exact a0
  · rw [h4 _ (by omega) (by omega) (by omega)]; exact a1 c hc
  · rw [h4 _ (by omega) (by omega) (by omega)]; exact a2 c w' hc hc5 hw'
  · rw [h4 _ (by omega) (by omega) (by omega), h4 _ (by omega) (by omega) (by omega)]; exact a3 c j hc hj
  · rw [wh_c (hs _ (by omega))]; exact a4 j hj (by rw [← sU_c (f := mCo1 f i) (hs _ (by omega))]; exact hv)
  · rw [hs _ (by omega), hs _ (by omega), hs _ (by omega)]; exact t l hl
  · rw [h4 _ (by omega) (by omega) (by omega)]; exact i5
theorem IM_co4 {T : Nat} {f : Nat → Int32} {i : Nat} (h : IM T (mCo3 f i)) (hn : hN (mCo3 f i) ≤ 12) : IM T (mCo4 f i) := by
  have h1 : IM T (mHis (mCo3 f i) i) := IM_c h (fun j hj => mHis_n hn (by omega) (by omega))
  exact IM_c h1 (fun j hj => mLog_n (by omega) (by omega))
theorem p118 {s : mS} {a T : Nat} {f : Nat → Int32} (h : RW s a f) (hL : RLw s f) (hm : IM T f) (hv : IV f) (hT : T + 1 < 1000000000) (ha : 10 ≤ a) {i : Nat} (hi : i < 8) (hr : sR f i = true) : ∃ s', q118 a (nI i) s = rv (f 3 + nI 1) s' ∧ RW s' a (mCom f i) ∧ RLw s' (mCom f i) ∧ IM (T + 1) (mCom f i) ∧ Fw a s s' := by
  have hu := sR_U hr
  obtain ⟨w1, w2⟩ := hm.1.1 i hi
  obtain ⟨s1, j1, j2⟩ := p123 h hL hm.1 hm.2.1 hm.2.2.1 ha hi hu
  have W1 := RW_q h hm.1.1 ha j2
  have L1 := RLw_q hL hm.2.2.1 j2
  have F1 : Fw a s s1 := Fw_q j2
  have e9 := W1.2.2.2.2.2.1
  -- the stamp
  have W2 := RW_f9 W1 hm.1.1 (f 3 + nI 1)
  have M2 := IM_st hm hT
  have L2 : RLw (sI s1 a 9 (f 3 + nI 1)) (upd f 3 (f 3 + nI 1)) := RLw_c hm.2.2.1 (ud_n (by omega)) (fun j x y => ud_n (by omega)) (fun b x y => sI_fn (by omega)) L1
  have F2 : Fw a s1 (sI s1 a 9 (f 3 + nI 1)) := Fw_I (by omega) (by omega)
  have hr2 : sR (upd f 3 (f 3 + nI 1)) i = true := by rw [sR_u (by omega)]; exact hr
  have q9 : (sI s1 a 9 (f 3 + nI 1)).1 a 9 = f 3 + nI 1 := by rw [sI_sm, ud_e rfl]
  -- it is closed
  obtain ⟨s3, k1, k2, k3, k4⟩ := p79 W2.1 M2.1 hi hr2 (upd f 3 (f 3 + nI 1) 3)
  have c3 : ∀ b, b < a + 6 ∨ a + 18 ≤ b → s3.1 b = (sI s1 a 9 (f 3 + nI 1)).1 b := fun b hb => k4.1 b (by omega)
  have g3 : ∀ j, j < 74 ∨ 242 ≤ j → mCo0 f i j = upd f 3 (f 3 + nI 1) j := fun j hj => mClose_n (by omega) (by omega)
  have W3 : RW s3 a (mCo0 f i) := RW_rs W2 k2 c3 g3
  have L3 : RLw s3 (mCo0 f i) := RLw_rs L2 M2.2.2.1 ha c3 g3
  have M3 : IM (T + 1) (mCo0 f i) := IM_co0 hm hT hi hr k3
  have hu3 : sU (mCo0 f i) i = true := by unfold mCo0; rw [sU_cl (sR_U hr2)]; exact sR_U hr2
  have hV3 : IV (mCo0 f i) := fun k hk => by rw [mCo0_n (by omega) (by omega) (by omega)]; exact hv k hk
  have e6 := W3.1.2.2.2.2.2.2.2.2.2.1 i hi hu3
  have hwe : wh (mCo0 f i) i = wh f i := wh_c (mCo0_n (by omega) (by omega) (by omega))
  -- versions
  obtain ⟨s4, l1, l2, l3, l4⟩ := p118_33 (K := q118_85 a) W3.2.2.1 hV3 hi e6 (v2 := sPay f i) (v3 := f 3 + nI 1)
  have F4 : Fw a s3 s4 := ⟨fun b hb _ _ => l3 b (by omega), l4⟩
  -- the client and the purse
  have M5 := IM_co3 hi w2 M3 hu3 hwe
  obtain ⟨n, n1, n2, n3, n4, n5, n6, n7, n8⟩ := W3.2.1
  have d4 : s4.1 (a + 1 + 4) (wh f i) = mCo1 f i (49 + 5 * wh f i + 4) := by
    rw [l3 _ (by omega), n8 _ w2]; unfold mCo1; rw [mVer_n (fun k hk => by omega)]
  have cl4 : s4.1 (a + 6 + 1) i = nI (wh f i) := by
    rw [l3 _ (by omega), W3.1.2.2.2.2.1 i hi hu3, mCo0_n (by omega) (by omega) (by omega)]; exact w1
  generalize hs5 : sI (sI (sI s4 (a + 1 + 4) (wh f i) (mCo1 f i (49 + 5 * wh f i + 4) + nI 1)) (a + 1 + 3) (wh f i) (nI 0)) a 11 (mnI (nI 9999) (mCo2 f i (wh f i) 5 + sPay f i)) = s5
  have c5 : ∀ b, b ≠ a → b ≠ a + 1 + 3 → b ≠ a + 1 + 4 → s5.1 b = s4.1 b := fun b x y z => by rw [← hs5, sI_fn x, sI_fn y, sI_fn z]
  have F5 : Fw a s4 s5 := by rw [← hs5]; exact Fw_t (Fw_t (Fw_I (by omega) (by omega)) (Fw_I (by omega) (by omega))) (Fw_I (by omega) (by omega))
  have a5 : ∀ j, j ≠ 11 → s5.1 a j = s3.1 a j := fun j hj => by
    rw [← hs5, sI_sm, ud_n hj, sI_fn (by omega), sI_fn (by omega), l3 _ (by omega)]
  have p5 : mCo2 f i (wh f i) 5 = mCo0 f i 5 := by unfold mCo2 mCo1; rw [ud_n (by omega), ud_n (by omega), mVer_n (fun k hk => by omega)]
  have m3n : ∀ j, j ≠ 5 → j ≠ 49 + 5 * wh f i + 4 → j ≠ 49 + 5 * wh f i + 3 → (∀ k, k < 10 → j ≠ 9 + 4 * k) → mCo3 f i j = mCo0 f i j := by
    intro j q1 q2 q3 q4
    unfold mCo3 mCo2 mCo1
    rw [ud_n q1, ud_n q3, ud_n q2, mVer_n q4]
  have W5 : RW s5 a (mCo3 f i) := by
    obtain ⟨h1, h2, h3, h4, h5, h6, h7, h8, h9, h10⟩ := W3
    refine ⟨RS_c h1 M3.1.1 (fun b x y => by rw [c5 b (by omega) (by omega) (by omega), l3 b (by omega)]) (fun j x y => m3n j (by omega) (by omega) (by omega) (fun k hk => by omega)) (fun c hc => m3n _ (by omega) (by omega) (by omega) (fun k hk => by omega)), ⟨n, n1, ?_, ?_, fun j => ?_, fun c hc => ?_, fun c hc => ?_, fun c hc => ?_, fun c hc => ?_⟩, RK_c l2 (fun b x y => c5 b (by omega) (by omega) (by omega)) (fun j x y => ?_), RLg_c h4 (fun b x y => by rw [c5 b (by omega) (by omega) (by omega), l3 b (by omega)]) (m3n _ (by omega) (by omega) (by omega) (fun k hk => by omega)) (fun j x y => m3n j (by omega) (by omega) (by omega) (fun k hk => by omega)), RH_c h5 (fun b x y => by rw [c5 b (by omega) (by omega) (by omega), l3 b (by omega)]) (m3n _ (by omega) (by omega) (by omega) (fun k hk => by omega)) (fun j x y => m3n j (by omega) (by omega) (by omega) (fun k hk => by omega)), ?_, ?_, ?_, ?_, ?_⟩
    · rw [m3n _ (by omega) (by omega) (by omega) (fun k hk => by omega)]; exact n2
    · rw [c5 _ (by omega) (by omega) (by omega), l3 _ (by omega)]; exact n3
    · rw [c5 _ (by omega) (by omega) (by omega), l3 _ (by omega), n4 j]
      by_cases hj : j < 5
      · rw [m3n _ (by omega) (by omega) (by omega) (fun k hk => by omega)]
      · simp only [hj, and_true, and_false, true_and, false_and, decide_true, decide_false, ↓reduceIte, not_true_eq_false, not_false_eq_true, Bool.false_eq_true, Bool.true_eq_false, Bool.and_true, Bool.and_false, Bool.true_and, Bool.false_and, Bool.or_true, Bool.or_false, Bool.true_or, Bool.false_or, Bool.not_true, Bool.not_false]
    · rw [c5 _ (by omega) (by omega) (by omega), l3 _ (by omega), m3n _ (by omega) (by omega) (by omega) (fun k hk => by omega)]; exact n5 c hc
    · rw [c5 _ (by omega) (by omega) (by omega), l3 _ (by omega), m3n _ (by omega) (by omega) (by omega) (fun k hk => by omega)]; exact n6 c hc
    · rw [← hs5, sI_fn (by omega), sI_sm]
      by_cases e : c = wh f i
      · rw [e, ud_e rfl]; unfold mCo3 mCo2; rw [ud_n (by omega), ud_e rfl]
      · rw [ud_n e, sI_fn (by omega), l3 _ (by omega), m3n _ (by omega) (by omega) (by omega) (fun k hk => by omega)]; exact n7 c hc
    · rw [← hs5, sI_fn (by omega), sI_fn (by omega), sI_sm]
      by_cases e : c = wh f i
      · rw [e, ud_e rfl]; unfold mCo3 mCo2; rw [ud_n (by omega), ud_n (by omega), ud_e rfl]
      · rw [ud_n e, l3 _ (by omega), m3n _ (by omega) (by omega) (by omega) (fun k hk => by omega)]; exact n8 c hc
    · unfold mCo3 mCo2; rw [ud_n (by omega), ud_n (by omega), ud_n (by omega)]; rfl
    · rw [a5 _ (by omega), m3n _ (by omega) (by omega) (by omega) (fun k hk => by omega)]; exact h6
    · rw [a5 _ (by omega), m3n _ (by omega) (by omega) (by omega) (fun k hk => by omega)]; exact h7
    · rw [← hs5, sI_sm, ud_e rfl]; unfold mCo3; rw [ud_e rfl]
    · rw [a5 _ (by omega), m3n _ (by omega) (by omega) (by omega) (fun k hk => by omega)]; exact h9
    · rw [a5 _ (by omega), m3n _ (by omega) (by omega) (by omega) (fun k hk => by omega)]; exact h10
  have L5 : RLw s5 (mCo3 f i) := RLw_c M3.2.2.1 (m3n _ (by omega) (by omega) (by omega) (fun k hk => by omega)) (fun j x y => m3n _ (by omega) (by omega) (by omega) (fun k hk => by omega)) (fun b x y => by rw [c5 b (by omega) (by omega) (by omega), l3 b (by omega)]) L3
  have hu5 : sU (mCo3 f i) i = true := by rw [sU_c (m3n _ (by omega) (by omega) (by omega) (fun k hk => by omega))]; exact hu3
  -- history
  have R5 := W5.1
  obtain ⟨hn1, hn2, s6, o1, o2, o3⟩ := p15 (b := a + 6) (c := a + 28) W5.2.2.2.2.1 hi (R5.2.2.2.2.1 i hi hu5) (R5.2.2.2.2.2.2.1 i hi hu5) (R5.2.2.2.2.2.2.2.1 i hi hu5) (R5.2.2.2.2.2.2.2.2.2.1 i hi hu5) (R5.2.2.2.2.2.2.2.2.2.2.2.2.2.2 i hi hu5) (fun k hk => (W5.2.2.1 k hk).1) (by omega) (by omega)
  have c6 : ∀ b, b < a + 18 ∨ a + 25 ≤ b → s6.1 b = s5.1 b := fun b hb => o3.1 b (by omega)
  have h6n : ∀ j, j ≠ 7 → j < 242 ∨ 530 ≤ j → mHis (mCo3 f i) i j = mCo3 f i j := fun j x y => mHis_n hn1 x y
  have W6 : RW s6 a (mHis (mCo3 f i) i) := by
    obtain ⟨h1, h2, h3, h4, h5, h6, h7, h8, h9, h10⟩ := W5
    refine ⟨RS_c h1 M5.1.1 (fun b x y => c6 b (by omega)) (fun j x y => h6n j (by omega) (by omega)) (fun c hc => h6n _ (by omega) (by omega)), RC_c h2 (fun b x y => c6 b (by omega)) (h6n _ (by omega) (by omega)) (fun j x y => h6n _ (by omega) (by omega)), RK_c h3 (fun b x y => c6 b (by omega)) (fun j x y => h6n _ (by omega) (by omega)), RLg_c h4 (fun b x y => c6 b (by omega)) (h6n _ (by omega) (by omega)) (fun j x y => h6n _ (by omega) (by omega)), o2, ?_, ?_, ?_, ?_, ?_⟩ <;> rw [c6 a (by omega), h6n _ (by omega) (by omega)] <;> assumption
  -- the log
  obtain ⟨s7, r1, r2, r3⟩ := p43 W6.2.2.2.1 hi (w := nI 0)
  have c7 : ∀ b, b < a + 26 ∨ a + 28 ≤ b → s7.1 b = s6.1 b := fun b hb => r3.1 b (by omega)
  have h7n : ∀ j, j ≠ 6 → j < 530 ∨ 770 ≤ j → mCo4 f i j = mHis (mCo3 f i) i j := fun j x y => mLog_n x y
  have M6 : IM (T + 1) (mHis (mCo3 f i) i) := IM_c M5 (fun j hj => h6n _ (by omega) (by omega))
  have M7 : IM (T + 1) (mCo4 f i) := IM_co4 M5 hn1
  have W7 : RW s7 a (mCo4 f i) := by
    obtain ⟨h1, h2, h3, h4, h5, h6, h7, h8, h9, h10⟩ := W6
    refine ⟨RS_c h1 M6.1.1 (fun b x y => c7 b (by omega)) (fun j x y => h7n j (by omega) (by omega)) (fun c hc => h7n _ (by omega) (by omega)), RC_c h2 (fun b x y => c7 b (by omega)) (h7n _ (by omega) (by omega)) (fun j x y => h7n _ (by omega) (by omega)), RK_c h3 (fun b x y => c7 b (by omega)) (fun j x y => h7n _ (by omega) (by omega)), r2, RH_c h5 (fun b x y => c7 b (by omega)) (h7n _ (by omega) (by omega)) (fun j x y => h7n _ (by omega) (by omega)), ?_, ?_, ?_, ?_, ?_⟩ <;> rw [c7 a (by omega), h7n _ (by omega) (by omega)] <;> assumption
  have n47 : ∀ j, j = 2 ∨ 770 ≤ j → mCo4 f i j = mCo3 f i j := fun j hj => by rw [h7n _ (by omega) (by omega), h6n _ (by omega) (by omega)]
  have L7 : RLw s7 (mCo4 f i) := RLw_c M5.2.2.1 (n47 _ (by omega)) (fun j x y => n47 _ (by omega)) (fun b x y => by rw [c7 b (by omega), c6 b (by omega)]) L5
  have hu7 : sU (mCo4 f i) i = true := by rw [sU_c (h7n _ (by omega) (by omega)), sU_c (h6n _ (by omega) (by omega))]; exact hu5
  -- spoil
  obtain ⟨s8, x1, x2, x3, x4⟩ := p85 W7.1 M7.1 hi hu7
  have c8 : ∀ b, b < a + 6 ∨ a + 18 ≤ b → s8.1 b = s7.1 b := fun b hb => x4.1 b (by omega)
  have g8 : ∀ j, j < 74 ∨ 242 ≤ j → mSpo (mCo4 f i) i j = mCo4 f i j := fun j hj => mSpo_n (fun o ho => by omega)
  obtain ⟨s9, y1, y2, y3, y4, y5⟩ := p120 (RW_rs W7 x2 c8 g8) (RLw_rs L7 M7.2.2.1 ha c8 g8) (IM_spo M7 x3) ha
  refine ⟨s9, ?_, y2, y3, y4, ?_⟩
  · unfold q118
    have k1' : q79 (a + 6) (nI i) (f 3 + nI 1) (sI s1 a 9 (f 3 + nI 1)) = ru s3 := by rw [← k1, ud_e rfl]
    simp (disch := omega) only [j1, e9, q9, k1', nI_lit, nI_add, pk_mul, nI_clp, nI_eqv, nI_lev, nI_ltv, nI_neg, nI_neg', nI_subv, Nat.add_zero, Nat.zero_add, Nat.mul_zero, Nat.reduceAdd, bN_rv, bM_ru, bV_rv, bV_rx, bU_ru, bU_rx, bN_ite, bM_ite, bV_ite, bU_ite, ↓bx_e, ↓sp_e, gA_ok, gZ_n, gB_0, gB_1, gB_i, and_true, and_false, true_and, false_and, decide_true, decide_false, ↓reduceIte, not_true_eq_false, not_false_eq_true, Bool.false_eq_true, Bool.true_eq_false, Bool.and_true, Bool.and_false, Bool.true_and, Bool.false_and, Bool.or_true, Bool.or_false, Bool.true_or, Bool.false_or, Bool.not_true, Bool.not_false, le_f, le_t, lt_f, lt_t, eq_f, ↓reduceIte, not_true_eq_false, not_false_eq_true, ite_10, bt_0, bt_1]
    rw [l1]
    unfold q118_85
    have d3 : (sI (sI s4 (a + 1 + 4) (wh f i) (mCo1 f i (49 + 5 * wh f i + 4) + nI 1)) (a + 1 + 3) (wh f i) (nI 0)).1 a 11 = mCo2 f i (wh f i) 5 := by
      rw [sI_fn (by omega), sI_fn (by omega), l3 _ (by omega), W3.2.2.2.2.2.2.2.1, p5]
    have t6 : s6.1 a 9 = mHis (mCo3 f i) i 3 := W6.2.2.2.2.2.1
    have u6 : mHis (mCo3 f i) i (74 + 21 * i + 1) = nI (wh f i) := by
      rw [h6n _ (by omega) (by omega), m3n _ (by omega) (by omega) (by omega) (fun k hk => by omega), mCo0_n (by omega) (by omega) (by omega)]; exact w1
    rw [u6] at r1
    simp (disch := omega) only [cl4, d4, d3, hs5, o1, t6, r1, x1, y1, nI_lit, nI_add, pk_mul, nI_clp, nI_eqv, nI_lev, nI_ltv, nI_neg, nI_neg', nI_subv, Nat.add_zero, Nat.zero_add, Nat.mul_zero, Nat.reduceAdd, bN_rv, bM_ru, bV_rv, bV_rx, bU_ru, bU_rx, bN_ite, bM_ite, bV_ite, bU_ite, ↓bx_e, ↓sp_e, gA_ok, gZ_n, gB_0, gB_1, gB_i, and_true, and_false, true_and, false_and, decide_true, decide_false, ↓reduceIte, not_true_eq_false, not_false_eq_true, Bool.false_eq_true, Bool.true_eq_false, Bool.and_true, Bool.and_false, Bool.true_and, Bool.false_and, Bool.or_true, Bool.or_false, Bool.true_or, Bool.false_or, Bool.not_true, Bool.not_false, le_f, le_t, lt_f, lt_t, eq_f, ↓reduceIte, not_true_eq_false, not_false_eq_true, ite_10, bt_0, bt_1]
  · exact Fw_t F1 (Fw_t F2 (Fw_t (Fw_z k4 (by omega) (by omega)) (Fw_t F4 (Fw_t F5 (Fw_t (Fw_f o3 (by omega) (by omega)) (Fw_t (Fw_f r3 (by omega) (by omega)) (Fw_t (Fw_z x4 (by omega) (by omega)) y5)))))))
