/-! WHAT RESTS ON WHICH CELLS -/
theorem RC_c {s s' : mS} {y : Nat} {f g : Nat → Int32} (h : RC s y f) (hc : ∀ b, y ≤ b → b < y + 5 → s'.1 b = s.1 b) (h0 : g 0 = f 0) (h1 : ∀ j, 49 ≤ j → j < 74 → g j = f j) : RC s' y g := by
  obtain ⟨n, hn, e0, e1, e2, e3, e4, e5, e6⟩ := h
  refine ⟨n, hn, by rw [h0, e0], by rw [hc y (by omega) (by omega), e1], fun j => ?_, fun c hc5 => ?_, fun c hc5 => ?_, fun c hc5 => ?_, fun c hc5 => ?_⟩
  · rw [hc y (by omega) (by omega), e2 j]
    by_cases hj : j < 5
    · rw [h1 _ (by omega) (by omega)]
    · simp only [hj, and_true, and_false, true_and, false_and, decide_true, decide_false, ↓reduceIte, not_true_eq_false, not_false_eq_true, Bool.false_eq_true, Bool.true_eq_false, Bool.and_true, Bool.and_false, Bool.true_and, Bool.false_and, Bool.or_true, Bool.or_false, Bool.true_or, Bool.false_or, Bool.not_true, Bool.not_false]
  · rw [hc _ (by omega) (by omega), h1 _ (by omega) (by omega)]; exact e3 c hc5
  · rw [hc _ (by omega) (by omega), h1 _ (by omega) (by omega)]; exact e4 c hc5
  · rw [hc _ (by omega) (by omega), h1 _ (by omega) (by omega)]; exact e5 c hc5
  · rw [hc _ (by omega) (by omega), h1 _ (by omega) (by omega)]; exact e6 c hc5
theorem RK_c {s s' : mS} {a : Nat} {f g : Nat → Int32} (h : RK s a f) (hc : ∀ b, a + 28 ≤ b → b < a + 32 → s'.1 b = s.1 b) (h1 : ∀ j, 9 ≤ j → j < 49 → g j = f j) : RK s' a g := by
  intro k hk
  rw [hc _ (by omega) (by omega), hc _ (by omega) (by omega), hc _ (by omega) (by omega), hc _ (by omega) (by omega), h1 _ (by omega) (by omega), h1 _ (by omega) (by omega), h1 _ (by omega) (by omega), h1 _ (by omega) (by omega)]
  exact h k hk
theorem RLg_c {s s' : mS} {y : Nat} {f g : Nat → Int32} (h : RLg s y f) (hc : ∀ b, y ≤ b → b < y + 2 → s'.1 b = s.1 b) (h6 : g 6 = f 6) (h1 : ∀ j, 530 ≤ j → j < 770 → g j = f j) : RLg s' y g := by
  obtain ⟨n, x, hn, hx, e6, e0, e1, ec⟩ := h
  refine ⟨n, x, hn, hx, by rw [h6, e6], by rw [hc y (by omega) (by omega), e0], by rw [hc y (by omega) (by omega), e1], fun k w hk hw => ?_⟩
  rw [hc (y + 1) (by omega) (by omega), h1 _ (by omega) (by omega)]
  exact ec k w hk hw
theorem RH_c {s s' : mS} {y : Nat} {f g : Nat → Int32} (h : RH s y f) (hc : ∀ b, y ≤ b → b < y + 7 → s'.1 b = s.1 b) (h7 : g 7 = f 7) (h1 : ∀ j, 242 ≤ j → j < 530 → g j = f j) : RH s' y g := by
  obtain ⟨n, x, hn, hx, e6, e0, e1, ec⟩ := h
  refine ⟨n, x, hn, hx, by rw [h7, e6], by rw [hc y (by omega) (by omega), e0], by rw [hc y (by omega) (by omega), e1], fun r hr => ?_⟩
  obtain ⟨c1, c2, c3, c4, c5⟩ := ec r hr
  refine ⟨?_, ?_, ?_, ?_, fun k hk => ⟨?_, ?_⟩⟩
  · rw [hc _ (by omega) (by omega), h1 _ (by omega) (by omega)]; exact c1
  · rw [hc _ (by omega) (by omega), h1 _ (by omega) (by omega)]; exact c2
  · rw [hc _ (by omega) (by omega), h1 _ (by omega) (by omega)]; exact c3
  · rw [hc _ (by omega) (by omega), h1 _ (by omega) (by omega)]; exact c4
  · rw [hc _ (by omega) (by omega), h1 _ (by omega) (by omega)]; exact (c5 k hk).1
  · rw [hc _ (by omega) (by omega), h1 _ (by omega) (by omega)]; exact (c5 k hk).2
theorem RW_s {s s' : mS} {a : Nat} {f : Nat → Int32} (h : RW s a f) (hw : IW f) (hc : ∀ b, a ≤ b → b < a + 32 → s'.1 b = s.1 b) : RW s' a f := by
  obtain ⟨h1, h2, h3, h4, h5, h6, h7, h8, h9, h10⟩ := h
  refine ⟨RS_c h1 hw (fun b x y => hc b (by omega) (by omega)) (fun _ _ _ => rfl) (fun _ _ => rfl), RC_c h2 (fun b x y => hc b (by omega) (by omega)) rfl (fun _ _ _ => rfl), RK_c h3 (fun b x y => hc b (by omega) (by omega)) (fun _ _ _ => rfl), RLg_c h4 (fun b x y => hc b (by omega) (by omega)) rfl (fun _ _ _ => rfl), RH_c h5 (fun b x y => hc b (by omega) (by omega)) rfl (fun _ _ _ => rfl), ?_, ?_, ?_, ?_, ?_⟩ <;> rw [hc a (by omega) (by omega)] <;> assumption
theorem lE_c {f g : Nat → Int32} (h1 : ∀ j, 770 ≤ j → j < 1619 → g j = f j) {c : Nat} (hc : c < 12) : lE g c = lE f c := by unfold lE; rw [h1 _ (by omega) (by omega)]
theorem lB_c {f g : Nat → Int32} (h1 : ∀ j, 770 ≤ j → j < 1619 → g j = f j) {c : Nat} (hc : c < 12) : lB g c = lB f c := by unfold lB; rw [h1 _ (by omega) (by omega)]
theorem lOp_c {f g : Nat → Int32} (h1 : ∀ j, 770 ≤ j → j < 1619 → g j = f j) {i : Nat} (hc : i < 400) : lOp g i = lOp f i := by unfold lOp; rw [h1 _ (by omega) (by omega)]
theorem tyL_c {f g : Nat → Int32} (h1 : ∀ j, 770 ≤ j → j < 1619 → g j = f j) : ∀ m i ts, i + m ≤ 400 → tyL g m i ts = tyL f m i ts := by
  intro m
  induction m with
  | zero => intro i ts _; rfl
  | succ m ih =>
    intro i ts h
    rw [tyL, tyL, lOp_c h1 (by omega)]
    split
    · rfl
    · split
      · rfl
      · exact ih _ _ (by omega)
theorem WLn_c {f g : Nat → Int32} (h1 : ∀ j, 770 ≤ j → j < 1619 → g j = f j) {c : Nat} (hc : c < 12) (h : WLn f c) : WLn g c := by
  obtain ⟨l1, l2, l3, l4, l5, l6⟩ := h
  unfold WLn
  rw [lE_c h1 hc, lB_c h1 hc, tyL_c h1 _ _ _ (by omega), h1 _ (by omega) (by omega), h1 _ (by omega) (by omega)]
  refine ⟨l1, l2, l3, l4, fun i hi => ?_, l6⟩
  unfold WO
  rw [lOp_c h1 (by omega), h1 _ (by omega) (by omega), h1 _ (by omega) (by omega)]
  exact l5 i hi
theorem WLw_c {f g : Nat → Int32} (h2 : g 2 = f 2) (h1 : ∀ j, 770 ≤ j → j < 1619 → g j = f j) (h : WLw f) : WLw g := by
  unfold WLw
  rw [h2, h1 _ (by omega) (by omega)]
  rcases h with h | ⟨h, n, hn, h7, hl⟩
  · exact Or.inl h
  · refine Or.inr ⟨h, n, hn, h7, fun c hc => ?_⟩
    obtain ⟨q1, q2, q3⟩ := hl c hc
    refine ⟨WLn_c h1 (by omega) q1, fun e => ?_, fun e => ?_⟩
    · rw [lB_c h1 (by omega)]; exact q2 e
    · rw [lB_c h1 (by omega), lE_c h1 (by omega)]; exact q3 e
theorem RLw_c {s s' : mS} {f g : Nat → Int32} (hw : WLw f) (h2 : g 2 = f 2) (h1 : ∀ j, 770 ≤ j → j < 1619 → g j = f j) (hc : ∀ b, 3 ≤ b → b < 8 → s'.1 b = s.1 b) (h : RLw s f) : RLw s' g := by
  unfold RLw
  rw [h2, h1 _ (by omega) (by omega), hc 3 (by omega) (by omega), hc 4 (by omega) (by omega), hc 5 (by omega) (by omega), hc 6 (by omega) (by omega), hc 7 (by omega) (by omega)]
  rcases h with h | ⟨h, n, hn, h7, h30, hl⟩
  · exact Or.inl h
  · refine Or.inr ⟨h, n, hn, h7, h30, fun c hc => ?_⟩
    obtain ⟨q1, q2, q3, q4⟩ := hl c hc
    have hE : lE f c ≤ 400 := by
      rcases hw with q | ⟨q, m, hm, hm7, hq⟩
      · rw [h] at q; exact absurd q (by decide)
      · have : m = n := by
          rw [h7] at hm7
          have := (nI_eq (by omega) (by omega)).mp hm7
          omega
        subst this; exact (hq c hc).1.2.2.2.1
    rw [h1 _ (by omega) (by omega), h1 _ (by omega) (by omega), h1 _ (by omega) (by omega), lE_c h1 (by omega)]
    refine ⟨q1, q2, q3, fun j hj => ?_⟩
    rw [lOp_c h1 (by omega), h1 _ (by omega) (by omega)]
    exact q4 j hj
/-- stamps: none above T -/
def IT (T : Nat) (f : Nat → Int32) : Prop := T < 1000000000 ∧ f 3 = nI T ∧ ∀ i, i < 8 → (∃ b, b ≤ T ∧ f (74 + 21 * i + 2) = nI b) ∧ (∃ e, e ≤ T ∧ f (74 + 21 * i + 3) = nI e) ∧ (∃ o, o ≤ T + 1 ∧ f (74 + 21 * i + 8) = nI o)
def IM (T : Nat) (f : Nat → Int32) : Prop := IS f ∧ IC f ∧ WLw f ∧ IT T f ∧ ∃ k, k ≤ 6 ∧ f 4 = nI k
theorem p122 {s : mS} {a : Nat} {f : Nat → Int32} (h : RW s a f) (hL : RLw s f) (hs : IS f) (hc : IC f) (hw : WLw f) (ha : 10 ≤ a) {i : Nat} (hi : i < 8) (hu : sU f i = true) : ∃ s', q122 a (nI i) s = rv (sBl f i) s' ∧ Fq s s' := by
  obtain ⟨s1, h1, h2, h3, h4⟩ := p124 h hs hc ha hi hu
  have L1 : RLw s1 f := RLw_c hw rfl (fun _ _ _ => rfl) (fun b x y => h3 b (by omega)) hL
  obtain ⟨s2, j1, j2⟩ := p25 (kd := nI 0) hs hc hw L1 hi h2
  have L2 : RLw s2 f := RLw_c hw rfl (fun _ _ _ => rfl) (fun b x y => j2.1 b (by omega)) L1
  obtain ⟨s3, k1, k2⟩ := p25 (kd := nI 1) hs hc hw L2 hi (fun k hk => by rw [j2.1 8 (by omega)]; exact h2 k hk)
  refine ⟨s3, ?_, fun b b8 b9 => ?_, ?_⟩
  · unfold q122 sBl
    simp (disch := omega) only [h1, j1, k1, nI_lit, nI_add, pk_mul, nI_clp, nI_eqv, nI_lev, nI_ltv, nI_neg, nI_neg', nI_subv, Nat.add_zero, Nat.zero_add, Nat.mul_zero, Nat.reduceAdd, bN_rv, bM_ru, bV_rv, bV_rx, bU_ru, bU_rx, bN_ite, bM_ite, bV_ite, bU_ite, ↓bx_e, ↓sp_e, gA_ok, gZ_n, gB_0, gB_1, gB_i, and_true, and_false, true_and, false_and, decide_true, decide_false, ↓reduceIte, not_true_eq_false, not_false_eq_true, Bool.false_eq_true, Bool.true_eq_false, Bool.and_true, Bool.and_false, Bool.true_and, Bool.false_and, Bool.or_true, Bool.or_false, Bool.true_or, Bool.false_or, Bool.not_true, Bool.not_false, le_f, le_t, lt_f, lt_t, eq_f, ↓reduceIte, not_true_eq_false, not_false_eq_true, ite_10, bt_0, bt_1]
  · rw [k2.1 b b9, j2.1 b b9, h3 b b8]
  · rw [k2.2, j2.2, h4]
theorem p123 {s : mS} {a : Nat} {f : Nat → Int32} (h : RW s a f) (hL : RLw s f) (hs : IS f) (hc : IC f) (hw : WLw f) (ha : 10 ≤ a) {i : Nat} (hi : i < 8) (hu : sU f i = true) : ∃ s', q123 a (nI i) s = rv (sPay f i) s' ∧ Fq s s' := by
  obtain ⟨s1, h1, h2, h3, h4⟩ := p124 h hs hc ha hi hu
  have L1 : RLw s1 f := RLw_c hw rfl (fun _ _ _ => rfl) (fun b x y => h3 b (by omega)) hL
  obtain ⟨s2, j1, j2⟩ := p25 (kd := nI 2) hs hc hw L1 hi h2
  refine ⟨s2, ?_, fun b b8 b9 => ?_, ?_⟩
  · unfold q123 sPay
    simp (disch := omega) only [h1, j1, nI_lit, nI_add, pk_mul, nI_clp, nI_eqv, nI_lev, nI_ltv, nI_neg, nI_neg', nI_subv, Nat.add_zero, Nat.zero_add, Nat.mul_zero, Nat.reduceAdd, bN_rv, bM_ru, bV_rv, bV_rx, bU_ru, bU_rx, bN_ite, bM_ite, bV_ite, bU_ite, ↓bx_e, ↓sp_e, gA_ok, gZ_n, gB_0, gB_1, gB_i, and_true, and_false, true_and, false_and, decide_true, decide_false, ↓reduceIte, not_true_eq_false, not_false_eq_true, Bool.false_eq_true, Bool.true_eq_false, Bool.and_true, Bool.and_false, Bool.true_and, Bool.false_and, Bool.or_true, Bool.or_false, Bool.true_or, Bool.false_or, Bool.not_true, Bool.not_false, le_f, le_t, lt_f, lt_t, eq_f, ↓reduceIte, not_true_eq_false, not_false_eq_true, ite_10, bt_0, bt_1]
  · rw [j2.1 b b9, h3 b b8]
  · rw [j2.2, h4]
def Fw (a : Nat) (s s' : mS) : Prop := (∀ b, (b < a ∨ a + 32 ≤ b) → b ≠ 8 → b ≠ 9 → s'.1 b = s.1 b) ∧ s'.2 = s.2
theorem Fw_r {a : Nat} {s : mS} : Fw a s s := ⟨fun _ _ _ _ => rfl, rfl⟩
theorem Fw_t {a : Nat} {s s' s'' : mS} (h : Fw a s s') (h2 : Fw a s' s'') : Fw a s s'' := ⟨fun b hb x y => (h2.1 b hb x y).trans (h.1 b hb x y), h2.2.trans h.2⟩
theorem Fw_q {a : Nat} {s s' : mS} (h : Fq s s') : Fw a s s' := ⟨fun b _ x y => h.1 b x y, h.2⟩
theorem Fw_z {a z : Nat} {s s' : mS} (h : Fz z s s') (h1 : a ≤ z) (h2 : z + 12 ≤ a + 32) : Fw a s s' := ⟨fun b hb _ _ => h.1 b (by omega), h.2⟩
theorem Fw_f {a z n : Nat} {s s' : mS} (h : Fr z n s s') (h1 : a ≤ z) (h2 : z + n ≤ a + 32) : Fw a s s' := ⟨fun b hb _ _ => h.1 b (by omega), h.2⟩
theorem Fw_I {a c k : Nat} {x : Int32} {s : mS} (h1 : a ≤ c) (h2 : c < a + 32) : Fw a s (sI s c k x) := ⟨fun b hb _ _ => sI_fn (by omega), Eq.trans rfl rfl⟩
theorem RW_q {s s' : mS} {a : Nat} {f : Nat → Int32} (h : RW s a f) (hw : IW f) (ha : 10 ≤ a) (hq : Fq s s') : RW s' a f := RW_s h hw (fun b x y => hq.1 b (by omega) (by omega))
theorem RLw_q {s s' : mS} {f : Nat → Int32} (h : RLw s f) (hw : WLw f) (hq : Fq s s') : RLw s' f := RLw_c hw rfl (fun _ _ _ => rfl) (fun b x y => hq.1 b (by omega) (by omega)) h
