/-! TEXTS: feeding, ending, using up -/
def Gx (s s' : mS) : Prop := (∀ b, b ≠ 0 → b ≠ 1 → b ≠ 2 → b ≠ 518 → b ≠ 8 → b ≠ 9 → b ≠ 51 → ¬ (15 ≤ b ∧ b < 26) → ¬ (58 ≤ b ∧ b < 90) → ¬ (122 ≤ b ∧ b < 127) → b ≠ 512 → b ≠ 515 → b ≠ 516 → b < 519 → s'.1 b = s.1 b) ∧ (∀ j, j = 6 ∨ j = 7 → s'.1 512 j = s.1 512 j) ∧ (∀ j, j ≠ 13 → s'.1 0 j = s.1 0 j)
theorem G_x {B : Nat} {s s' : mS} (hG : G B s) (h : Gx s s') (hF : s'.1 0 13 = s'.1 512 14) (hT5 : GT s') : G B s' := by
  obtain ⟨⟨w1, w2, T, hT, w3⟩, hI, ⟨r, x, r1, r2, r3, r4, r5, r6⟩, -, -, hU⟩ := hG
  have c : ∀ b, b ≠ 0 → b ≠ 1 → b ≠ 2 → b ≠ 518 → b ≠ 8 → b ≠ 9 → b ≠ 51 → ¬ (15 ≤ b ∧ b < 26) → ¬ (58 ≤ b ∧ b < 90) → ¬ (122 ≤ b ∧ b < 127) → b ≠ 512 → b ≠ 515 → b ≠ 516 → b < 519 → s'.1 b = s.1 b := h.1
  have e513 : s'.1 513 = s.1 513 := c 513 (by omega) (by omega) (by omega) (by omega) (by omega) (by omega) (by omega) (by omega) (by omega) (by omega) (by omega) (by omega) (by omega) (by omega)
  have e514 : s'.1 514 = s.1 514 := c 514 (by omega) (by omega) (by omega) (by omega) (by omega) (by omega) (by omega) (by omega) (by omega) (by omega) (by omega) (by omega) (by omega) (by omega)
  have e517 : s'.1 517 = s.1 517 := c 517 (by omega) (by omega) (by omega) (by omega) (by omega) (by omega) (by omega) (by omega) (by omega) (by omega) (by omega) (by omega) (by omega) (by omega)
  have e0 : ∀ j, j ≠ 13 → s'.1 0 j = s.1 0 j := h.2.2
  have eA : ∀ p, hAct s' p = hAct s p := fun p => by unfold hAct; rw [e517, e513]
  refine ⟨⟨?_, ?_, T, hT, by rw [e513]; exact w3⟩, ?_, ⟨r, x, r1, r2, by rw [e0 11 (by omega)]; exact r3, by rw [h.2.1 7 (by omega)]; exact r4, by rw [e0 10 (by omega)]; exact r5, fun d hd => ?_⟩, hT5, hF, by rw [e513]; exact hU.1, by rw [e514, h.2.1 6 (by omega)]; exact hU.2.1, fun r hr e p hp => by rw [eA]; exact hU.2.2 r hr (by rw [← h.2.1 7 (by omega)]; exact e) p hp⟩
  · rw [e513]; exact RW_s25 w1 w3.1.1.1 (fun b x y z => c b (by omega) (by omega) (by omega) (by omega) (by omega) (by omega) (by omega) (by omega) (by omega) (by omega) (by omega) (by omega) (by omega) (by omega))
  · rw [e513]; exact RLw_c w3.1.2.2.1 rfl (fun _ _ _ => rfl) (fun b x y => c b (by omega) (by omega) (by omega) (by omega) (by omega) (by omega) (by omega) (by omega) (by omega) (by omega) (by omega) (by omega) (by omega) (by omega)) w2
  · rcases hI with ⟨i1, i2⟩ | ⟨i1, i2, i3, i4, T', hT', i5⟩
    · exact Or.inl ⟨by rw [e0 12 (by omega)]; exact i1, by rw [h.2.1 6 (by omega)]; exact i2⟩
    · refine Or.inr ⟨by rw [e0 12 (by omega)]; exact i1, by rw [h.2.1 6 (by omega)]; exact i2, ?_, ?_, T', hT', by rw [e514]; exact i5⟩
      · rw [e514]; exact RW_s25 i3 i5.1.1.1 (fun b x y z => c b (by omega) (by omega) (by omega) (by omega) (by omega) (by omega) (by omega) (by omega) (by omega) (by omega) (by omega) (by omega) (by omega) (by omega))
      · have q : ∀ b, 10 ≤ b → b < 15 → s'.1 b = s.1 b := fun b x y => c b (by omega) (by omega) (by omega) (by omega) (by omega) (by omega) (by omega) (by omega) (by omega) (by omega) (by omega) (by omega) (by omega) (by omega)
        unfold RLb at i4 ⊢
        rw [e514, q 10 (by omega) (by omega), q (10 + 1) (by omega) (by omega), q (10 + 2) (by omega) (by omega), q (10 + 3) (by omega) (by omega), q (10 + 4) (by omega) (by omega)]
        exact i4
  · obtain ⟨q1, q2, T', hT', q3⟩ := r6 d hd
    refine ⟨?_, by rw [e517, e513]; exact q2, T', hT', by rw [eA]; exact q3⟩
    rw [eA]; exact RW_s25 q1 q3.1.1.1 (fun b x y z => c b (by omega) (by omega) (by omega) (by omega) (by omega) (by omega) (by omega) (by omega) (by omega) (by omega) (by omega) (by omega) (by omega) (by omega))

theorem by_sx : ∀ k, k < 256 → sx k = if k < 128 then nI k else (nI k ||| -256) := by decide +kernel
theorem by_7 : ∀ k, k < 256 → bt (nI k) 7 = decide (128 ≤ k) := by decide +kernel
theorem by_m : ∀ i, i < 32 → bt (-256) i = decide (8 ≤ i) := by decide +kernel
theorem by_i8 (x : Int32) {i : Nat} (hi : i < 32) : bt (x.toInt8.toInt32) i = if i < 8 then bt x i else bt x 7 := by
  show ((x.toBitVec.signExtend 8).signExtend 32).getLsbD i = if i < 8 then x.toBitVec.getLsbD i else x.toBitVec.getLsbD 7
  rw [BitVec.getLsbD_signExtend]
  have h8 : (x.toBitVec.signExtend 8).msb = x.toBitVec.getLsbD 7 := by
    rw [BitVec.msb_eq_getLsbD_last, BitVec.getLsbD_signExtend]
    simp
  rw [h8]
  by_cases h : i < 8
  · rw [if_pos h, if_pos h, BitVec.getLsbD_signExtend]
    simp [h, hi]
  · rw [if_neg h, if_neg h]
    simp [hi]
/-- a byte of a number, as both keep it -/
theorem byt_e (v : Int32) {sh : Nat} (hs : sh ≤ 24) : ∃ b, b < 256 ∧ (ushI v (nI sh) &&& nI 255) = nI b ∧ vp_nar .byte ((shrI v (nI sh)).toInt8.toInt32) = sx b := by
  have hw : ∀ j, 8 ≤ j → bt (ushI v (nI sh) &&& nI 255) j = false := fun j hj => by
    rw [b_and, show bt (nI 255) j = decide (j < 8) from b_255 j, decide_eq_false (by omega), Bool.and_false]
  obtain ⟨b, h1, h2⟩ := w_of (show 8 ≤ 31 by omega) hw
  have h1 : b < 256 := h1
  refine ⟨b, h1, h2, ?_⟩
  have hbt : ∀ i, bt (nI b) i = (bt v (sh + i) && decide (i < 8)) := fun i => by
    rw [← h2, b_and, show bt (nI 255) i = decide (i < 8) from b_255 i]
    unfold ushI
    rw [b_ushr sh (by omega)]
  have hnn : ∀ y : Int32, vp_nar .byte y = y.toInt8.toInt32 := fun _ => rfl
  rw [hnn, by_sx b h1]
  have h7 := by_7 b h1
  rw [hbt 7, decide_eq_true (by omega), Bool.and_true] at h7
  have hsh : ∀ i, i < 8 → bt (shrI v (nI sh)) i = bt v (sh + i) := fun i hi => by
    unfold shrI
    rw [b_sshr sh (by omega) v (by omega), if_pos (by omega)]
  apply b_ext
  intro i hi
  rw [by_i8 _ hi]
  have hin : ∀ j, j < 8 → bt ((shrI v (nI sh)).toInt8.toInt32) j = bt v (sh + j) := fun j hj => by rw [by_i8 _ (by omega), if_pos hj, hsh j hj]
  have e7 := hin 7 (by omega)
  by_cases h : i < 8
  · rw [if_pos h, hin i h]
    split
    · rw [hbt, decide_eq_true h, Bool.and_true]
    · rw [b_or, hbt, decide_eq_true h, Bool.and_true, by_m i hi, decide_eq_false (by omega), Bool.or_false]
  · rw [if_neg h, e7, h7]
    split
    · rename_i q
      rw [decide_eq_false (by omega), hbt, decide_eq_false h, Bool.and_false]
    · rename_i q
      rw [decide_eq_true (by omega), b_or, by_m i hi, decide_eq_true (by omega), Bool.or_true]
def st98 (s : mS) (L : Nat) (x : Int32) : mS := sI (sI s 2 L x) 1 1 (nI (L + 1))
theorem p98_s {n sh L : Nat} {v : Int32} {s : mS} (h1 : s.1 1 1 = nI L) (hL : L < 400) (hs : sh ≤ 24) : q98_3 (n + 1) v (nI sh) s = q98_3 n v (nI sh + -8) (st98 s L (ushI v (nI sh) &&& nI 255)) := by
  have e : (sI s 2 L (ushI v (nI sh) &&& nI 255)).1 1 1 = nI L := by rw [sI_fn (by omega)]; exact h1
  have l : (nI sh < nI 0) = False := lt0 (by omega)
  unfold st98
  rw [q98_3]
  simp (disch := omega) only [h1, l, e, nI_lit, nI_add, pk_mul, nI_clp, nI_eqv, nI_lev, nI_ltv, nI_neg, nI_neg', nI_subv, Nat.add_zero, Nat.zero_add, Nat.mul_zero, Nat.reduceAdd, bN_rv, bM_ru, bV_rv, bV_rx, bU_ru, bU_rx, bN_ite, bM_ite, bV_ite, bU_ite, ↓bx_e, ↓sp_e, gA_ok, gZ_n, gB_0, gB_1, gB_i, and_true, and_false, true_and, false_and, decide_true, decide_false, ↓reduceIte, not_true_eq_false, not_false_eq_true, Bool.false_eq_true, Bool.true_eq_false, Bool.and_true, Bool.and_false, Bool.true_and, Bool.false_and, Bool.or_true, Bool.or_false, Bool.true_or, Bool.false_or, Bool.not_true, Bool.not_false, le_f, le_t, lt_f, lt_t, eq_f, ↓reduceIte, not_true_eq_false, not_false_eq_true, ite_10, bt_0, bt_1]
/-- four bytes behind one another -/
theorem p98 {L : Nat} {v : Int32} {s : mS} (h1 : s.1 1 1 = nI L) (hL : L + 4 ≤ 400) : ∃ s', q98 v s = ru s' ∧ s'.1 1 1 = nI (L + 4) ∧ (∀ j, j ≠ 1 → s'.1 1 j = s.1 1 j) ∧ (∀ b, b ≠ 1 → b ≠ 2 → s'.1 b = s.1 b) ∧ s'.2 = s.2 ∧ (∀ i, i < L → s'.1 2 i = s.1 2 i) ∧ ∀ k, k < 4 → s'.1 2 (L + k) = ushI v (nI (24 - 8 * k)) &&& nI 255 := by
  refine ⟨st98 (st98 (st98 (st98 s L (ushI v (nI 24) &&& nI 255)) (L + 1) (ushI v (nI 16) &&& nI 255)) (L + 2) (ushI v (nI 8) &&& nI 255)) (L + 3) (ushI v (nI 0) &&& nI 255), ?_, ?_, fun j hj => ?_, fun b x y => ?_, Eq.trans rfl rfl, fun i hi => ?_, fun k hk => ?_⟩
  · have e1 : ∀ s k x, (st98 s k x).1 1 1 = nI (k + 1) := fun s k x => by unfold st98; rw [sI_sm, ud_e rfl]
    unfold q98
    simp only [nI_lit]
    have a1 := p98_s (n := 9999) (v := v) (sh := 24) h1 (by omega) (by omega)
    have a2 := p98_s (n := 9998) (v := v) (sh := 16) (e1 s L (ushI v (nI 24) &&& nI 255)) (by omega) (by omega)
    have a3 := p98_s (n := 9997) (v := v) (sh := 8) (e1 (st98 s L (ushI v (nI 24) &&& nI 255)) (L + 1) (ushI v (nI 16) &&& nI 255)) (by omega) (by omega)
    have a4 := p98_s (n := 9996) (v := v) (sh := 0) (e1 (st98 (st98 s L (ushI v (nI 24) &&& nI 255)) (L + 1) (ushI v (nI 16) &&& nI 255)) (L + 2) (ushI v (nI 8) &&& nI 255)) (by omega) (by omega)
    rw [show (nI 24 + -8 : Int32) = nI 16 by decide] at a1
    rw [show (nI 16 + -8 : Int32) = nI 8 by decide] at a2
    rw [show (nI 8 + -8 : Int32) = nI 0 by decide] at a3
    refine a1.trans (a2.trans (a3.trans (a4.trans ?_)))
    rw [show (9996 : Nat) = 9995 + 1 from rfl, q98_3, if_pos (by decide)]
  · unfold st98; rw [sI_sm, ud_e rfl]
  · unfold st98
    simp only [sI_at, if_pos, if_neg hj, show (1 : Nat) ≠ 2 by omega, if_false]
  · unfold st98
    rw [sI_fn x, sI_fn y, sI_fn x, sI_fn y, sI_fn x, sI_fn y, sI_fn x, sI_fn y]
  · unfold st98
    rw [sI_fn (by omega), sI_sm, ud_n (by omega), sI_fn (by omega), sI_sm, ud_n (by omega), sI_fn (by omega), sI_sm, ud_n (by omega), sI_fn (by omega), sI_sm, ud_n (by omega)]
  · unfold st98
    have k4 : k = 0 ∨ k = 1 ∨ k = 2 ∨ k = 3 := by omega
    rcases k4 with e | e | e | e <;> subst e
    · rw [sI_fn (by omega), sI_sm, ud_n (by omega), sI_fn (by omega), sI_sm, ud_n (by omega), sI_fn (by omega), sI_sm, ud_n (by omega), sI_fn (by omega), sI_sm, ud_e (by omega)]
    · rw [sI_fn (by omega), sI_sm, ud_n (by omega), sI_fn (by omega), sI_sm, ud_n (by omega), sI_fn (by omega), sI_sm, ud_e (by omega)]
    · rw [sI_fn (by omega), sI_sm, ud_n (by omega), sI_fn (by omega), sI_sm, ud_e (by omega)]
    · rw [sI_fn (by omega), sI_sm, ud_e (by omega)]
def fv (v1 v2 v3 v4 v5 : Int32) (k : Nat) : Int32 := if k = 0 then v1 else if k = 1 then v2 else if k = 2 then v3 else if k = 3 then v4 else v5
theorem m213_60 {t0 : mS} {L : Nat} {vs : Nat → Int32} {K : mS → Option mQ} (hL : L + 20 ≤ 400) (h9 : t0.1 512 9 = nI L) (hv : ∀ j, j < 5 → t0.1 519 j = vs j) : ∀ r k n t, F1 518 t0 t → k + r = 20 → r < n → ∃ t', q213_60 K n (nI k) t = K t' ∧ F1 518 t0 t' ∧ (∀ i, i < L + k → t'.1 518 i = t.1 518 i) ∧ ∀ i, k ≤ i → i < 20 → t'.1 518 (L + i) = vp_nar .byte ((shrI (vs (i / 4)) (nI (24 - 8 * (i % 4)))).toInt8.toInt32) := by
  intro r
  induction r with
  | zero =>
    intro k n t hF hk hn
    cases n with
    | zero => omega
    | succ n =>
      refine ⟨t, ?_, hF, fun _ _ => rfl, fun i h1 h2 => by omega⟩
      rw [q213_60]
      simp (disch := omega) only [nI_lit, nI_add, pk_mul, nI_clp, nI_eqv, nI_lev, nI_ltv, nI_neg, nI_neg', nI_subv, Nat.add_zero, Nat.zero_add, Nat.mul_zero, Nat.reduceAdd, bN_rv, bM_ru, bV_rv, bV_rx, bU_ru, bU_rx, bN_ite, bM_ite, bV_ite, bU_ite, ↓bx_e, ↓sp_e, gA_ok, gZ_n, gB_0, gB_1, gB_i, and_true, and_false, true_and, false_and, decide_true, decide_false, ↓reduceIte, not_true_eq_false, not_false_eq_true, Bool.false_eq_true, Bool.true_eq_false, Bool.and_true, Bool.and_false, Bool.true_and, Bool.false_and, Bool.or_true, Bool.or_false, Bool.true_or, Bool.false_or, Bool.not_true, Bool.not_false, le_f, le_t, lt_f, lt_t, eq_f, ↓reduceIte, not_true_eq_false, not_false_eq_true, ite_10, bt_0, bt_1]
  | succ r ih =>
    intro k n t hF hk hn
    cases n with
    | zero => omega
    | succ n =>
      obtain ⟨t', a1, a2, a3, a4⟩ := ih (k + 1) n (sI t 518 (L + k) (vp_nar .byte ((shrI (vs (k / 4)) (nI (24 - 8 * (k % 4)))).toInt8.toInt32))) (F1_J hF _ _) (by omega) (by omega)
      refine ⟨t', ?_, a2, fun i hi => by rw [a3 i (by omega), sI_sm, ud_n (by omega)], fun i h1 h2 => ?_⟩
      · have e9 : t.1 512 9 = nI L := by rw [hF.1 512 (by omega)]; exact h9
        have e5 : t.1 519 (k / 4) = vs (k / 4) := by rw [hF.1 519 (by omega)]; exact hv _ (by omega)
        have q1 : nI k / nI 4 = nI (k / 4) := nI_quo (by omega) (by omega) (by omega)
        have q2 : rmI (nI k) (nI 4) = nI (k % 4) := nI_rem (by omega) (by omega) (by omega)
        have q3 : k / 4 < 5 := by omega
        have q4 : 8 * (k % 4) ≤ 24 := by omega
        rw [← a1, q213_60]
        simp (disch := omega) only [e9, e5, q1, q2, nI_lit, nI_add, pk_mul, nI_clp, nI_eqv, nI_lev, nI_ltv, nI_neg, nI_neg', nI_subv, Nat.add_zero, Nat.zero_add, Nat.mul_zero, Nat.reduceAdd, bN_rv, bM_ru, bV_rv, bV_rx, bU_ru, bU_rx, bN_ite, bM_ite, bV_ite, bU_ite, ↓bx_e, ↓sp_e, gA_ok, gZ_n, gB_0, gB_1, gB_i, and_true, and_false, true_and, false_and, decide_true, decide_false, ↓reduceIte, not_true_eq_false, not_false_eq_true, Bool.false_eq_true, Bool.true_eq_false, Bool.and_true, Bool.and_false, Bool.true_and, Bool.false_and, Bool.or_true, Bool.or_false, Bool.true_or, Bool.false_or, Bool.not_true, Bool.not_false, le_f, le_t, lt_f, lt_t, eq_f, ↓reduceIte, not_true_eq_false, not_false_eq_true, ite_10, bt_0, bt_1]
      · by_cases e : i = k
        · subst e; rw [a3 _ (by omega), sI_sm, ud_e rfl]
        · exact a4 i (by omega) h2
section TXT
variable {B : Nat} {s : mS}
theorem Gx_q {s s' : mS} (h : Gq s s') : Gx s s' := ⟨fun b a0 _ _ _ a1 a2 a3 a4 a5 a6 a7 a8 a9 a10 => h.1 b a1 a2 a3 a4 a5 a6 a7 a8 a9 a10, fun j hj => h.2 j (by omega), fun j _ => by rw [h.1 0 (by omega) (by omega) (by omega) (by omega) (by omega) (by omega) (by omega) (by omega) (by omega) (by omega)]⟩
theorem Gx_t {s s' s'' : mS} (h : Gx s s') (h2 : Gx s' s'') : Gx s s'' := ⟨fun b a1 a2 a3 a4 a5 a6 a7 a8 a9 a10 a11 a12 a13 a14 => (h2.1 b a1 a2 a3 a4 a5 a6 a7 a8 a9 a10 a11 a12 a13 a14).trans (h.1 b a1 a2 a3 a4 a5 a6 a7 a8 a9 a10 a11 a12 a13 a14), fun j hj => (h2.2.1 j hj).trans (h.2.1 j hj), fun j hj => (h2.2.2 j hj).trans (h.2.2 j hj)⟩
theorem z_end (hG : G B s) (v1 : Int32) : ZN B (q129 v1) (q214 v1) s := by
  have hG0 := hG
  obtain ⟨-, -, -, ⟨L, t1, t2, t3, t4, t5⟩, hF, -⟩ := hG0
  have bad : (v1 < nI 0 ∨ nI (L + 1) ≤ v1) → ZN B (q129 v1) (q214 v1) s := fun h => by
    refine ZN_0 (v := nI 0) hG ?_ (fun t ht => ?_)
    · unfold q129
      simp only [nI_lit, t2]
      rcases h with h | h
      · rw [if_pos h]
      · split
        · rfl
        · rw [if_neg (fun q => absurd (Int32.le_trans h q) (by rw [nI_lev (by omega) (by omega)]; omega))]
    · have e9 : (sI t 512 0 (nI 0)).1 512 9 = nI L := by rw [sI_sm, ud_n (by omega), ht]; exact t4
      unfold q214
      simp only [nI_lit, sp_e, e9]
      rcases h with h | h
      · rw [if_pos h]
      · split
        · rfl
        · rw [if_neg (fun q => absurd (Int32.le_trans h q) (by rw [nI_lev (by omega) (by omega)]; omega))]
  rcases ix_of v1 (L + 1) (by omega) with h | h | ⟨c, hc, e⟩
  · exact bad (Or.inl h)
  · exact bad (Or.inr h)
  subst e
  refine ⟨nI 1, sI s 1 1 (nI c), ?_, Eq.trans rfl rfl, fun t ht => ?_⟩
  · unfold q129
    have l : (nI c < nI 0) = False := lt0 (by omega)
    simp (disch := omega) only [t2, l, nI_lit, nI_add, pk_mul, nI_clp, nI_eqv, nI_lev, nI_ltv, nI_neg, nI_neg', nI_subv, Nat.add_zero, Nat.zero_add, Nat.mul_zero, Nat.reduceAdd, bN_rv, bM_ru, bV_rv, bV_rx, bU_ru, bU_rx, bN_ite, bM_ite, bV_ite, bU_ite, ↓bx_e, ↓sp_e, gA_ok, gZ_n, gB_0, gB_1, gB_i, and_true, and_false, true_and, false_and, decide_true, decide_false, ↓reduceIte, not_true_eq_false, not_false_eq_true, Bool.false_eq_true, Bool.true_eq_false, Bool.and_true, Bool.and_false, Bool.true_and, Bool.false_and, Bool.or_true, Bool.or_false, Bool.true_or, Bool.false_or, Bool.not_true, Bool.not_false, le_f, le_t, lt_f, lt_t, eq_f, ↓reduceIte, not_true_eq_false, not_false_eq_true, ite_10, bt_0, bt_1]
  · refine ⟨sI (sI t 512 0 (nI 0)) 512 9 (nI c), ?_, Lq_e (Eq.trans rfl rfl), ?_⟩
    · have e9 : (sI t 512 0 (nI 0)).1 512 9 = nI L := by rw [sI_sm, ud_n (by omega), ht, sI_fn (by omega)]; exact t4
      have l : (nI c < nI 0) = False := lt0 (by omega)
      unfold q214
      simp (disch := omega) only [e9, l, nI_lit, nI_add, pk_mul, nI_clp, nI_eqv, nI_lev, nI_ltv, nI_neg, nI_neg', nI_subv, Nat.add_zero, Nat.zero_add, Nat.mul_zero, Nat.reduceAdd, bN_rv, bM_ru, bV_rv, bV_rx, bU_ru, bU_rx, bN_ite, bM_ite, bV_ite, bU_ite, ↓bx_e, ↓sp_e, gA_ok, gZ_n, gB_0, gB_1, gB_i, and_true, and_false, true_and, false_and, decide_true, decide_false, ↓reduceIte, not_true_eq_false, not_false_eq_true, Bool.false_eq_true, Bool.true_eq_false, Bool.and_true, Bool.and_false, Bool.true_and, Bool.false_and, Bool.or_true, Bool.or_false, Bool.true_or, Bool.false_or, Bool.not_true, Bool.not_false, le_f, le_t, lt_f, lt_t, eq_f, ↓reduceIte, not_true_eq_false, not_false_eq_true, ite_10, bt_0, bt_1]
    · have cc : ∀ b, b ≠ 512 → (sI (sI t 512 0 (nI 0)) 512 9 (nI c)).1 b = (sI s 1 1 (nI c)).1 b := fun b h => by rw [sI_fn h, sI_fn h, ht]
      refine G_x hG ⟨fun b a0 a1 _ _ _ _ _ _ _ _ a2 _ _ _ => by rw [cc b a2, sI_fn a1], fun j hj => by rw [sI_sm, ud_n (by omega), sI_sm, ud_n (by omega), ht, sI_fn (by omega)], fun j _ => by rw [cc 0 (by omega), sI_fn (by omega)]⟩ ?_ ⟨c, by omega, ?_, ?_, ?_, fun i hi => ?_⟩
      · rw [cc 0 (by omega), sI_fn (by omega), sI_sm, ud_n (by omega), sI_sm, ud_n (by omega), ht, sI_fn (by omega)]; exact hF
      · rw [cc 1 (by omega), sI_sm, ud_e rfl]
      · rw [cc 1 (by omega), sI_sm, ud_n (by omega)]; exact t3
      · rw [sI_sm, ud_e rfl]
      · rw [cc 2 (by omega), cc 518 (by omega), sI_fn (by omega), sI_fn (by omega)]; exact t5 i (by omega)
theorem z_feed (hG : G B s) (v1 v2 v3 v4 v5 : Int32) : ZN B (q128 v1 v2 v3 v4 v5) (q213 v1 v2 v3 v4 v5) s := by
  have hG0 := hG
  obtain ⟨-, -, -, ⟨L, t1, t2, t3, t4, t5⟩, hF, -⟩ := hG0
  by_cases hL : L + 20 ≤ 400
  · obtain ⟨s1, a1, a2, a3, a4, a5, a6, a7⟩ := p98 (v := v1) t2 (by omega)
    obtain ⟨s2, b1, b2, b3, b4, b5, b6, b7⟩ := p98 (v := v2) a2 (by omega)
    obtain ⟨s3, c1, c2, c3, c4, c5, c6, c7⟩ := p98 (v := v3) b2 (by omega)
    obtain ⟨s4, d1, d2, d3, d4, d5, d6, d7⟩ := p98 (v := v4) c2 (by omega)
    obtain ⟨s5, e1, e2, e3, e4, e5, e6, e7⟩ := p98 (v := v5) d2 (by omega)
    have f1 : ∀ b, b ≠ 1 → b ≠ 2 → s5.1 b = s.1 b := fun b x y => by rw [e4 b x y, d4 b x y, c4 b x y, b4 b x y, a4 b x y]
    have f2 : ∀ i, i < L → s5.1 2 i = s.1 2 i := fun i hi => by rw [e6 i (by omega), d6 i (by omega), c6 i (by omega), b6 i (by omega), a6 i hi]
    have f3 : ∀ q, q < 5 → ∀ k, k < 4 → s5.1 2 (L + (4 * q + k)) = ushI (fv v1 v2 v3 v4 v5 q) (nI (24 - 8 * k)) &&& nI 255 := fun q hq k hk => by
      have q5 : q = 0 ∨ q = 1 ∨ q = 2 ∨ q = 3 ∨ q = 4 := by omega
      rcases q5 with e | e | e | e | e <;> subst e
      · rw [e6 _ (by omega), d6 _ (by omega), c6 _ (by omega), b6 _ (by omega), show L + (4 * 0 + k) = L + k by omega, a7 k hk]; rfl
      · rw [e6 _ (by omega), d6 _ (by omega), c6 _ (by omega), show L + (4 * 1 + k) = L + 4 + k by omega, b7 k hk]; rfl
      · rw [e6 _ (by omega), d6 _ (by omega), show L + (4 * 2 + k) = L + 4 + 4 + k by omega, c7 k hk]; rfl
      · rw [e6 _ (by omega), show L + (4 * 3 + k) = L + 4 + 4 + 4 + k by omega, d7 k hk]; rfl
      · rw [show L + (4 * 4 + k) = L + 4 + 4 + 4 + 4 + k by omega, e7 k hk]; rfl
    refine ⟨nI (L + 20), s5, ?_, by rw [e5, d5, c5, b5, a5], fun t ht => ?_⟩
    · unfold q128
      simp (disch := omega) only [t2, a1, b1, c1, d1, e1, e2, nI_lit, nI_add, pk_mul, nI_clp, nI_eqv, nI_lev, nI_ltv, nI_neg, nI_neg', nI_subv, Nat.add_zero, Nat.zero_add, Nat.mul_zero, Nat.reduceAdd, bN_rv, bM_ru, bV_rv, bV_rx, bU_ru, bU_rx, bN_ite, bM_ite, bV_ite, bU_ite, ↓bx_e, ↓sp_e, gA_ok, gZ_n, gB_0, gB_1, gB_i, and_true, and_false, true_and, false_and, decide_true, decide_false, ↓reduceIte, not_true_eq_false, not_false_eq_true, Bool.false_eq_true, Bool.true_eq_false, Bool.and_true, Bool.and_false, Bool.true_and, Bool.false_and, Bool.or_true, Bool.or_false, Bool.true_or, Bool.false_or, Bool.not_true, Bool.not_false, le_f, le_t, lt_f, lt_t, eq_f, ↓reduceIte, not_true_eq_false, not_false_eq_true, ite_10, bt_0, bt_1]
    · have n0 : (nI 0).toNatClampNeg = 0 := nI_clp (by omega)
      have n1 : (nI 1).toNatClampNeg = 1 := nI_clp (by omega)
      have n2 : (nI 2).toNatClampNeg = 2 := nI_clp (by omega)
      have n3 : (nI 3).toNatClampNeg = 3 := nI_clp (by omega)
      have n4 : (nI 4).toNatClampNeg = 4 := nI_clp (by omega)
      have e9 : (sI t 512 0 (nI 0)).1 512 9 = nI L := by rw [sI_sm, ud_n (by omega), ht, f1 512 (by omega) (by omega)]; exact t4
      obtain ⟨t', g1, g2, g3, g4⟩ := m213_60 (t0 := sI (sI (sI (sI (sI (sI t 512 0 (nI 0)) 519 0 v1) 519 1 v2) 519 2 v3) 519 3 v4) 519 4 v5) (L := L) (vs := fv v1 v2 v3 v4 v5) (K := q213_106) hL (by rw [sI_fn (by omega), sI_fn (by omega), sI_fn (by omega), sI_fn (by omega), sI_fn (by omega)]; exact e9) (fun j hj => by
        have j5 : j = 0 ∨ j = 1 ∨ j = 2 ∨ j = 3 ∨ j = 4 := by omega
        rcases j5 with e | e | e | e | e <;> subst e
        · rw [sI_sm, ud_n (by omega), sI_sm, ud_n (by omega), sI_sm, ud_n (by omega), sI_sm, ud_n (by omega), sI_sm, ud_e rfl]; rfl
        · rw [sI_sm, ud_n (by omega), sI_sm, ud_n (by omega), sI_sm, ud_n (by omega), sI_sm, ud_e rfl]; rfl
        · rw [sI_sm, ud_n (by omega), sI_sm, ud_n (by omega), sI_sm, ud_e rfl]; rfl
        · rw [sI_sm, ud_n (by omega), sI_sm, ud_e rfl]; rfl
        · rw [sI_sm, ud_e rfl]; rfl) 20 0 10000 _ F1_r (by omega) (by omega)
      have h5 : ∀ b, b ≠ 512 → b ≠ 518 → b ≠ 519 → t'.1 b = s5.1 b := fun b x y z => by rw [g2.1 b y, sI_fn z, sI_fn z, sI_fn z, sI_fn z, sI_fn z, sI_fn x, ht]
      have h6 : ∀ j, j ≠ 0 → t'.1 512 j = s.1 512 j := fun j hj => by rw [g2.1 512 (by omega), sI_fn (by omega), sI_fn (by omega), sI_fn (by omega), sI_fn (by omega), sI_fn (by omega), sI_sm, ud_n hj, ht, f1 512 (by omega) (by omega)]
      have h9 : t'.1 512 9 = nI L := by rw [h6 9 (by omega)]; exact t4
      refine ⟨sI t' 512 9 (nI (L + 20)), ?_, Lq_e (g2.2.trans (Eq.trans rfl rfl)), ?_⟩
      · unfold q213
        simp (disch := omega) only [e9, n0, n1, n2, n3, n4, nI_lit, nI_add, pk_mul, nI_clp, nI_eqv, nI_lev, nI_ltv, nI_neg, nI_neg', nI_subv, Nat.add_zero, Nat.zero_add, Nat.mul_zero, Nat.reduceAdd, bN_rv, bM_ru, bV_rv, bV_rx, bU_ru, bU_rx, bN_ite, bM_ite, bV_ite, bU_ite, ↓bx_e, ↓sp_e, gA_ok, gZ_n, gB_0, gB_1, gB_i, and_true, and_false, true_and, false_and, decide_true, decide_false, ↓reduceIte, not_true_eq_false, not_false_eq_true, Bool.false_eq_true, Bool.true_eq_false, Bool.and_true, Bool.and_false, Bool.true_and, Bool.false_and, Bool.or_true, Bool.or_false, Bool.true_or, Bool.false_or, Bool.not_true, Bool.not_false, le_f, le_t, lt_f, lt_t, eq_f, ↓reduceIte, not_true_eq_false, not_false_eq_true, ite_10, bt_0, bt_1]
        rw [g1]
        unfold q213_106
        have e9' : (sI t' 512 9 (nI (L + 20))).1 512 9 = nI (L + 20) := by rw [sI_sm, ud_e rfl]
        simp (disch := omega) only [h9, e9', nI_lit, nI_add, pk_mul, nI_clp, nI_eqv, nI_lev, nI_ltv, nI_neg, nI_neg', nI_subv, Nat.add_zero, Nat.zero_add, Nat.mul_zero, Nat.reduceAdd, bN_rv, bM_ru, bV_rv, bV_rx, bU_ru, bU_rx, bN_ite, bM_ite, bV_ite, bU_ite, ↓bx_e, ↓sp_e, gA_ok, gZ_n, gB_0, gB_1, gB_i, and_true, and_false, true_and, false_and, decide_true, decide_false, ↓reduceIte, not_true_eq_false, not_false_eq_true, Bool.false_eq_true, Bool.true_eq_false, Bool.and_true, Bool.and_false, Bool.true_and, Bool.false_and, Bool.or_true, Bool.or_false, Bool.true_or, Bool.false_or, Bool.not_true, Bool.not_false, le_f, le_t, lt_f, lt_t, eq_f, ↓reduceIte, not_true_eq_false, not_false_eq_true, ite_10, bt_0, bt_1]
      · refine G_x hG ⟨fun b a0 a1 a2 a3 _ _ _ _ _ _ a4 _ _ a5 => by rw [sI_fn a4, h5 b a4 a3 (by omega), f1 b a1 a2], fun j hj => by rw [sI_sm, ud_n (by omega), h6 j (by omega)], fun j _ => by rw [sI_fn (by omega), h5 0 (by omega) (by omega) (by omega), f1 0 (by omega) (by omega)]⟩ ?_ ⟨L + 20, hL, ?_, ?_, ?_, fun i hi => ?_⟩
        · rw [sI_fn (by omega), h5 0 (by omega) (by omega) (by omega), f1 0 (by omega) (by omega), sI_sm, ud_n (by omega), h6 14 (by omega)]; exact hF
        · rw [sI_fn (by omega), h5 1 (by omega) (by omega) (by omega), e2]
        · rw [sI_fn (by omega), h5 1 (by omega) (by omega) (by omega), e3 2 (by omega), d3 2 (by omega), c3 2 (by omega), b3 2 (by omega), a3 2 (by omega)]; exact t3
        · rw [sI_sm, ud_e rfl]
        · rw [sI_fn (by omega), sI_fn (by omega), h5 2 (by omega) (by omega) (by omega)]
          by_cases hi2 : i < L
          · rw [f2 i hi2, g3 i (by omega), sI_fn (by omega), sI_fn (by omega), sI_fn (by omega), sI_fn (by omega), sI_fn (by omega), sI_fn (by omega), ht, f1 518 (by omega) (by omega)]
            exact t5 i hi2
          · obtain ⟨j, rfl⟩ : ∃ j, i = L + j := ⟨i - L, by omega⟩
            obtain ⟨b, y1, y2, y3⟩ := byt_e (fv v1 v2 v3 v4 v5 (j / 4)) (show 24 - 8 * (j % 4) ≤ 24 by omega)
            have f3j := f3 (j / 4) (by omega) (j % 4) (by omega)
            rw [show 4 * (j / 4) + j % 4 = j by omega] at f3j
            exact ⟨b, y1, by rw [f3j, y2], by rw [g4 j (by omega) (by omega), y3]⟩
  · refine ZN_0 (v := -nI 1) hG ?_ (fun t ht => ?_)
    · unfold q128
      simp (disch := omega) only [t2, nI_lit, nI_add, pk_mul, nI_clp, nI_eqv, nI_lev, nI_ltv, nI_neg, nI_neg', nI_subv, Nat.add_zero, Nat.zero_add, Nat.mul_zero, Nat.reduceAdd, bN_rv, bM_ru, bV_rv, bV_rx, bU_ru, bU_rx, bN_ite, bM_ite, bV_ite, bU_ite, ↓bx_e, ↓sp_e, gA_ok, gZ_n, gB_0, gB_1, gB_i, and_true, and_false, true_and, false_and, decide_true, decide_false, ↓reduceIte, not_true_eq_false, not_false_eq_true, Bool.false_eq_true, Bool.true_eq_false, Bool.and_true, Bool.and_false, Bool.true_and, Bool.false_and, Bool.or_true, Bool.or_false, Bool.true_or, Bool.false_or, Bool.not_true, Bool.not_false, le_f, le_t, lt_f, lt_t, eq_f, ↓reduceIte, not_true_eq_false, not_false_eq_true, ite_10, bt_0, bt_1]
    · have e9 : (sI t 512 0 (nI 0)).1 512 9 = nI L := by rw [sI_sm, ud_n (by omega), ht]; exact t4
      unfold q213
      simp (disch := omega) only [e9, nI_lit, nI_add, pk_mul, nI_clp, nI_eqv, nI_lev, nI_ltv, nI_neg, nI_neg', nI_subv, Nat.add_zero, Nat.zero_add, Nat.mul_zero, Nat.reduceAdd, bN_rv, bM_ru, bV_rv, bV_rx, bU_ru, bU_rx, bN_ite, bM_ite, bV_ite, bU_ite, ↓bx_e, ↓sp_e, gA_ok, gZ_n, gB_0, gB_1, gB_i, and_true, and_false, true_and, false_and, decide_true, decide_false, ↓reduceIte, not_true_eq_false, not_false_eq_true, Bool.false_eq_true, Bool.true_eq_false, Bool.and_true, Bool.and_false, Bool.true_and, Bool.false_and, Bool.or_true, Bool.or_false, Bool.true_or, Bool.false_or, Bool.not_true, Bool.not_false, le_f, le_t, lt_f, lt_t, eq_f, ↓reduceIte, not_true_eq_false, not_false_eq_true, ite_10, bt_0, bt_1]
end TXT
