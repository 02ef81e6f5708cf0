/-! TICKS -/
def dS (f : Nat → Int32) : Int32 := nI 1103515245 * f 8 + nI 12345
def dW (f : Nat → Int32) : Int32 := shrI (dS f) (nI 16) &&& nI 32767
def dN (f : Nat → Int32) : Nat := (dW f).toNatClampNeg
theorem dW_e {f : Nat → Int32} : dW f = nI (dN f) ∧ dN f < 32768 := by
  obtain ⟨j, hj, e⟩ := pk_andE (shrI (dS f) (nI 16)) (m := nI 32767) 15 (by decide)
  have : dN f = j := by unfold dN dW; rw [e, nI_clp (by omega)]
  rw [this]
  exact ⟨e, hj⟩
theorem ush_shr {x : Int32} : (ushI x (nI 16) &&& nI 32767) = (shrI x (nI 16) &&& nI 32767) := by
  apply b_ext
  intro j hj
  rw [b_and, b_and]
  have hm : bt (nI 32767) j = decide (j < 15) := (by decide +kernel : ∀ j, j < 32 → bt (nI 32767) j = decide (j < 15)) j hj
  rw [hm]
  by_cases h : j < 15
  · have e1 : bt (ushI x (nI 16)) j = bt x (16 + j) := b_ushr 16 (by omega) x j
    have e2 : bt (shrI x (nI 16)) j = bt x (16 + j) := by
      have := b_sshr 16 (by omega) x hj
      rw [if_pos (by omega)] at this
      exact this
    rw [e1, e2]
  · simp only [h, and_true, and_false, true_and, false_and, decide_true, decide_false, ↓reduceIte, not_true_eq_false, not_false_eq_true, Bool.false_eq_true, Bool.true_eq_false, Bool.and_true, Bool.and_false, Bool.true_and, Bool.false_and, Bool.or_true, Bool.or_false, Bool.true_or, Bool.false_or, Bool.not_true, Bool.not_false]
def kN (w : Int32) : Nat := (ntz w).toNatClampNeg
theorem kN_e {w : Int32} (h : ∀ j, 10 ≤ j → bt w j = false) (h0 : ¬ w = nI 0) : ntz w = nI (kN w) ∧ kN w < 10 := by
  obtain ⟨j, hj, e, -⟩ := ntz_w h h0
  have : kN w = j := by unfold kN; rw [e, nI_clp (by omega)]
  rw [this]; exact ⟨e, hj⟩
def wts (g : Nat → Int32) (i k : Nat) : Bool := !(decide (sWri g k = none)) && !(decide (sWri g k = some i))
def mTk (g : Nat → Int32) (c : Nat) : Nat → Int32 := match sRun g (nI c) with
  | none => (match fs (fun i => !(sU g i)) 8 0 with
    | none => g
    | some i => mBeg g i c)
  | some i => if sXr g i c = nI 0 then (if sYw g i c = nI 0 then mCom g i else if wts g i (kN (sYw g i c)) = true then g else mWrite g i (kN (sYw g i c))) else mRead g i (kN (sXr g i c))
def cTk (g : Nat → Int32) (c : Nat) : Int32 := match sRun g (nI c) with
  | none => nI 0
  | some i => if sXr g i c = nI 0 then (if sYw g i c = nI 0 then nI 1 else nI 0) else nI 0
def cN (f : Nat → Int32) : Nat := (f 0).toNatClampNeg
def mTick (f : Nat → Int32) : Nat → Int32 := if f 0 = nI 0 then f else mTk (upd f 8 (dS f)) (dN f % cN f)
def cTick (f : Nat → Int32) : Int32 := if f 0 = nI 0 then nI 0 else cTk (upd f 8 (dS f)) (dN f % cN f)
theorem wts_f {g : Nat → Int32} {i k : Nat} (h : wts g i k = false) : sWri g k = none ∨ sWri g k = some i := by
  unfold wts at h
  by_cases h1 : sWri g k = none
  · exact Or.inl h1
  · by_cases h2 : sWri g k = some i
    · exact Or.inr h2
    · simp [h1, h2] at h
theorem p117w {s : mS} {a : Nat} {f : Nat → Int32} (h : RW s a f) {i k : Nat} (hi : i < 8) (hk : k < 10) (hw : wts f i k = true) : q117 a (nI i) (nI k) s = ru s := by
  unfold wts at hw
  unfold q117
  simp (disch := omega) only [p73 h.1, hw, b2_t, nI_lit, nI_add, pk_mul, nI_clp, nI_eqv, nI_lev, nI_ltv, nI_neg, nI_neg', nI_subv, Nat.add_zero, Nat.zero_add, Nat.mul_zero, Nat.reduceAdd, bN_rv, bM_ru, bV_rv, bV_rx, bU_ru, bU_rx, bN_ite, bM_ite, bV_ite, bU_ite, ↓bx_e, ↓sp_e, gA_ok, gZ_n, gB_0, gB_1, gB_i, and_true, and_false, true_and, false_and, decide_true, decide_false, ↓reduceIte, not_true_eq_false, not_false_eq_true, Bool.false_eq_true, Bool.true_eq_false, Bool.and_true, Bool.and_false, Bool.true_and, Bool.false_and, Bool.or_true, Bool.or_false, Bool.true_or, Bool.false_or, Bool.not_true, Bool.not_false, le_f, le_t, lt_f, lt_t, eq_f, ↓reduceIte, not_true_eq_false, not_false_eq_true, ite_10, bt_0, bt_1]
theorem w10 {f : Nat → Int32} (hC : IC f) {i c : Nat} (hc : c < 5) : (∀ j, 10 ≤ j → bt (sXr f i c) j = false) ∧ (∀ j, 10 ≤ j → bt (sYw f i c) j = false) := by
  obtain ⟨n, q1, q2, q3, q4, q5, q6⟩ := hC
  constructor
  · intro j hj; unfold sXr; rw [b_and, (q5 c j hc hj).1, Bool.false_and]
  · intro j hj; unfold sYw; rw [b_and, (q5 c j hc hj).2, Bool.false_and]
theorem IA_8 {T : Nat} {f : Nat → Int32} (h : IA T f) (x : Int32) : IA T (upd f 8 x) := IA_g h (IM_c h.1 (fun j hj => ud_n (by omega))) (fun j hj => ud_n (by omega))
/-- one STEP, in the class -/
theorem pTk {s : mS} {a T : Nat} {g : Nat → Int32} (h : RW s a g) (hL : RLw s g) (hA : IA T g) (hT : T + 1 < 1000000000) (ha : 10 ≤ a) {c n : Nat} (hn5 : n ≤ 5) (hf0 : g 0 = nI n) (hc : c < n) (K : Int32 → mS → Option mQ) (v2 : Int32) : ∃ s', (bN (q71 (a + 6) (nI c) s) fun x6 s5 => bN (q114 a (nI c) s5) fun x8 s7 => if ¬ x6 = -nI 1 then (if nI 200 ≤ x8 then (if nI 300 ≤ x8 then (bN (q118 a x6 s7) fun x10 s9 => K (v2 + nI 1) s9) else (bM (q117 a x6 (x8 - nI 200) s7) fun s12 => K v2 s12)) else (bM (q116 a x6 (x8 - nI 100) s7) fun s13 => K v2 s13)) else (bN (q115 a (nI c) s7) fun x15 s14 => K v2 s14)) = K (v2 + cTk g c) s' ∧ RW s' a (mTk g c) ∧ RLw s' (mTk g c) ∧ (∃ T', T' ≤ T + 1 ∧ IA T' (mTk g c)) ∧ Fw a s s' := by
  have hz : v2 + nI 0 = v2 := by rw [nI_0, Int32.add_zero]
  have hp : q71 (a + 6) (nI c) s = rv (oI (sRun g (nI c))) s := p71 h.1 (nI c)
  have hq := p114 h (show c < 5 by omega)
  unfold mTk cTk
  unfold sStep at hq
  rw [hp]
  simp only [bN_rv]
  rw [hq]
  simp only [bN_rv]
  cases e : sRun g (nI c) with
  | none =>
    simp only [oI_n, hz, and_true, and_false, true_and, false_and, decide_true, decide_false, ↓reduceIte, not_true_eq_false, not_false_eq_true, Bool.false_eq_true, Bool.true_eq_false, Bool.and_true, Bool.and_false, Bool.true_and, Bool.false_and, Bool.or_true, Bool.or_false, Bool.true_or, Bool.false_or, Bool.not_true, Bool.not_false]
    cases e2 : fs (fun i => !(sU g i)) 8 0 with
    | none =>
      refine ⟨s, ?_, h, hL, ⟨T, by omega, hA⟩, Fw_r⟩
      have : q115 a (nI c) s = rv (-nI 1) s := by
        unfold q115
        simp (disch := omega) only [p70 h.1 hA.1.1, e2, oI_n, nI_lit, nI_add, pk_mul, nI_clp, nI_eqv, nI_lev, nI_ltv, nI_neg, nI_neg', nI_subv, Nat.add_zero, Nat.zero_add, Nat.mul_zero, Nat.reduceAdd, bN_rv, bM_ru, bV_rv, bV_rx, bU_ru, bU_rx, bN_ite, bM_ite, bV_ite, bU_ite, ↓bx_e, ↓sp_e, gA_ok, gZ_n, gB_0, gB_1, gB_i, and_true, and_false, true_and, false_and, decide_true, decide_false, ↓reduceIte, not_true_eq_false, not_false_eq_true, Bool.false_eq_true, Bool.true_eq_false, Bool.and_true, Bool.and_false, Bool.true_and, Bool.false_and, Bool.or_true, Bool.or_false, Bool.true_or, Bool.false_or, Bool.not_true, Bool.not_false, le_f, le_t, lt_f, lt_t, eq_f, ↓reduceIte, not_true_eq_false, not_false_eq_true, ite_10, bt_0, bt_1]
      rw [this]; simp only [bN_rv]
    | some i =>
      obtain ⟨s1, j1, j2, j3, j4, j5⟩ := p115 h hL hA.1 hT ha hn5 hf0 hc e2 (sRun_n e)
      have hi8 := (fs_some e2).2.1
      have h0 : g (74 + 21 * i) = nI 0 := by
        have h3 := (fs_some e2).2.2.1
        unfold sU at h3
        rw [Bool.not_not] at h3
        exact of_decide_eq_true h3
      refine ⟨s1, ?_, j2, j3, ⟨T + 1, by omega, IA_beg hA hT (by omega) hn5 hf0 hc h0 (sRun_n e)⟩, j5⟩
      rw [j1]; simp only [bN_rv]
  | some i =>
    obtain ⟨hi, hr, -⟩ := sRun_s e
    obtain ⟨wx, wy⟩ := w10 hA.1.2.1 (i := i) (show c < 5 by omega)
    have hni : (nI i = -nI 1) = False := nI_neg (by omega)
    by_cases h1 : sXr g i c = nI 0
    · by_cases h2 : sYw g i c = nI 0
      · obtain ⟨s1, j1, j2, j3, j4, j5⟩ := p118 h hL hA.1 hA.2.1 hT ha hi hr
        have hw := (hA.1.1.1 i hi).2
        simp only [oI_s, hni, h1, h2, and_true, and_false, true_and, false_and, decide_true, decide_false, ↓reduceIte, not_true_eq_false, not_false_eq_true, Bool.false_eq_true, Bool.true_eq_false, Bool.and_true, Bool.and_false, Bool.true_and, Bool.false_and, Bool.or_true, Bool.or_false, Bool.true_or, Bool.false_or, Bool.not_true, Bool.not_false]
        refine ⟨s1, ?_, j2, j3, ⟨T + 1, by omega, ?_⟩, j5⟩
        · simp (disch := omega) only [j1, nI_lit, nI_add, pk_mul, nI_clp, nI_eqv, nI_lev, nI_ltv, nI_neg, nI_neg', nI_subv, Nat.add_zero, Nat.zero_add, Nat.mul_zero, Nat.reduceAdd, bN_rv, bM_ru, bV_rv, bV_rx, bU_ru, bU_rx, bN_ite, bM_ite, bV_ite, bU_ite, ↓bx_e, ↓sp_e, gA_ok, gZ_n, gB_0, gB_1, gB_i, and_true, and_false, true_and, false_and, decide_true, decide_false, ↓reduceIte, not_true_eq_false, not_false_eq_true, Bool.false_eq_true, Bool.true_eq_false, Bool.and_true, Bool.and_false, Bool.true_and, Bool.false_and, Bool.or_true, Bool.or_false, Bool.true_or, Bool.false_or, Bool.not_true, Bool.not_false, le_f, le_t, lt_f, lt_t, eq_f, ↓reduceIte, not_true_eq_false, not_false_eq_true, ite_10, bt_0, bt_1]
        · have S3 : IM (T + 1) (mSpo (mCo4 g i) i) := by
            have W2 := RW_f9 h hA.1.1.1 (g 3 + nI 1)
            have M2 := IM_st hA.1 hT
            have hr2 : sR (upd g 3 (g 3 + nI 1)) i = true := by rw [sR_u (by omega)]; exact hr
            obtain ⟨s3, k1, k2, k3, k4⟩ := p79 W2.1 M2.1 hi hr2 (upd g 3 (g 3 + nI 1) 3)
            have M3 : IM (T + 1) (mCo0 g i) := IM_co0 hA.1 hT hi hr k3
            have hu3 : sU (mCo0 g i) i = true := by unfold mCo0; rw [sU_cl (sR_U hr2)]; exact sR_U hr2
            have M5 := IM_co3 hi hw M3 hu3 (wh_c (mCo0_n (by omega) (by omega) (by omega)))
            have e37 : mCo3 g i 7 = g 7 := by
              unfold mCo3 mCo2
              rw [ud_n (by omega), ud_n (by omega), ud_n (by omega), mCo1_n (by omega) (by omega) (by omega) (fun k hk => by omega)]
            have M7 := IM_co4 M5 (by unfold hN; rw [e37]; exact hA.2.2.1)
            exact IM_spo M7 (IS_spo2 M7.1)
          exact IA_com hA j4 S3 hw hi
      · obtain ⟨ek, hk⟩ := kN_e wy h2
        simp only [oI_s, hni, h1, h2, hz, and_true, and_false, true_and, false_and, decide_true, decide_false, ↓reduceIte, not_true_eq_false, not_false_eq_true, Bool.false_eq_true, Bool.true_eq_false, Bool.and_true, Bool.and_false, Bool.true_and, Bool.false_and, Bool.or_true, Bool.or_false, Bool.true_or, Bool.false_or, Bool.not_true, Bool.not_false]
        rw [ek]
        generalize kN (sYw g i c) = k at *
        cases ew : wts g i k with
        | true =>
          refine ⟨s, ?_, by simp only [and_true, and_false, true_and, false_and, decide_true, decide_false, ↓reduceIte, not_true_eq_false, not_false_eq_true, Bool.false_eq_true, Bool.true_eq_false, Bool.and_true, Bool.and_false, Bool.true_and, Bool.false_and, Bool.or_true, Bool.or_false, Bool.true_or, Bool.false_or, Bool.not_true, Bool.not_false]; exact h, by simp only [and_true, and_false, true_and, false_and, decide_true, decide_false, ↓reduceIte, not_true_eq_false, not_false_eq_true, Bool.false_eq_true, Bool.true_eq_false, Bool.and_true, Bool.and_false, Bool.true_and, Bool.false_and, Bool.or_true, Bool.or_false, Bool.true_or, Bool.false_or, Bool.not_true, Bool.not_false]; exact hL, ⟨T, by omega, by simp only [and_true, and_false, true_and, false_and, decide_true, decide_false, ↓reduceIte, not_true_eq_false, not_false_eq_true, Bool.false_eq_true, Bool.true_eq_false, Bool.and_true, Bool.and_false, Bool.true_and, Bool.false_and, Bool.or_true, Bool.or_false, Bool.true_or, Bool.false_or, Bool.not_true, Bool.not_false]; exact hA⟩, Fw_r⟩
          simp (disch := omega) only [Nat.add_sub_cancel_left, p117w h hi hk ew, nI_lit, nI_add, pk_mul, nI_clp, nI_eqv, nI_lev, nI_ltv, nI_neg, nI_neg', nI_subv, Nat.add_zero, Nat.zero_add, Nat.mul_zero, Nat.reduceAdd, bN_rv, bM_ru, bV_rv, bV_rx, bU_ru, bU_rx, bN_ite, bM_ite, bV_ite, bU_ite, ↓bx_e, ↓sp_e, gA_ok, gZ_n, gB_0, gB_1, gB_i, and_true, and_false, true_and, false_and, decide_true, decide_false, ↓reduceIte, not_true_eq_false, not_false_eq_true, Bool.false_eq_true, Bool.true_eq_false, Bool.and_true, Bool.and_false, Bool.true_and, Bool.false_and, Bool.or_true, Bool.or_false, Bool.true_or, Bool.false_or, Bool.not_true, Bool.not_false, le_f, le_t, lt_f, lt_t, eq_f, ↓reduceIte, not_true_eq_false, not_false_eq_true, ite_10, bt_0, bt_1]
        | false =>
          obtain ⟨s1, j1, j2, j3, j4, j5⟩ := p117 h hL hA.1 ha hi hk hr (wts_f ew)
          refine ⟨s1, ?_, by simp only [and_true, and_false, true_and, false_and, decide_true, decide_false, ↓reduceIte, not_true_eq_false, not_false_eq_true, Bool.false_eq_true, Bool.true_eq_false, Bool.and_true, Bool.and_false, Bool.true_and, Bool.false_and, Bool.or_true, Bool.or_false, Bool.true_or, Bool.false_or, Bool.not_true, Bool.not_false]; exact j2, by simp only [and_true, and_false, true_and, false_and, decide_true, decide_false, ↓reduceIte, not_true_eq_false, not_false_eq_true, Bool.false_eq_true, Bool.true_eq_false, Bool.and_true, Bool.and_false, Bool.true_and, Bool.false_and, Bool.or_true, Bool.or_false, Bool.true_or, Bool.false_or, Bool.not_true, Bool.not_false]; exact j3, ⟨T, by omega, by simp only [and_true, and_false, true_and, false_and, decide_true, decide_false, ↓reduceIte, not_true_eq_false, not_false_eq_true, Bool.false_eq_true, Bool.true_eq_false, Bool.and_true, Bool.and_false, Bool.true_and, Bool.false_and, Bool.or_true, Bool.or_false, Bool.true_or, Bool.false_or, Bool.not_true, Bool.not_false]; exact IA_write hA hi hk hr (wts_f ew)⟩, j5⟩
          simp (disch := omega) only [Nat.add_sub_cancel_left, j1, nI_lit, nI_add, pk_mul, nI_clp, nI_eqv, nI_lev, nI_ltv, nI_neg, nI_neg', nI_subv, Nat.add_zero, Nat.zero_add, Nat.mul_zero, Nat.reduceAdd, bN_rv, bM_ru, bV_rv, bV_rx, bU_ru, bU_rx, bN_ite, bM_ite, bV_ite, bU_ite, ↓bx_e, ↓sp_e, gA_ok, gZ_n, gB_0, gB_1, gB_i, and_true, and_false, true_and, false_and, decide_true, decide_false, ↓reduceIte, not_true_eq_false, not_false_eq_true, Bool.false_eq_true, Bool.true_eq_false, Bool.and_true, Bool.and_false, Bool.true_and, Bool.false_and, Bool.or_true, Bool.or_false, Bool.true_or, Bool.false_or, Bool.not_true, Bool.not_false, le_f, le_t, lt_f, lt_t, eq_f, ↓reduceIte, not_true_eq_false, not_false_eq_true, ite_10, bt_0, bt_1]
    · obtain ⟨ek, hk⟩ := kN_e wx h1
      simp only [oI_s, hni, h1, hz, and_true, and_false, true_and, false_and, decide_true, decide_false, ↓reduceIte, not_true_eq_false, not_false_eq_true, Bool.false_eq_true, Bool.true_eq_false, Bool.and_true, Bool.and_false, Bool.true_and, Bool.false_and, Bool.or_true, Bool.or_false, Bool.true_or, Bool.false_or, Bool.not_true, Bool.not_false]
      rw [ek]
      generalize kN (sXr g i c) = k at *
      obtain ⟨s1, j1, j2, j3, j4, j5⟩ := p116 h hL hA.1 ha hi hk hr
      refine ⟨s1, ?_, j2, j3, ⟨T, by omega, IA_read hA hi hk hr⟩, j5⟩
      simp (disch := omega) only [Nat.add_sub_cancel_left, j1, nI_lit, nI_add, pk_mul, nI_clp, nI_eqv, nI_lev, nI_ltv, nI_neg, nI_neg', nI_subv, Nat.add_zero, Nat.zero_add, Nat.mul_zero, Nat.reduceAdd, bN_rv, bM_ru, bV_rv, bV_rx, bU_ru, bU_rx, bN_ite, bM_ite, bV_ite, bU_ite, ↓bx_e, ↓sp_e, gA_ok, gZ_n, gB_0, gB_1, gB_i, and_true, and_false, true_and, false_and, decide_true, decide_false, ↓reduceIte, not_true_eq_false, not_false_eq_true, Bool.false_eq_true, Bool.true_eq_false, Bool.and_true, Bool.and_false, Bool.true_and, Bool.false_and, Bool.or_true, Bool.or_false, Bool.true_or, Bool.false_or, Bool.not_true, Bool.not_false, le_f, le_t, lt_f, lt_t, eq_f, ↓reduceIte, not_true_eq_false, not_false_eq_true, ite_10, bt_0, bt_1]
def mRun : Nat → (Nat → Int32) → (Nat → Int32)
  | 0, f => f
  | n + 1, f => mRun n (mTick f)
def cRun : Nat → (Nat → Int32) → Int32 → Int32
  | 0, _, v => v
  | n + 1, f, v => cRun n (mTick f) (v + cTick f)
theorem run_0 {f : Nat → Int32} (h : f 0 = nI 0) : ∀ n v, mRun n f = f ∧ cRun n f v = v := by
  intro n
  induction n with
  | zero => intro v; exact ⟨rfl, rfl⟩
  | succ n ih =>
    intro v
    have e1 : mTick f = f := by unfold mTick; rw [if_pos h]
    have e2 : cTick f = nI 0 := by unfold cTick; rw [if_pos h]
    rw [mRun, cRun, e1, e2, nI_0, Int32.add_zero]
    exact ih v
theorem p112_4 {a : Nat} (ha : 10 ≤ a) {N : Nat} (hN60 : N ≤ 60) : ∀ m i n (s : mS) (f : Nat → Int32) v T, i + m = N → RW s a f → RLw s f → IA T f → T + m < 1000000000 → m < n → ∃ s', q112_4 a n (nI N) v (nI i) s = rv (cRun m f v) s' ∧ RW s' a (mRun m f) ∧ RLw s' (mRun m f) ∧ (∃ T', T' ≤ T + m ∧ IA T' (mRun m f)) ∧ Fw a s s' := by
  intro m
  induction m with
  | zero =>
    intro i n s f v T hi h hL hA hT hn
    cases n with
    | zero => omega
    | succ n =>
      have : i = N := by omega
      subst this
      refine ⟨s, ?_, h, hL, ⟨T, by omega, hA⟩, Fw_r⟩
      rw [q112_4]
      simp (disch := omega) only [cRun, nI_lit, nI_add, pk_mul, nI_clp, nI_eqv, nI_lev, nI_ltv, nI_neg, nI_neg', nI_subv, Nat.add_zero, Nat.zero_add, Nat.mul_zero, Nat.reduceAdd, bN_rv, bM_ru, bV_rv, bV_rx, bU_ru, bU_rx, bN_ite, bM_ite, bV_ite, bU_ite, ↓bx_e, ↓sp_e, gA_ok, gZ_n, gB_0, gB_1, gB_i, and_true, and_false, true_and, false_and, decide_true, decide_false, ↓reduceIte, not_true_eq_false, not_false_eq_true, Bool.false_eq_true, Bool.true_eq_false, Bool.and_true, Bool.and_false, Bool.true_and, Bool.false_and, Bool.or_true, Bool.or_false, Bool.true_or, Bool.false_or, Bool.not_true, Bool.not_false, le_f, le_t, lt_f, lt_t, eq_f, ↓reduceIte, not_true_eq_false, not_false_eq_true, ite_10, bt_0, bt_1]
  | succ m ih =>
    intro i n s f v T hi h hL hA hT hn
    cases n with
    | zero => omega
    | succ n =>
      obtain ⟨k, hk, k0, k1, -⟩ := h.2.1
      by_cases h0 : k = 0
      · subst h0
        obtain ⟨e1, e2⟩ := run_0 k0 (m + 1) v
        refine ⟨s, ?_, by rw [e1]; exact h, by rw [e1]; exact hL, ⟨T, by omega, by rw [e1]; exact hA⟩, Fw_r⟩
        rw [e2, q112_4]
        simp (disch := omega) only [k1, nI_lit, nI_add, pk_mul, nI_clp, nI_eqv, nI_lev, nI_ltv, nI_neg, nI_neg', nI_subv, Nat.add_zero, Nat.zero_add, Nat.mul_zero, Nat.reduceAdd, bN_rv, bM_ru, bV_rv, bV_rx, bU_ru, bU_rx, bN_ite, bM_ite, bV_ite, bU_ite, ↓bx_e, ↓sp_e, gA_ok, gZ_n, gB_0, gB_1, gB_i, and_true, and_false, true_and, false_and, decide_true, decide_false, ↓reduceIte, not_true_eq_false, not_false_eq_true, Bool.false_eq_true, Bool.true_eq_false, Bool.and_true, Bool.and_false, Bool.true_and, Bool.false_and, Bool.or_true, Bool.or_false, Bool.true_or, Bool.false_or, Bool.not_true, Bool.not_false, le_f, le_t, lt_f, lt_t, eq_f, ↓reduceIte, not_true_eq_false, not_false_eq_true, ite_10, bt_0, bt_1]
      · have hne : ¬ f 0 = nI 0 := by rw [k0, nI_eqv (by omega) (by omega)]; exact h0
        have W8 := RW_f12 h hA.1.1.1 (dS f)
        have L8 : RLw (sI s a 12 (dS f)) (upd f 8 (dS f)) := RLw_c hA.1.2.2.1 (ud_n (by omega)) (fun j x y => ud_n (by omega)) (fun b x y => sI_fn (by omega)) hL
        have hcN : cN f = k := by unfold cN; rw [k0, nI_clp (by omega)]
        have hlt : dN f % k < k := Nat.mod_lt _ (by omega)
        obtain ⟨s1, j1, j2, j3, ⟨T1, hT1, j4⟩, j5⟩ := pTk W8 L8 (IA_8 hA (dS f)) (by omega) ha hk (by rw [ud_n (by omega)]; exact k0) hlt (fun v s => q112_123 (q112_4 a n) a (nI N) v (nI i) s) v
        have em : mTick f = mTk (upd f 8 (dS f)) (dN f % k) := by unfold mTick; rw [if_neg hne, hcN]
        have ec : cTick f = cTk (upd f 8 (dS f)) (dN f % k) := by unfold cTick; rw [if_neg hne, hcN]
        rw [← em] at j2 j3 j4
        rw [← ec] at j1
        obtain ⟨s2, l1, l2, l3, ⟨T2, hT2, l4⟩, l5⟩ := ih (i + 1) n s1 (mTick f) (v + cTick f) T1 (by omega) j2 j3 j4 (by omega) (by omega)
        refine ⟨s2, ?_, by rw [mRun]; exact l2, by rw [mRun]; exact l3, ⟨T2, by omega, by rw [mRun]; exact l4⟩, Fw_t (Fw_I (by omega) (by omega)) (Fw_t j5 l5)⟩
        rw [cRun, ← l1, q112_4]
        have e12 := h.2.2.2.2.2.2.2.2.1
        have k1' : (sI s a 12 (dS f)).1 (a + 1) 0 = nI k := by rw [sI_fn (by omega)]; exact k1
        have qd : (sI s a 12 (dS f)).1 a 12 = dS f := by rw [sI_sm, ud_e rfl]
        have eS : nI 1103515245 * f 8 + nI 12345 = dS f := rfl
        have eW : shrI (dS f) (nI 16) &&& nI 32767 = nI (dN f) := dW_e.1
        have hd := (dW_e (f := f)).2
        simp (disch := omega) only [k1, q113, e12, eS, qd, k1', ush_shr, eW, nI_rem, nI_lit, nI_add, pk_mul, nI_clp, nI_eqv, nI_lev, nI_ltv, nI_neg, nI_neg', nI_subv, Nat.add_zero, Nat.zero_add, Nat.mul_zero, Nat.reduceAdd, bN_rv, bM_ru, bV_rv, bV_rx, bU_ru, bU_rx, bN_ite, bM_ite, bV_ite, bU_ite, ↓bx_e, ↓sp_e, gA_ok, gZ_n, gB_0, gB_1, gB_i, and_true, and_false, true_and, false_and, decide_true, decide_false, ↓reduceIte, not_true_eq_false, not_false_eq_true, Bool.false_eq_true, Bool.true_eq_false, Bool.and_true, Bool.and_false, Bool.true_and, Bool.false_and, Bool.or_true, Bool.or_false, Bool.true_or, Bool.false_or, Bool.not_true, Bool.not_false, le_f, le_t, lt_f, lt_t, eq_f, ↓reduceIte, not_true_eq_false, not_false_eq_true, ite_10, bt_0, bt_1]
        rw [j1]
        simp (disch := omega) only [q112_123, nI_lit, nI_add, pk_mul, nI_clp, nI_eqv, nI_lev, nI_ltv, nI_neg, nI_neg', nI_subv, Nat.add_zero, Nat.zero_add, Nat.mul_zero, Nat.reduceAdd, bN_rv, bM_ru, bV_rv, bV_rx, bU_ru, bU_rx, bN_ite, bM_ite, bV_ite, bU_ite, ↓bx_e, ↓sp_e, gA_ok, gZ_n, gB_0, gB_1, gB_i, and_true, and_false, true_and, false_and, decide_true, decide_false, ↓reduceIte, not_true_eq_false, not_false_eq_true, Bool.false_eq_true, Bool.true_eq_false, Bool.and_true, Bool.and_false, Bool.true_and, Bool.false_and, Bool.or_true, Bool.or_false, Bool.true_or, Bool.false_or, Bool.not_true, Bool.not_false, le_f, le_t, lt_f, lt_t, eq_f, ↓reduceIte, not_true_eq_false, not_false_eq_true, ite_10, bt_0, bt_1]
