/-! CLOSE, OPEN, SPOIL -/
def mClose (f : Nat → Int32) (i : Nat) (x : Int32) : Nat → Int32 := upd (upd f (74 + 21 * i + 3) x) (74 + 21 * i) (nI 2)
theorem mClose_0 {f : Nat → Int32} {i : Nat} {x : Int32} : mClose f i x (74 + 21 * i) = nI 2 := ud_e rfl
theorem mClose_3 {f : Nat → Int32} {i : Nat} {x : Int32} : mClose f i x (74 + 21 * i + 3) = x := by unfold mClose; rw [ud_n (by omega), ud_e rfl]
theorem mClose_n {f : Nat → Int32} {i j : Nat} {x : Int32} (h : j ≠ 74 + 21 * i) (h2 : j ≠ 74 + 21 * i + 3) : mClose f i x j = f j := by unfold mClose; rw [ud_n h, ud_n h2]
theorem sR_cl {f : Nat → Int32} {i j : Nat} {x : Int32} : sR (mClose f i x) j = (sR f j && !(decide (j = i))) := by
  by_cases e : j = i
  · subst e; unfold sR; rw [mClose_0]; simp only [show (nI 2 = nI 1) = False from by decide, and_true, and_false, true_and, false_and, decide_true, decide_false, ↓reduceIte, not_true_eq_false, not_false_eq_true, Bool.false_eq_true, Bool.true_eq_false, Bool.and_true, Bool.and_false, Bool.true_and, Bool.false_and, Bool.or_true, Bool.or_false, Bool.true_or, Bool.false_or, Bool.not_true, Bool.not_false]
  · rw [sR_c (mClose_n (by omega) (by omega))]; simp only [e, and_true, and_false, true_and, false_and, decide_true, decide_false, ↓reduceIte, not_true_eq_false, not_false_eq_true, Bool.false_eq_true, Bool.true_eq_false, Bool.and_true, Bool.and_false, Bool.true_and, Bool.false_and, Bool.or_true, Bool.or_false, Bool.true_or, Bool.false_or, Bool.not_true, Bool.not_false]
theorem sF_cl {f : Nat → Int32} {i j : Nat} {x : Int32} : sF (mClose f i x) j = (sF f j || (decide (j = i))) := by
  by_cases e : j = i
  · subst e; unfold sF; rw [mClose_0]; simp only [and_true, and_false, true_and, false_and, decide_true, decide_false, ↓reduceIte, not_true_eq_false, not_false_eq_true, Bool.false_eq_true, Bool.true_eq_false, Bool.and_true, Bool.and_false, Bool.true_and, Bool.false_and, Bool.or_true, Bool.or_false, Bool.true_or, Bool.false_or, Bool.not_true, Bool.not_false]
  · rw [sF_c (mClose_n (by omega) (by omega))]; simp only [e, and_true, and_false, true_and, false_and, decide_true, decide_false, ↓reduceIte, not_true_eq_false, not_false_eq_true, Bool.false_eq_true, Bool.true_eq_false, Bool.and_true, Bool.and_false, Bool.true_and, Bool.false_and, Bool.or_true, Bool.or_false, Bool.true_or, Bool.false_or, Bool.not_true, Bool.not_false]
theorem sU_cl {f : Nat → Int32} {i j : Nat} {x : Int32} (hu : sU f i = true) : sU (mClose f i x) j = sU f j := by
  by_cases e : j = i
  · subst e; rw [hu]; unfold sU; rw [mClose_0]; simp only [show (nI 2 = nI 0) = False from by decide, and_true, and_false, true_and, false_and, decide_true, decide_false, ↓reduceIte, not_true_eq_false, not_false_eq_true, Bool.false_eq_true, Bool.true_eq_false, Bool.and_true, Bool.and_false, Bool.true_and, Bool.false_and, Bool.or_true, Bool.or_false, Bool.true_or, Bool.false_or, Bool.not_true, Bool.not_false]
  · exact sU_c (mClose_n (by omega) (by omega))
theorem sOn_cl {f : Nat → Int32} (hw : IW f) {i j : Nat} {x : Int32} (hj : j < 8) : sOn (mClose f i x) j = sOn f j := by
  have := (hw j hj).2
  exact sOn_c (mClose_n (by omega) (by omega)) (mClose_n (by omega) (by omega))
theorem p79 {s : mS} {z : Nat} {f : Nat → Int32} (h : RS s z f) (hs : IS f) {i : Nat} (hi : i < 8) (hr : sR f i = true) (x : Int32) : ∃ s', q79 z (nI i) x s = ru s' ∧ RS s' z (mClose f i x) ∧ IS (mClose f i x) ∧ Fz z s s' := by
  have hu := sR_U hr
  refine ⟨?w, ?x, ?y⟩
  case x =>
    unfold q79
    simp (disch := omega) only [nI_lit, nI_add, pk_mul, nI_clp, nI_eqv, nI_lev, nI_ltv, nI_neg, nI_neg', nI_subv, Nat.add_zero, Nat.zero_add, Nat.mul_zero, bN_rv, bM_ru, bV_rv, bV_rx, bU_ru, bU_rx, bN_ite, bM_ite, bV_ite, bU_ite, bx_e, sp_e, gA_ok, gZ_n, gB_0, gB_1, gB_i, and_true, and_false, true_and, false_and, decide_true, decide_false, ↓reduceIte, not_true_eq_false, not_false_eq_true, Bool.false_eq_true, Bool.true_eq_false, Bool.and_true, Bool.and_false, Bool.true_and, Bool.false_and, Bool.or_true, Bool.or_false, Bool.true_or, Bool.false_or, Bool.not_true, Bool.not_false, le_f, le_t, lt_f, lt_t, eq_f, ↓reduceIte, not_true_eq_false, not_false_eq_true, ite_10, bt_0, bt_1]
    rfl
  case y =>
    refine ⟨?_, ?_, Fz_t (Fz_t (Fz_I (by omega) (by omega)) (Fz_I (by omega) (by omega))) (Fz_I (by omega) (by omega))⟩
    · obtain ⟨a0, a1, a2, a3, a4, a5, a6, a7, a8, a9, a10, a11, a12, a13, a14⟩ := h
      refine ⟨fun k => ?_, fun k => ?_, fun k => ?_, fun k => ?_, fun k hk hv => ?_, fun k hk hv => ?_, fun k hk hv => ?_, fun k hk hv => ?_, fun k hk hv => ?_, fun k hk hv => ?_, fun k hk hv => ?_, fun k hk hv => ?_, fun k hk => ?_, fun k hk => ?_, fun k hk hv l hl => ?_⟩
      · simp (disch := omega) only [sI_at, eq_f, ↓reduceIte]; rw [bt_mk' (by omega), a0 k, sR_cl, Bool.and_assoc]
      · simp (disch := omega) only [sI_at, eq_f, ↓reduceIte]; rw [bt_or1 (by omega), a1 k, sF_cl]
        by_cases e : k = i
        · subst e; simp only [hi, and_true, and_false, true_and, false_and, decide_true, decide_false, ↓reduceIte, not_true_eq_false, not_false_eq_true, Bool.false_eq_true, Bool.true_eq_false, Bool.and_true, Bool.and_false, Bool.true_and, Bool.false_and, Bool.or_true, Bool.or_false, Bool.true_or, Bool.false_or, Bool.not_true, Bool.not_false]
        · simp only [e, and_true, and_false, true_and, false_and, decide_true, decide_false, ↓reduceIte, not_true_eq_false, not_false_eq_true, Bool.false_eq_true, Bool.true_eq_false, Bool.and_true, Bool.and_false, Bool.true_and, Bool.false_and, Bool.or_true, Bool.or_false, Bool.true_or, Bool.false_or, Bool.not_true, Bool.not_false]
      · simp (disch := omega) only [sI_at, eq_f, ↓reduceIte]; rw [a2 k, sU_cl hu]
        by_cases hk : k < 8
        · rw [sOn_cl hs.1 hk]
        · simp only [hk, and_true, and_false, true_and, false_and, decide_true, decide_false, ↓reduceIte, not_true_eq_false, not_false_eq_true, Bool.false_eq_true, Bool.true_eq_false, Bool.and_true, Bool.and_false, Bool.true_and, Bool.false_and, Bool.or_true, Bool.or_false, Bool.true_or, Bool.false_or, Bool.not_true, Bool.not_false]
      · simp (disch := omega) only [sI_at, eq_f, ↓reduceIte]; rw [a3 k, mClose_n (by omega) (by omega)]
      · rw [sU_cl hu] at hv; simp (disch := omega) only [sI_at, eq_f, ↓reduceIte, mClose_n]; exact a4 k hk hv
      · rw [sU_cl hu] at hv; simp (disch := omega) only [sI_at, eq_f, ↓reduceIte, mClose_n]; exact a5 k hk hv
      · rw [sU_cl hu] at hv
        by_cases e : k = i
        · subst e; rw [mClose_3]; simp (disch := omega) only [sI_at, eq_f, ↓reduceIte]
        · simp (disch := omega) only [sI_at, eq_f, e, ↓reduceIte, mClose_n]; exact a6 k hk hv
      · rw [sU_cl hu] at hv; simp (disch := omega) only [sI_at, eq_f, ↓reduceIte, mClose_n]; exact a7 k hk hv
      · rw [sU_cl hu] at hv; simp (disch := omega) only [sI_at, eq_f, ↓reduceIte, mClose_n]; exact a8 k hk hv
      · rw [sU_cl hu] at hv; simp (disch := omega) only [sI_at, eq_f, ↓reduceIte, mClose_n]; exact a9 k hk hv
      · rw [sU_cl hu] at hv; simp (disch := omega) only [sI_at, eq_f, ↓reduceIte, mClose_n]; exact a10 k hk hv
      · rw [sU_cl hu] at hv; simp (disch := omega) only [sI_at, eq_f, ↓reduceIte, mClose_n]; exact a11 k hk hv
      · simp (disch := omega) only [sI_at, eq_f, ↓reduceIte, mClose_n]; exact a12 k hk
      · simp (disch := omega) only [sI_at, eq_f, ↓reduceIte]; rw [sIn_c (fun o ho => mClose_n (by omega) (by omega))]; exact a13 k hk
      · rw [sU_cl hu] at hv; simp (disch := omega) only [sI_at, eq_f, ↓reduceIte, mClose_n]; exact a14 k hk hv l hl
    · obtain ⟨i0, i1, i2, i3, i4, i5, i6⟩ := hs
      refine ⟨IW_c i0 (fun j hj => mClose_n (by omega) (by omega)), fun k hk => ?_, fun k hk hz w' hw' => ?_, fun k l hk hb => ?_, fun k hk => ?_, fun k l hk hl ha hb hc => ?_, fun k l q hk hl hq ha hb hc hd => ?_⟩
      · by_cases e : k = i
        · subst e; rw [mClose_0]; exact Or.inr (Or.inr rfl)
        · rw [mClose_n (by omega) (by omega)]; exact i1 k hk
      · have hji : k ≠ i := by
          intro e; subst e
          rw [mClose_0] at hz
          exact absurd hz (by decide)
        rw [mClose_n (by omega) (by omega)] at hz
        rw [mClose_n (by omega) (by omega)]; exact i2 k hk hz w' hw'
      · rw [mClose_n (by omega) (by omega)] at hb
        rw [sU_cl hu]; exact i3 k l hk hb
      · rw [mClose_n (by omega) (by omega)]; exact i4 k hk
      · rw [sR_cl, Bool.and_eq_true] at ha hb
        rw [mClose_n (by omega) (by omega), mClose_n (by omega) (by omega)] at hc
        exact i5 k l hk hl ha.1 hb.1 hc
      · rw [sR_cl, Bool.and_eq_true] at ha hb
        rw [mClose_n (by omega) (by omega)] at hc hd
        exact i6 k l q hk hl hq ha.1 hb.1 hc hd
/-- a slot begins -/
def mOpen (f : Nat → Int32) (i : Nat) (c x : Int32) : Nat → Int32 := fun j => if j = 74 + 21 * i then nI 1 else if j = 74 + 21 * i + 1 then c else if j = 74 + 21 * i + 2 then x
  else if 74 + 21 * i + 11 ≤ j ∧ j < 74 + 21 * i + 21 then f (9 + 4 * (j - (74 + 21 * i + 11))) else f j
theorem mOpen_0 {f : Nat → Int32} {i : Nat} {c x : Int32} : mOpen f i c x (74 + 21 * i) = nI 1 := if_pos rfl
theorem mOpen_1 {f : Nat → Int32} {i : Nat} {c x : Int32} : mOpen f i c x (74 + 21 * i + 1) = c := by unfold mOpen; rw [if_neg (by omega), if_pos rfl]
theorem mOpen_2 {f : Nat → Int32} {i : Nat} {c x : Int32} : mOpen f i c x (74 + 21 * i + 2) = x := by unfold mOpen; rw [if_neg (by omega), if_neg (by omega), if_pos rfl]
theorem mOpen_s {f : Nat → Int32} {i k : Nat} {c x : Int32} (hk : k < 10) : mOpen f i c x (74 + 21 * i + 11 + k) = f (9 + 4 * k) := by
  unfold mOpen
  rw [if_neg (by omega), if_neg (by omega), if_neg (by omega), if_pos (by omega), show 74 + 21 * i + 11 + k - (74 + 21 * i + 11) = k by omega]
theorem mOpen_n {f : Nat → Int32} {i j : Nat} {c x : Int32} (h0 : j ≠ 74 + 21 * i) (h1 : j ≠ 74 + 21 * i + 1) (h2 : j ≠ 74 + 21 * i + 2) (h3 : j < 74 + 21 * i + 11 ∨ 74 + 21 * i + 21 ≤ j) : mOpen f i c x j = f j := by
  unfold mOpen
  rw [if_neg h0, if_neg h1, if_neg h2, if_neg (by omega)]
theorem mOpen_o {f : Nat → Int32} {i j : Nat} {c x : Int32} (h : j < 74 + 21 * i ∨ 74 + 21 * i + 21 ≤ j) : mOpen f i c x j = f j := mOpen_n (by omega) (by omega) (by omega) (by omega)
theorem sR_op {f : Nat → Int32} {i j : Nat} {c x : Int32} : sR (mOpen f i c x) j = (sR f j || decide (j = i)) := by
  by_cases e : j = i
  · subst e; unfold sR; rw [mOpen_0]; simp only [and_true, and_false, true_and, false_and, decide_true, decide_false, ↓reduceIte, not_true_eq_false, not_false_eq_true, Bool.false_eq_true, Bool.true_eq_false, Bool.and_true, Bool.and_false, Bool.true_and, Bool.false_and, Bool.or_true, Bool.or_false, Bool.true_or, Bool.false_or, Bool.not_true, Bool.not_false]
  · rw [sR_c (mOpen_o (by omega))]; simp only [e, and_true, and_false, true_and, false_and, decide_true, decide_false, ↓reduceIte, not_true_eq_false, not_false_eq_true, Bool.false_eq_true, Bool.true_eq_false, Bool.and_true, Bool.and_false, Bool.true_and, Bool.false_and, Bool.or_true, Bool.or_false, Bool.true_or, Bool.false_or, Bool.not_true, Bool.not_false]
theorem sF_op {f : Nat → Int32} {i j : Nat} {c x : Int32} (h0 : f (74 + 21 * i) = nI 0) : sF (mOpen f i c x) j = sF f j := by
  by_cases e : j = i
  · subst e; unfold sF; rw [mOpen_0, h0]; simp only [show (nI 1 = nI 2) = False from by decide, show (nI 0 = nI 2) = False from by decide, and_true, and_false, true_and, false_and, decide_true, decide_false, ↓reduceIte, not_true_eq_false, not_false_eq_true, Bool.false_eq_true, Bool.true_eq_false, Bool.and_true, Bool.and_false, Bool.true_and, Bool.false_and, Bool.or_true, Bool.or_false, Bool.true_or, Bool.false_or, Bool.not_true, Bool.not_false]
  · rw [sF_c (mOpen_o (by omega))]
theorem sU_op {f : Nat → Int32} {i j : Nat} {c x : Int32} : sU (mOpen f i c x) j = (sU f j || decide (j = i)) := by
  by_cases e : j = i
  · subst e; unfold sU; rw [mOpen_0]; simp only [show (nI 1 = nI 0) = False from by decide, and_true, and_false, true_and, false_and, decide_true, decide_false, ↓reduceIte, not_true_eq_false, not_false_eq_true, Bool.false_eq_true, Bool.true_eq_false, Bool.and_true, Bool.and_false, Bool.true_and, Bool.false_and, Bool.or_true, Bool.or_false, Bool.true_or, Bool.false_or, Bool.not_true, Bool.not_false]
  · rw [sU_c (mOpen_o (by omega))]; simp only [e, and_true, and_false, true_and, false_and, decide_true, decide_false, ↓reduceIte, not_true_eq_false, not_false_eq_true, Bool.false_eq_true, Bool.true_eq_false, Bool.and_true, Bool.and_false, Bool.true_and, Bool.false_and, Bool.or_true, Bool.or_false, Bool.true_or, Bool.false_or, Bool.not_true, Bool.not_false]
theorem sOn_opi {f : Nat → Int32} {i c : Nat} {x : Int32} (hc : c < 5) : sOn (mOpen f i (nI c) x) i = decide (f (49 + 5 * c + 2) = nI 1) := by
  have e : wh (mOpen f i (nI c) x) i = c := by unfold wh; rw [mOpen_1, nI_clp (by omega)]
  unfold sOn
  rw [e, mOpen_o (by omega)]
theorem sOn_op {f : Nat → Int32} (hw : IW f) {i j : Nat} {c x : Int32} (hj : j < 8) (e : j ≠ i) : sOn (mOpen f i c x) j = sOn f j := by
  have := (hw j hj).2
  exact sOn_c (mOpen_o (by omega)) (mOpen_o (by omega))
theorem IS_open {f : Nat → Int32} (h : IS f) {i c : Nat} (hi : i < 8) (hc : c < 5) (h0 : f (74 + 21 * i) = nI 0) (hn : ∀ j, j < 8 → sR f j = true → f (74 + 21 * j + 1) ≠ nI c) (x : Int32) : IS (mOpen f i (nI c) x) := by
  obtain ⟨i0, i1, i2, i3, i4, i5, i6⟩ := h
  have hz := i2 i hi h0
  refine ⟨fun j hj => ?_, fun k hk => ?_, fun k hk hz' w' hw' => ?_, fun k l hk hb => ?_, fun k hk => ?_, fun k l hk hl ha hb hc' => ?_, fun k l q hk hl hq ha hb hc' hd => ?_⟩
  · by_cases e : j = i
    · subst e
      have : wh (mOpen f j (nI c) x) j = c := by unfold wh; rw [mOpen_1, nI_clp (by omega)]
      rw [this, mOpen_1]; exact ⟨rfl, hc⟩
    · rw [wh_c (mOpen_o (by omega)), mOpen_o (by omega)]; exact i0 j hj
  · by_cases e : k = i
    · subst e; rw [mOpen_0]; exact Or.inr (Or.inl rfl)
    · rw [mOpen_o (by omega)]; exact i1 k hk
  · have hji : k ≠ i := by
      intro e; subst e
      rw [mOpen_0] at hz'
      exact absurd hz' (by decide)
    rw [mOpen_o (by omega)] at hz'
    rw [mOpen_o (by omega)]; exact i2 k hk hz' w' hw'
  · by_cases e : k = i
    · subst e
      rw [mOpen_n (by omega) (by omega) (by omega) (by omega), hz 7 (by omega), bt_n0] at hb
      cases hb
    · rw [mOpen_o (by omega)] at hb
      obtain ⟨q1, q2⟩ := i3 k l hk hb
      exact ⟨q1, by rw [sU_op, q2]; rfl⟩
  · by_cases e : k = i
    · subst e; rw [mOpen_n (by omega) (by omega) (by omega) (by omega)]; exact i4 k hk
    · rw [mOpen_o (by omega)]; exact i4 k hk
  · rw [sR_op] at ha hb
    by_cases e1 : k = i
    · by_cases e2 : l = i
      · omega
      · simp only [e2, and_true, and_false, true_and, false_and, decide_true, decide_false, ↓reduceIte, not_true_eq_false, not_false_eq_true, Bool.false_eq_true, Bool.true_eq_false, Bool.and_true, Bool.and_false, Bool.true_and, Bool.false_and, Bool.or_true, Bool.or_false, Bool.true_or, Bool.false_or, Bool.not_true, Bool.not_false] at hb
        subst e1
        rw [mOpen_1, mOpen_o (by omega)] at hc'
        exact absurd hc'.symm (hn l hl hb)
    · simp only [e1, and_true, and_false, true_and, false_and, decide_true, decide_false, ↓reduceIte, not_true_eq_false, not_false_eq_true, Bool.false_eq_true, Bool.true_eq_false, Bool.and_true, Bool.and_false, Bool.true_and, Bool.false_and, Bool.or_true, Bool.or_false, Bool.true_or, Bool.false_or, Bool.not_true, Bool.not_false] at ha
      by_cases e2 : l = i
      · subst e2
        rw [mOpen_1, mOpen_o (by omega)] at hc'
        exact absurd hc' (hn k hk ha)
      · simp only [e2, and_true, and_false, true_and, false_and, decide_true, decide_false, ↓reduceIte, not_true_eq_false, not_false_eq_true, Bool.false_eq_true, Bool.true_eq_false, Bool.and_true, Bool.and_false, Bool.true_and, Bool.false_and, Bool.or_true, Bool.or_false, Bool.true_or, Bool.false_or, Bool.not_true, Bool.not_false] at hb
        rw [mOpen_o (by omega), mOpen_o (by omega)] at hc'
        exact i5 k l hk hl ha hb hc'
  · rw [sR_op] at ha hb
    by_cases e1 : k = i
    · subst e1
      rw [mOpen_n (by omega) (by omega) (by omega) (by omega), hz 6 (by omega), bt_n0] at hc'
      cases hc'
    · by_cases e2 : l = i
      · subst e2
        rw [mOpen_n (by omega) (by omega) (by omega) (by omega), hz 6 (by omega), bt_n0] at hd
        cases hd
      · simp only [e1, e2, and_true, and_false, true_and, false_and, decide_true, decide_false, ↓reduceIte, not_true_eq_false, not_false_eq_true, Bool.false_eq_true, Bool.true_eq_false, Bool.and_true, Bool.and_false, Bool.true_and, Bool.false_and, Bool.or_true, Bool.or_false, Bool.true_or, Bool.false_or, Bool.not_true, Bool.not_false] at ha hb
        rw [mOpen_o (by omega)] at hc' hd
        exact i6 k l q hk hl hq ha hb hc' hd
