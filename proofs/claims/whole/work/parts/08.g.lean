/-! SINGLE FIELDS OF A SLOT THAT IS USED -/
theorem sR_u {f : Nat → Int32} {k j : Nat} {x : Int32} (h : 74 + 21 * j ≠ k) : sR (upd f k x) j = sR f j := by unfold sR; rw [ud_n h]
theorem sF_u {f : Nat → Int32} {k j : Nat} {x : Int32} (h : 74 + 21 * j ≠ k) : sF (upd f k x) j = sF f j := by unfold sF; rw [ud_n h]
theorem sU_u {f : Nat → Int32} {k j : Nat} {x : Int32} (h : 74 + 21 * j ≠ k) : sU (upd f k x) j = sU f j := by unfold sU; rw [ud_n h]
theorem wh_u {f : Nat → Int32} {k j : Nat} {x : Int32} (h : 74 + 21 * j + 1 ≠ k) : wh (upd f k x) j = wh f j := by unfold wh; rw [ud_n h]
theorem sOn_u {f : Nat → Int32} {k j : Nat} {x : Int32} (h : 74 + 21 * j + 1 ≠ k) (h2 : 49 + 5 * wh f j + 2 ≠ k) : sOn (upd f k x) j = sOn f j := by unfold sOn; rw [wh_u h, ud_n h2]
theorem sIn_c {f g : Nat → Int32} {i : Nat} (h : ∀ o, o < 8 → g (74 + 21 * o + 7) = f (74 + 21 * o + 7)) : sIn g i = sIn f i := by
  unfold sIn
  exact fo_cong (fun k b _ h2 => by rw [h k (by omega)])
theorem sR_c {f g : Nat → Int32} {j : Nat} (h : g (74 + 21 * j) = f (74 + 21 * j)) : sR g j = sR f j := by unfold sR; rw [h]
theorem sF_c {f g : Nat → Int32} {j : Nat} (h : g (74 + 21 * j) = f (74 + 21 * j)) : sF g j = sF f j := by unfold sF; rw [h]
theorem sU_c {f g : Nat → Int32} {j : Nat} (h : g (74 + 21 * j) = f (74 + 21 * j)) : sU g j = sU f j := by unfold sU; rw [h]
theorem wh_c {f g : Nat → Int32} {j : Nat} (h : g (74 + 21 * j + 1) = f (74 + 21 * j + 1)) : wh g j = wh f j := by unfold wh; rw [h]
theorem sOn_c {f g : Nat → Int32} {j : Nat} (h : g (74 + 21 * j + 1) = f (74 + 21 * j + 1)) (h2 : g (49 + 5 * wh f j + 2) = f (49 + 5 * wh f j + 2)) : sOn g j = sOn f j := by unfold sOn; rw [wh_c h, h2]
theorem IW_c {f g : Nat → Int32} (hw : IW f) (h : ∀ j, j < 8 → g (74 + 21 * j + 1) = f (74 + 21 * j + 1)) : IW g := by
  intro j hj
  rw [wh_c (h j hj), h j hj]
  exact hw j hj
/-- nothing of the slots has changed -/
theorem RS_c {s s' : mS} {z : Nat} {f g : Nat → Int32} (h : RS s z f) (hw : IW f) (hc : ∀ b, z ≤ b → b < z + 12 → s'.1 b = s.1 b) (h1 : ∀ j, 74 ≤ j → j < 242 → g j = f j) (h2 : ∀ c, c < 5 → g (49 + 5 * c + 2) = f (49 + 5 * c + 2)) : RS s' z g := by
  obtain ⟨a0, a1, a2, a3, a4, a5, a6, a7, a8, a9, a10, a11, a12, a13, a14⟩ := h
  have hU : ∀ j, j < 8 → sU g j = sU f j := fun j hj => sU_c (h1 _ (by omega) (by omega))
  refine ⟨fun j => ?_, fun j => ?_, fun j => ?_, fun j => ?_, fun i hi hu => ?_, fun i hi hu => ?_, fun i hi hu => ?_, fun i hi hu => ?_, fun i hi hu => ?_, fun i hi hu => ?_, fun i hi hu => ?_, fun i hi hu => ?_, fun i hi => ?_, fun i hi => ?_, fun i hi hu k hk => ?_⟩
  · rw [hc z (by omega) (by omega), a0 j]
    by_cases hj : j < 8
    · rw [sR_c (h1 _ (by omega) (by omega))]
    · simp only [hj, and_true, and_false, true_and, false_and, decide_true, decide_false, ↓reduceIte, not_true_eq_false, not_false_eq_true, Bool.false_eq_true, Bool.true_eq_false, Bool.and_true, Bool.and_false, Bool.true_and, Bool.false_and, Bool.or_true, Bool.or_false, Bool.true_or, Bool.false_or, Bool.not_true, Bool.not_false]
  · rw [hc z (by omega) (by omega), a1 j]
    by_cases hj : j < 8
    · rw [sF_c (h1 _ (by omega) (by omega))]
    · simp only [hj, and_true, and_false, true_and, false_and, decide_true, decide_false, ↓reduceIte, not_true_eq_false, not_false_eq_true, Bool.false_eq_true, Bool.true_eq_false, Bool.and_true, Bool.and_false, Bool.true_and, Bool.false_and, Bool.or_true, Bool.or_false, Bool.true_or, Bool.false_or, Bool.not_true, Bool.not_false]
  · rw [hc z (by omega) (by omega), a2 j]
    by_cases hj : j < 8
    · rw [hU j hj, sOn_c (h1 _ (by omega) (by omega)) (h2 _ (hw j hj).2)]
    · simp only [hj, and_true, and_false, true_and, false_and, decide_true, decide_false, ↓reduceIte, not_true_eq_false, not_false_eq_true, Bool.false_eq_true, Bool.true_eq_false, Bool.and_true, Bool.and_false, Bool.true_and, Bool.false_and, Bool.or_true, Bool.or_false, Bool.true_or, Bool.false_or, Bool.not_true, Bool.not_false]
  · rw [hc z (by omega) (by omega), a3 j]
    by_cases hj : j < 8
    · rw [h1 _ (by omega) (by omega)]
    · simp only [hj, and_true, and_false, true_and, false_and, decide_true, decide_false, ↓reduceIte, not_true_eq_false, not_false_eq_true, Bool.false_eq_true, Bool.true_eq_false, Bool.and_true, Bool.and_false, Bool.true_and, Bool.false_and, Bool.or_true, Bool.or_false, Bool.true_or, Bool.false_or, Bool.not_true, Bool.not_false]
  · rw [hc (z + 1) (by omega) (by omega), h1 _ (by omega) (by omega)]; rw [hU i hi] at hu; exact a4 i hi hu
  · rw [hc (z + 2) (by omega) (by omega), h1 _ (by omega) (by omega)]; rw [hU i hi] at hu; exact a5 i hi hu
  · rw [hc (z + 3) (by omega) (by omega), h1 _ (by omega) (by omega)]; rw [hU i hi] at hu; exact a6 i hi hu
  · rw [hc (z + 4) (by omega) (by omega), h1 _ (by omega) (by omega)]; rw [hU i hi] at hu; exact a7 i hi hu
  · rw [hc (z + 5) (by omega) (by omega), h1 _ (by omega) (by omega)]; rw [hU i hi] at hu; exact a8 i hi hu
  · rw [hc (z + 6) (by omega) (by omega), h1 _ (by omega) (by omega)]; rw [hU i hi] at hu; exact a9 i hi hu
  · rw [hc (z + 7) (by omega) (by omega), h1 _ (by omega) (by omega)]; rw [hU i hi] at hu; exact a10 i hi hu
  · rw [hc (z + 8) (by omega) (by omega), h1 _ (by omega) (by omega)]; rw [hU i hi] at hu; exact a11 i hi hu
  · rw [hc (z + 9) (by omega) (by omega), h1 _ (by omega) (by omega)]; exact a12 i hi
  · rw [hc (z + 10) (by omega) (by omega), sIn_c (fun o ho => h1 _ (by omega) (by omega))]; exact a13 i hi
  · rw [hc (z + 11) (by omega) (by omega), h1 _ (by omega) (by omega)]; rw [hU i hi] at hu; exact a14 i hi hu k hk
theorem IS_c {f g : Nat → Int32} (h : IS f) (h1 : ∀ j, 74 ≤ j → j < 242 → g j = f j) : IS g := by
  obtain ⟨i0, i1, i2, i3, i4, i5, i6⟩ := h
  refine ⟨IW_c i0 (fun j hj => h1 _ (by omega) (by omega)), fun i hi => ?_, fun i hi hz w hw => ?_, fun i j hi hb => ?_, fun i hi => ?_, fun i j hi hj ha hb hc => ?_, fun i j k hi hj hk ha hb hc hd => ?_⟩
  · rw [h1 _ (by omega) (by omega)]; exact i1 i hi
  · rw [h1 _ (by omega) (by omega)] at hz ⊢; exact i2 i hi hz w hw
  · rw [h1 _ (by omega) (by omega)] at hb
    obtain ⟨q1, q2⟩ := i3 i j hi hb
    exact ⟨q1, by rw [sU_c (h1 _ (by omega) (by omega))]; exact q2⟩
  · rw [h1 _ (by omega) (by omega)]; exact i4 i hi
  · rw [sR_c (h1 _ (by omega) (by omega))] at ha hb
    rw [h1 _ (by omega) (by omega), h1 _ (by omega) (by omega)] at hc
    exact i5 i j hi hj ha hb hc
  · rw [sR_c (h1 _ (by omega) (by omega))] at ha hb
    rw [h1 _ (by omega) (by omega)] at hc hd
    exact i6 i j k hi hj hk ha hb hc hd

theorem RS_3 {s : mS} {z : Nat} {f : Nat → Int32} (h : RS s z f) (hw : IW f) {i : Nat} (hi : i < 8) (x : Int32) : RS (sI s (z + 3) i x) z (upd f (74 + 21 * i + 3) x) := by
  obtain ⟨a0, a1, a2, a3, a4, a5, a6, a7, a8, a9, a10, a11, a12, a13, a14⟩ := h
  refine ⟨fun j => ?_, fun j => ?_, fun j => ?_, fun j => ?_, fun j hj hu => ?_, fun j hj hu => ?_, fun j hj hu => ?_, fun j hj hu => ?_, fun j hj hu => ?_, fun j hj hu => ?_, fun j hj hu => ?_, fun j hj hu => ?_, fun j hj => ?_, fun j hj => ?_, fun j hj hu k hk => ?_⟩
  · simp (disch := omega) only [sI_at, eq_f, ↓reduceIte, sR_u]; exact a0 j
  · simp (disch := omega) only [sI_at, eq_f, ↓reduceIte, sF_u]; exact a1 j
  · simp (disch := omega) only [sI_at, eq_f, ↓reduceIte]
    rw [a2 j]
    by_cases hj : j < 8
    · have := (hw j hj).2
      rw [sU_u (by omega), sOn_u (by omega) (by omega)]
    · simp only [hj, and_true, and_false, true_and, false_and, decide_true, decide_false, ↓reduceIte, not_true_eq_false, not_false_eq_true, Bool.false_eq_true, Bool.true_eq_false, Bool.and_true, Bool.and_false, Bool.true_and, Bool.false_and, Bool.or_true, Bool.or_false, Bool.true_or, Bool.false_or, Bool.not_true, Bool.not_false]
  · simp (disch := omega) only [sI_at, eq_f, ↓reduceIte, ud_n]; exact a3 j
  · rw [sU_u (by omega)] at hu; simp (disch := omega) only [sI_at, eq_f, ↓reduceIte, ud_n]; exact a4 j hj hu
  · rw [sU_u (by omega)] at hu; simp (disch := omega) only [sI_at, eq_f, ↓reduceIte, ud_n]; exact a5 j hj hu
  · rw [sU_u (by omega)] at hu
    by_cases e : j = i
    · subst e; simp (disch := omega) only [sI_at, ↓reduceIte, ud_e]
    · simp (disch := omega) only [sI_at, eq_f, e, ↓reduceIte, ud_n]; exact a6 j hj hu
  · rw [sU_u (by omega)] at hu; simp (disch := omega) only [sI_at, eq_f, ↓reduceIte, ud_n]; exact a7 j hj hu
  · rw [sU_u (by omega)] at hu; simp (disch := omega) only [sI_at, eq_f, ↓reduceIte, ud_n]; exact a8 j hj hu
  · rw [sU_u (by omega)] at hu; simp (disch := omega) only [sI_at, eq_f, ↓reduceIte, ud_n]; exact a9 j hj hu
  · rw [sU_u (by omega)] at hu; simp (disch := omega) only [sI_at, eq_f, ↓reduceIte, ud_n]; exact a10 j hj hu
  · rw [sU_u (by omega)] at hu; simp (disch := omega) only [sI_at, eq_f, ↓reduceIte, ud_n]; exact a11 j hj hu
  · simp (disch := omega) only [sI_at, eq_f, ↓reduceIte, ud_n]; exact a12 j hj
  · simp (disch := omega) only [sI_at, eq_f, ↓reduceIte]; rw [sIn_c (fun o ho => ud_n (by omega))]; exact a13 j hj
  · rw [sU_u (by omega)] at hu; simp (disch := omega) only [sI_at, eq_f, ↓reduceIte, ud_n]; exact a14 j hj hu k hk
theorem RS_4 {s : mS} {z : Nat} {f : Nat → Int32} (h : RS s z f) (hw : IW f) {i : Nat} (hi : i < 8) (x : Int32) : RS (sI s (z + 4) i x) z (upd f (74 + 21 * i + 4) x) := by
  obtain ⟨a0, a1, a2, a3, a4, a5, a6, a7, a8, a9, a10, a11, a12, a13, a14⟩ := h
  refine ⟨fun j => ?_, fun j => ?_, fun j => ?_, fun j => ?_, fun j hj hu => ?_, fun j hj hu => ?_, fun j hj hu => ?_, fun j hj hu => ?_, fun j hj hu => ?_, fun j hj hu => ?_, fun j hj hu => ?_, fun j hj hu => ?_, fun j hj => ?_, fun j hj => ?_, fun j hj hu k hk => ?_⟩
  · simp (disch := omega) only [sI_at, eq_f, ↓reduceIte, sR_u]; exact a0 j
  · simp (disch := omega) only [sI_at, eq_f, ↓reduceIte, sF_u]; exact a1 j
  · simp (disch := omega) only [sI_at, eq_f, ↓reduceIte]
    rw [a2 j]
    by_cases hj : j < 8
    · have := (hw j hj).2
      rw [sU_u (by omega), sOn_u (by omega) (by omega)]
    · simp only [hj, and_true, and_false, true_and, false_and, decide_true, decide_false, ↓reduceIte, not_true_eq_false, not_false_eq_true, Bool.false_eq_true, Bool.true_eq_false, Bool.and_true, Bool.and_false, Bool.true_and, Bool.false_and, Bool.or_true, Bool.or_false, Bool.true_or, Bool.false_or, Bool.not_true, Bool.not_false]
  · simp (disch := omega) only [sI_at, eq_f, ↓reduceIte, ud_n]; exact a3 j
  · rw [sU_u (by omega)] at hu; simp (disch := omega) only [sI_at, eq_f, ↓reduceIte, ud_n]; exact a4 j hj hu
  · rw [sU_u (by omega)] at hu; simp (disch := omega) only [sI_at, eq_f, ↓reduceIte, ud_n]; exact a5 j hj hu
  · rw [sU_u (by omega)] at hu; simp (disch := omega) only [sI_at, eq_f, ↓reduceIte, ud_n]; exact a6 j hj hu
  · rw [sU_u (by omega)] at hu
    by_cases e : j = i
    · subst e; simp (disch := omega) only [sI_at, ↓reduceIte, ud_e]
    · simp (disch := omega) only [sI_at, eq_f, e, ↓reduceIte, ud_n]; exact a7 j hj hu
  · rw [sU_u (by omega)] at hu; simp (disch := omega) only [sI_at, eq_f, ↓reduceIte, ud_n]; exact a8 j hj hu
  · rw [sU_u (by omega)] at hu; simp (disch := omega) only [sI_at, eq_f, ↓reduceIte, ud_n]; exact a9 j hj hu
  · rw [sU_u (by omega)] at hu; simp (disch := omega) only [sI_at, eq_f, ↓reduceIte, ud_n]; exact a10 j hj hu
  · rw [sU_u (by omega)] at hu; simp (disch := omega) only [sI_at, eq_f, ↓reduceIte, ud_n]; exact a11 j hj hu
  · simp (disch := omega) only [sI_at, eq_f, ↓reduceIte, ud_n]; exact a12 j hj
  · simp (disch := omega) only [sI_at, eq_f, ↓reduceIte]; rw [sIn_c (fun o ho => ud_n (by omega))]; exact a13 j hj
  · rw [sU_u (by omega)] at hu; simp (disch := omega) only [sI_at, eq_f, ↓reduceIte, ud_n]; exact a14 j hj hu k hk
theorem RS_5 {s : mS} {z : Nat} {f : Nat → Int32} (h : RS s z f) (hw : IW f) {i : Nat} (hi : i < 8) (x : Int32) : RS (sI s (z + 5) i x) z (upd f (74 + 21 * i + 5) x) := by
  obtain ⟨a0, a1, a2, a3, a4, a5, a6, a7, a8, a9, a10, a11, a12, a13, a14⟩ := h
  refine ⟨fun j => ?_, fun j => ?_, fun j => ?_, fun j => ?_, fun j hj hu => ?_, fun j hj hu => ?_, fun j hj hu => ?_, fun j hj hu => ?_, fun j hj hu => ?_, fun j hj hu => ?_, fun j hj hu => ?_, fun j hj hu => ?_, fun j hj => ?_, fun j hj => ?_, fun j hj hu k hk => ?_⟩
  · simp (disch := omega) only [sI_at, eq_f, ↓reduceIte, sR_u]; exact a0 j
  · simp (disch := omega) only [sI_at, eq_f, ↓reduceIte, sF_u]; exact a1 j
  · simp (disch := omega) only [sI_at, eq_f, ↓reduceIte]
    rw [a2 j]
    by_cases hj : j < 8
    · have := (hw j hj).2
      rw [sU_u (by omega), sOn_u (by omega) (by omega)]
    · simp only [hj, and_true, and_false, true_and, false_and, decide_true, decide_false, ↓reduceIte, not_true_eq_false, not_false_eq_true, Bool.false_eq_true, Bool.true_eq_false, Bool.and_true, Bool.and_false, Bool.true_and, Bool.false_and, Bool.or_true, Bool.or_false, Bool.true_or, Bool.false_or, Bool.not_true, Bool.not_false]
  · simp (disch := omega) only [sI_at, eq_f, ↓reduceIte, ud_n]; exact a3 j
  · rw [sU_u (by omega)] at hu; simp (disch := omega) only [sI_at, eq_f, ↓reduceIte, ud_n]; exact a4 j hj hu
  · rw [sU_u (by omega)] at hu; simp (disch := omega) only [sI_at, eq_f, ↓reduceIte, ud_n]; exact a5 j hj hu
  · rw [sU_u (by omega)] at hu; simp (disch := omega) only [sI_at, eq_f, ↓reduceIte, ud_n]; exact a6 j hj hu
  · rw [sU_u (by omega)] at hu; simp (disch := omega) only [sI_at, eq_f, ↓reduceIte, ud_n]; exact a7 j hj hu
  · rw [sU_u (by omega)] at hu
    by_cases e : j = i
    · subst e; simp (disch := omega) only [sI_at, ↓reduceIte, ud_e]
    · simp (disch := omega) only [sI_at, eq_f, e, ↓reduceIte, ud_n]; exact a8 j hj hu
  · rw [sU_u (by omega)] at hu; simp (disch := omega) only [sI_at, eq_f, ↓reduceIte, ud_n]; exact a9 j hj hu
  · rw [sU_u (by omega)] at hu; simp (disch := omega) only [sI_at, eq_f, ↓reduceIte, ud_n]; exact a10 j hj hu
  · rw [sU_u (by omega)] at hu; simp (disch := omega) only [sI_at, eq_f, ↓reduceIte, ud_n]; exact a11 j hj hu
  · simp (disch := omega) only [sI_at, eq_f, ↓reduceIte, ud_n]; exact a12 j hj
  · simp (disch := omega) only [sI_at, eq_f, ↓reduceIte]; rw [sIn_c (fun o ho => ud_n (by omega))]; exact a13 j hj
  · rw [sU_u (by omega)] at hu; simp (disch := omega) only [sI_at, eq_f, ↓reduceIte, ud_n]; exact a14 j hj hu k hk
theorem RS_6 {s : mS} {z : Nat} {f : Nat → Int32} (h : RS s z f) (hw : IW f) {i : Nat} (hi : i < 8) (x : Int32) : RS (sI s (z + 6) i x) z (upd f (74 + 21 * i + 6) x) := by
  obtain ⟨a0, a1, a2, a3, a4, a5, a6, a7, a8, a9, a10, a11, a12, a13, a14⟩ := h
  refine ⟨fun j => ?_, fun j => ?_, fun j => ?_, fun j => ?_, fun j hj hu => ?_, fun j hj hu => ?_, fun j hj hu => ?_, fun j hj hu => ?_, fun j hj hu => ?_, fun j hj hu => ?_, fun j hj hu => ?_, fun j hj hu => ?_, fun j hj => ?_, fun j hj => ?_, fun j hj hu k hk => ?_⟩
  · simp (disch := omega) only [sI_at, eq_f, ↓reduceIte, sR_u]; exact a0 j
  · simp (disch := omega) only [sI_at, eq_f, ↓reduceIte, sF_u]; exact a1 j
  · simp (disch := omega) only [sI_at, eq_f, ↓reduceIte]
    rw [a2 j]
    by_cases hj : j < 8
    · have := (hw j hj).2
      rw [sU_u (by omega), sOn_u (by omega) (by omega)]
    · simp only [hj, and_true, and_false, true_and, false_and, decide_true, decide_false, ↓reduceIte, not_true_eq_false, not_false_eq_true, Bool.false_eq_true, Bool.true_eq_false, Bool.and_true, Bool.and_false, Bool.true_and, Bool.false_and, Bool.or_true, Bool.or_false, Bool.true_or, Bool.false_or, Bool.not_true, Bool.not_false]
  · simp (disch := omega) only [sI_at, eq_f, ↓reduceIte, ud_n]; exact a3 j
  · rw [sU_u (by omega)] at hu; simp (disch := omega) only [sI_at, eq_f, ↓reduceIte, ud_n]; exact a4 j hj hu
  · rw [sU_u (by omega)] at hu; simp (disch := omega) only [sI_at, eq_f, ↓reduceIte, ud_n]; exact a5 j hj hu
  · rw [sU_u (by omega)] at hu; simp (disch := omega) only [sI_at, eq_f, ↓reduceIte, ud_n]; exact a6 j hj hu
  · rw [sU_u (by omega)] at hu; simp (disch := omega) only [sI_at, eq_f, ↓reduceIte, ud_n]; exact a7 j hj hu
  · rw [sU_u (by omega)] at hu; simp (disch := omega) only [sI_at, eq_f, ↓reduceIte, ud_n]; exact a8 j hj hu
  · rw [sU_u (by omega)] at hu
    by_cases e : j = i
    · subst e; simp (disch := omega) only [sI_at, ↓reduceIte, ud_e]
    · simp (disch := omega) only [sI_at, eq_f, e, ↓reduceIte, ud_n]; exact a9 j hj hu
  · rw [sU_u (by omega)] at hu; simp (disch := omega) only [sI_at, eq_f, ↓reduceIte, ud_n]; exact a10 j hj hu
  · rw [sU_u (by omega)] at hu; simp (disch := omega) only [sI_at, eq_f, ↓reduceIte, ud_n]; exact a11 j hj hu
  · simp (disch := omega) only [sI_at, eq_f, ↓reduceIte, ud_n]; exact a12 j hj
  · simp (disch := omega) only [sI_at, eq_f, ↓reduceIte]; rw [sIn_c (fun o ho => ud_n (by omega))]; exact a13 j hj
  · rw [sU_u (by omega)] at hu; simp (disch := omega) only [sI_at, eq_f, ↓reduceIte, ud_n]; exact a14 j hj hu k hk
theorem RS_7 {s : mS} {z : Nat} {f : Nat → Int32} (h : RS s z f) (hw : IW f) {i : Nat} (hi : i < 8) (x : Int32) : RS (sI s (z + 7) i x) z (upd f (74 + 21 * i + 8) x) := by
  obtain ⟨a0, a1, a2, a3, a4, a5, a6, a7, a8, a9, a10, a11, a12, a13, a14⟩ := h
  refine ⟨fun j => ?_, fun j => ?_, fun j => ?_, fun j => ?_, fun j hj hu => ?_, fun j hj hu => ?_, fun j hj hu => ?_, fun j hj hu => ?_, fun j hj hu => ?_, fun j hj hu => ?_, fun j hj hu => ?_, fun j hj hu => ?_, fun j hj => ?_, fun j hj => ?_, fun j hj hu k hk => ?_⟩
  · simp (disch := omega) only [sI_at, eq_f, ↓reduceIte, sR_u]; exact a0 j
  · simp (disch := omega) only [sI_at, eq_f, ↓reduceIte, sF_u]; exact a1 j
  · simp (disch := omega) only [sI_at, eq_f, ↓reduceIte]
    rw [a2 j]
    by_cases hj : j < 8
    · have := (hw j hj).2
      rw [sU_u (by omega), sOn_u (by omega) (by omega)]
    · simp only [hj, and_true, and_false, true_and, false_and, decide_true, decide_false, ↓reduceIte, not_true_eq_false, not_false_eq_true, Bool.false_eq_true, Bool.true_eq_false, Bool.and_true, Bool.and_false, Bool.true_and, Bool.false_and, Bool.or_true, Bool.or_false, Bool.true_or, Bool.false_or, Bool.not_true, Bool.not_false]
  · simp (disch := omega) only [sI_at, eq_f, ↓reduceIte, ud_n]; exact a3 j
  · rw [sU_u (by omega)] at hu; simp (disch := omega) only [sI_at, eq_f, ↓reduceIte, ud_n]; exact a4 j hj hu
  · rw [sU_u (by omega)] at hu; simp (disch := omega) only [sI_at, eq_f, ↓reduceIte, ud_n]; exact a5 j hj hu
  · rw [sU_u (by omega)] at hu; simp (disch := omega) only [sI_at, eq_f, ↓reduceIte, ud_n]; exact a6 j hj hu
  · rw [sU_u (by omega)] at hu; simp (disch := omega) only [sI_at, eq_f, ↓reduceIte, ud_n]; exact a7 j hj hu
  · rw [sU_u (by omega)] at hu; simp (disch := omega) only [sI_at, eq_f, ↓reduceIte, ud_n]; exact a8 j hj hu
  · rw [sU_u (by omega)] at hu; simp (disch := omega) only [sI_at, eq_f, ↓reduceIte, ud_n]; exact a9 j hj hu
  · rw [sU_u (by omega)] at hu
    by_cases e : j = i
    · subst e; simp (disch := omega) only [sI_at, ↓reduceIte, ud_e]
    · simp (disch := omega) only [sI_at, eq_f, e, ↓reduceIte, ud_n]; exact a10 j hj hu
  · rw [sU_u (by omega)] at hu; simp (disch := omega) only [sI_at, eq_f, ↓reduceIte, ud_n]; exact a11 j hj hu
  · simp (disch := omega) only [sI_at, eq_f, ↓reduceIte, ud_n]; exact a12 j hj
  · simp (disch := omega) only [sI_at, eq_f, ↓reduceIte]; rw [sIn_c (fun o ho => ud_n (by omega))]; exact a13 j hj
  · rw [sU_u (by omega)] at hu; simp (disch := omega) only [sI_at, eq_f, ↓reduceIte, ud_n]; exact a14 j hj hu k hk
theorem RS_8 {s : mS} {z : Nat} {f : Nat → Int32} (h : RS s z f) (hw : IW f) {i : Nat} (hi : i < 8) (x : Int32) : RS (sI s (z + 8) i x) z (upd f (74 + 21 * i + 9) x) := by
  obtain ⟨a0, a1, a2, a3, a4, a5, a6, a7, a8, a9, a10, a11, a12, a13, a14⟩ := h
  refine ⟨fun j => ?_, fun j => ?_, fun j => ?_, fun j => ?_, fun j hj hu => ?_, fun j hj hu => ?_, fun j hj hu => ?_, fun j hj hu => ?_, fun j hj hu => ?_, fun j hj hu => ?_, fun j hj hu => ?_, fun j hj hu => ?_, fun j hj => ?_, fun j hj => ?_, fun j hj hu k hk => ?_⟩
  · simp (disch := omega) only [sI_at, eq_f, ↓reduceIte, sR_u]; exact a0 j
  · simp (disch := omega) only [sI_at, eq_f, ↓reduceIte, sF_u]; exact a1 j
  · simp (disch := omega) only [sI_at, eq_f, ↓reduceIte]
    rw [a2 j]
    by_cases hj : j < 8
    · have := (hw j hj).2
      rw [sU_u (by omega), sOn_u (by omega) (by omega)]
    · simp only [hj, and_true, and_false, true_and, false_and, decide_true, decide_false, ↓reduceIte, not_true_eq_false, not_false_eq_true, Bool.false_eq_true, Bool.true_eq_false, Bool.and_true, Bool.and_false, Bool.true_and, Bool.false_and, Bool.or_true, Bool.or_false, Bool.true_or, Bool.false_or, Bool.not_true, Bool.not_false]
  · simp (disch := omega) only [sI_at, eq_f, ↓reduceIte, ud_n]; exact a3 j
  · rw [sU_u (by omega)] at hu; simp (disch := omega) only [sI_at, eq_f, ↓reduceIte, ud_n]; exact a4 j hj hu
  · rw [sU_u (by omega)] at hu; simp (disch := omega) only [sI_at, eq_f, ↓reduceIte, ud_n]; exact a5 j hj hu
  · rw [sU_u (by omega)] at hu; simp (disch := omega) only [sI_at, eq_f, ↓reduceIte, ud_n]; exact a6 j hj hu
  · rw [sU_u (by omega)] at hu; simp (disch := omega) only [sI_at, eq_f, ↓reduceIte, ud_n]; exact a7 j hj hu
  · rw [sU_u (by omega)] at hu; simp (disch := omega) only [sI_at, eq_f, ↓reduceIte, ud_n]; exact a8 j hj hu
  · rw [sU_u (by omega)] at hu; simp (disch := omega) only [sI_at, eq_f, ↓reduceIte, ud_n]; exact a9 j hj hu
  · rw [sU_u (by omega)] at hu; simp (disch := omega) only [sI_at, eq_f, ↓reduceIte, ud_n]; exact a10 j hj hu
  · rw [sU_u (by omega)] at hu
    by_cases e : j = i
    · subst e; simp (disch := omega) only [sI_at, ↓reduceIte, ud_e]
    · simp (disch := omega) only [sI_at, eq_f, e, ↓reduceIte, ud_n]; exact a11 j hj hu
  · simp (disch := omega) only [sI_at, eq_f, ↓reduceIte, ud_n]; exact a12 j hj
  · simp (disch := omega) only [sI_at, eq_f, ↓reduceIte]; rw [sIn_c (fun o ho => ud_n (by omega))]; exact a13 j hj
  · rw [sU_u (by omega)] at hu; simp (disch := omega) only [sI_at, eq_f, ↓reduceIte, ud_n]; exact a14 j hj hu k hk
theorem IS_u {f : Nat → Int32} (h : IS f) {i w : Nat} (hi : i < 8) (hu : sU f i = true) (hw : w = 2 ∨ w = 3 ∨ w = 4 ∨ w = 5 ∨ w = 8 ∨ w = 9) (x : Int32) : IS (upd f (74 + 21 * i + w) x) := by
  obtain ⟨i0, i1, i2, i3, i4, i5, i6⟩ := h
  refine ⟨IW_c i0 (fun j hj => ud_n (by omega)), fun j hj => ?_, fun j hj hz w' hw' => ?_, fun j l hj hb => ?_, fun j hj => ?_, fun j l hj hl ha hb hc => ?_, fun j l k hj hl hk ha hb hc hd => ?_⟩
  · rw [ud_n (by omega)]; exact i1 j hj
  · rw [ud_n (by omega)] at hz
    have hji : j ≠ i := by
      intro e; subst e
      unfold sU at hu
      rw [hz] at hu
      exact absurd hu (by decide)
    rw [ud_n (by omega)]; exact i2 j hj hz w' hw'
  · rw [ud_n (by omega)] at hb
    obtain ⟨q1, q2⟩ := i3 j l hj hb
    exact ⟨q1, by rw [sU_u (by omega)]; exact q2⟩
  · rw [ud_n (by omega)]; exact i4 j hj
  · rw [sR_u (by omega)] at ha hb
    rw [ud_n (by omega), ud_n (by omega)] at hc
    exact i5 j l hj hl ha hb hc
  · rw [sR_u (by omega)] at ha hb
    rw [ud_n (by omega)] at hc hd
    exact i6 j l k hj hl hk ha hb hc hd
theorem IS_6 {f : Nat → Int32} (h : IS f) {i : Nat} (hi : i < 8) (hu : sU f i = true) (x : Int32) (hx : ∀ k j, k < 10 → j < 8 → j ≠ i → sR f j = true → bt x k = true → bt (f (74 + 21 * j + 6)) k = false) : IS (upd f (74 + 21 * i + 6) x) := by
  obtain ⟨i0, i1, i2, i3, i4, i5, i6⟩ := h
  refine ⟨IW_c i0 (fun j hj => ud_n (by omega)), fun j hj => ?_, fun j hj hz w' hw' => ?_, fun j l hj hb => ?_, fun j hj => ?_, fun j l hj hl ha hb hc => ?_, fun j l k hj hl hk ha hb hc hd => ?_⟩
  · rw [ud_n (by omega)]; exact i1 j hj
  · rw [ud_n (by omega)] at hz
    have hji : j ≠ i := by
      intro e; subst e
      unfold sU at hu
      rw [hz] at hu
      exact absurd hu (by decide)
    rw [ud_n (by omega)]; exact i2 j hj hz w' hw'
  · rw [ud_n (by omega)] at hb
    obtain ⟨q1, q2⟩ := i3 j l hj hb
    exact ⟨q1, by rw [sU_u (by omega)]; exact q2⟩
  · rw [ud_n (by omega)]; exact i4 j hj
  · rw [sR_u (by omega)] at ha hb
    rw [ud_n (by omega), ud_n (by omega)] at hc
    exact i5 j l hj hl ha hb hc
  · rw [sR_u (by omega)] at ha hb
    by_cases e1 : j = i
    · by_cases e2 : l = i
      · omega
      · subst e1
        rw [ud_e rfl] at hc
        rw [ud_n (by omega)] at hd
        rw [hx k l hk hl e2 hb hc] at hd
        cases hd
    · by_cases e2 : l = i
      · subst e2
        rw [ud_e rfl] at hd
        rw [ud_n (by omega)] at hc
        rw [hx k j hk hj e1 ha hd] at hc
        cases hc
      · rw [ud_n (by omega)] at hc hd
        exact i6 j l k hj hl hk ha hb hc hd
