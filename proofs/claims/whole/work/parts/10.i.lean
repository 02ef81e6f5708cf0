/-! CLIENTS BY NUMBER; CLASH, LED -/
theorem p181_t {s : mS} {n j : Nat} (hn : n ≤ 5) (y0 : s.1 27 0 = nI n) (h : j < n) : q181 (nI j) s = ru s := by
  unfold q181; simp (disch := omega) only [y0, nI_lit, nI_add, pk_mul, nI_clp, nI_eqv, nI_lev, nI_ltv, nI_neg, nI_neg', nI_subv, Nat.add_zero, Nat.zero_add, Nat.mul_zero, Nat.reduceAdd, bN_rv, bM_ru, bV_rv, bV_rx, bU_ru, bU_rx, bN_ite, bM_ite, bV_ite, bU_ite, ↓bx_e, ↓sp_e, gA_ok, gZ_n, gB_0, gB_1, gB_i, and_true, and_false, true_and, false_and, decide_true, decide_false, ↓reduceIte, not_true_eq_false, not_false_eq_true, Bool.false_eq_true, Bool.true_eq_false, Bool.and_true, Bool.and_false, Bool.true_and, Bool.false_and, Bool.or_true, Bool.or_false, Bool.true_or, Bool.false_or, Bool.not_true, Bool.not_false, le_f, le_t, lt_f, lt_t, eq_f, ↓reduceIte, not_true_eq_false, not_false_eq_true, ite_10, bt_0, bt_1]
theorem p181_f {s : mS} {n : Nat} {v : Int32} (y0 : s.1 27 0 = nI n) (h : v < nI 0 ∨ nI n ≤ v) : q181 v s = rx 2 s := by
  unfold q181 q181_18
  simp only [nI_lit, Nat.reduceAdd, y0]
  by_cases h0 : v < nI 0
  · simp only [h0, ↓reduceIte]
  · have h1 : ¬ v < nI n := Int32.not_lt.mpr (h.resolve_left h0)
    simp only [h0, h1, ↓reduceIte]
theorem m275_t {t : mS} {n j : Nat} (hn : n ≤ 5) (f0 : t.1 513 0 = nI n) (h : j < n) : q275 (nI j) t = rv (nI 0) t := by
  unfold q275 q198
  simp (disch := omega) only [nI_lit, nI_clp, gA_ok, f0, bN_rv]
  rw [in_mt h (by omega)]; simp (disch := omega) only [nI_lit, nI_add, pk_mul, nI_clp, nI_eqv, nI_lev, nI_ltv, nI_neg, nI_neg', nI_subv, Nat.add_zero, Nat.zero_add, Nat.mul_zero, Nat.reduceAdd, bN_rv, bM_ru, bV_rv, bV_rx, bU_ru, bU_rx, bN_ite, bM_ite, bV_ite, bU_ite, ↓bx_e, ↓sp_e, gA_ok, gZ_n, gB_0, gB_1, gB_i, and_true, and_false, true_and, false_and, decide_true, decide_false, ↓reduceIte, not_true_eq_false, not_false_eq_true, Bool.false_eq_true, Bool.true_eq_false, Bool.and_true, Bool.and_false, Bool.true_and, Bool.false_and, Bool.or_true, Bool.or_false, Bool.true_or, Bool.false_or, Bool.not_true, Bool.not_false, le_f, le_t, lt_f, lt_t, eq_f, ↓reduceIte, not_true_eq_false, not_false_eq_true, ite_10, bt_0, bt_1]
theorem m275_f {t : mS} {n : Nat} {v : Int32} (hn : n ≤ 5) (f0 : t.1 513 0 = nI n) (h : v < nI 0 ∨ nI n ≤ v) : q275 v t = rv (nI 1) t := by
  unfold q275 q198
  simp (disch := omega) only [nI_lit, nI_clp, gA_ok, f0, bN_rv]
  rw [in_mf (by omega) h]; simp (disch := omega) only [nI_lit, nI_add, pk_mul, nI_clp, nI_eqv, nI_lev, nI_ltv, nI_neg, nI_neg', nI_subv, Nat.add_zero, Nat.zero_add, Nat.mul_zero, Nat.reduceAdd, bN_rv, bM_ru, bV_rv, bV_rx, bU_ru, bU_rx, bN_ite, bM_ite, bV_ite, bU_ite, ↓bx_e, ↓sp_e, gA_ok, gZ_n, gB_0, gB_1, gB_i, and_true, and_false, true_and, false_and, decide_true, decide_false, ↓reduceIte, not_true_eq_false, not_false_eq_true, Bool.false_eq_true, Bool.true_eq_false, Bool.and_true, Bool.and_false, Bool.true_and, Bool.false_and, Bool.or_true, Bool.or_false, Bool.true_or, Bool.false_or, Bool.not_true, Bool.not_false, le_f, le_t, lt_f, lt_t, eq_f, ↓reduceIte, not_true_eq_false, not_false_eq_true, ite_10, bt_0, bt_1]
def clU (f : Nat → Int32) (c : Nat) : Int32 := f (49 + 5 * c) ||| f (49 + 5 * c + 1)
def clX (f : Nat → Int32) (c d : Nat) : Bool := !(decide (f (49 + 5 * c + 1) &&& clU f d = nI 0)) || !(decide (f (49 + 5 * d + 1) &&& clU f c = nI 0))
theorem or_eq0 {x y : Int32} : (x ||| y = nI 0) = (x = nI 0 ∧ y = nI 0) := by
  apply propext
  constructor
  · intro h
    have hb : ∀ i, (bt x i || bt y i) = false := fun i => by rw [← b_or, h, bt_n0]
    refine ⟨b_ext fun i _ => ?_, b_ext fun i _ => ?_⟩
    · have := hb i; rw [Bool.or_eq_false_iff] at this; rw [bt_n0]; exact this.1
    · have := hb i; rw [Bool.or_eq_false_iff] at this; rw [bt_n0]; exact this.2
  · rintro ⟨h1, h2⟩; rw [h1, h2]; decide
theorem p4 {s : mS} {y n c : Nat} {f : Nat → Int32} (hc : c < 5) (h1 : ∀ c, c < 5 → s.1 (y + 1) c = f (49 + 5 * c)) (h2 : ∀ c, c < 5 → s.1 (y + 2) c = f (49 + 5 * c + 1)) : q4 y (nI c) s = rv (clU f c) s := by
  unfold q4 clU
  simp (disch := omega) only [h1 c hc, h2 c hc, nI_lit, nI_add, pk_mul, nI_clp, nI_eqv, nI_lev, nI_ltv, nI_neg, nI_neg', nI_subv, Nat.add_zero, Nat.zero_add, Nat.mul_zero, Nat.reduceAdd, bN_rv, bM_ru, bV_rv, bV_rx, bU_ru, bU_rx, bN_ite, bM_ite, bV_ite, bU_ite, ↓bx_e, ↓sp_e, gA_ok, gZ_n, gB_0, gB_1, gB_i, and_true, and_false, true_and, false_and, decide_true, decide_false, ↓reduceIte, not_true_eq_false, not_false_eq_true, Bool.false_eq_true, Bool.true_eq_false, Bool.and_true, Bool.and_false, Bool.true_and, Bool.false_and, Bool.or_true, Bool.or_false, Bool.true_or, Bool.false_or, Bool.not_true, Bool.not_false, le_f, le_t, lt_f, lt_t, eq_f, ↓reduceIte, not_true_eq_false, not_false_eq_true, ite_10, bt_0, bt_1]
theorem p5 {s : mS} {y c d : Nat} {f : Nat → Int32} (hc : c < 5) (hd : d < 5) (h1 : ∀ c, c < 5 → s.1 (y + 1) c = f (49 + 5 * c)) (h2 : ∀ c, c < 5 → s.1 (y + 2) c = f (49 + 5 * c + 1)) : q5 y (nI c) (nI d) s = rv (b2 (clX f c d)) s := by
  unfold q5 q5_30 clX
  simp (disch := omega) only [p4 (n := 0) hc h1 h2, p4 (n := 0) hd h1 h2, h2 c hc, h2 d hd, nI_lit, nI_add, pk_mul, nI_clp, nI_eqv, nI_lev, nI_ltv, nI_neg, nI_neg', nI_subv, Nat.add_zero, Nat.zero_add, Nat.mul_zero, Nat.reduceAdd, bN_rv, bM_ru, bV_rv, bV_rx, bU_ru, bU_rx, bN_ite, bM_ite, bV_ite, bU_ite, ↓bx_e, ↓sp_e, gA_ok, gZ_n, gB_0, gB_1, gB_i, and_true, and_false, true_and, false_and, decide_true, decide_false, ↓reduceIte, not_true_eq_false, not_false_eq_true, Bool.false_eq_true, Bool.true_eq_false, Bool.and_true, Bool.and_false, Bool.true_and, Bool.false_and, Bool.or_true, Bool.or_false, Bool.true_or, Bool.false_or, Bool.not_true, Bool.not_false, le_f, le_t, lt_f, lt_t, eq_f, ↓reduceIte, not_true_eq_false, not_false_eq_true, ite_10, bt_0, bt_1]
  by_cases e1 : f (49 + 5 * c + 1) &&& clU f d = nI 0 <;> by_cases e2 : f (49 + 5 * d + 1) &&& clU f c = nI 0 <;> simp only [e1, e2, b2_t, b2_f, and_true, and_false, true_and, false_and, decide_true, decide_false, ↓reduceIte, not_true_eq_false, not_false_eq_true, Bool.false_eq_true, Bool.true_eq_false, Bool.and_true, Bool.and_false, Bool.true_and, Bool.false_and, Bool.or_true, Bool.or_false, Bool.true_or, Bool.false_or, Bool.not_true, Bool.not_false]
theorem m301 {t : mS} {c : Nat} (hc : c < 5) : q301 (nI c) t = rv (clU (t.1 513) c) t := by
  unfold q301 clU
  simp (disch := omega) only [nI_lit, nI_add, pk_mul, nI_clp, nI_eqv, nI_lev, nI_ltv, nI_neg, nI_neg', nI_subv, Nat.add_zero, Nat.zero_add, Nat.mul_zero, Nat.reduceAdd, bN_rv, bM_ru, bV_rv, bV_rx, bU_ru, bU_rx, bN_ite, bM_ite, bV_ite, bU_ite, ↓bx_e, ↓sp_e, gA_ok, gZ_n, gB_0, gB_1, gB_i, and_true, and_false, true_and, false_and, decide_true, decide_false, ↓reduceIte, not_true_eq_false, not_false_eq_true, Bool.false_eq_true, Bool.true_eq_false, Bool.and_true, Bool.and_false, Bool.true_and, Bool.false_and, Bool.or_true, Bool.or_false, Bool.true_or, Bool.false_or, Bool.not_true, Bool.not_false, le_f, le_t, lt_f, lt_t, eq_f, ↓reduceIte, not_true_eq_false, not_false_eq_true, ite_10, bt_0, bt_1, q198, q199, q200, q201, q202, q203, q204, m190, m205, m206, b2_0, q189, q187]
theorem m302 {t : mS} {c d : Nat} (hc : c < 5) (hd : d < 5) : q302 (nI c) (nI d) t = rv (b2 (clX (t.1 513) c d)) t := by
  unfold q302 clX
  simp (disch := omega) only [m301 hc, m301 hd, or_eq0, nI_lit, nI_add, pk_mul, nI_clp, nI_eqv, nI_lev, nI_ltv, nI_neg, nI_neg', nI_subv, Nat.add_zero, Nat.zero_add, Nat.mul_zero, Nat.reduceAdd, bN_rv, bM_ru, bV_rv, bV_rx, bU_ru, bU_rx, bN_ite, bM_ite, bV_ite, bU_ite, ↓bx_e, ↓sp_e, gA_ok, gZ_n, gB_0, gB_1, gB_i, and_true, and_false, true_and, false_and, decide_true, decide_false, ↓reduceIte, not_true_eq_false, not_false_eq_true, Bool.false_eq_true, Bool.true_eq_false, Bool.and_true, Bool.and_false, Bool.true_and, Bool.false_and, Bool.or_true, Bool.or_false, Bool.true_or, Bool.false_or, Bool.not_true, Bool.not_false, le_f, le_t, lt_f, lt_t, eq_f, ↓reduceIte, not_true_eq_false, not_false_eq_true, ite_10, bt_0, bt_1, q198, q199, q200, q201, q202, q203, q204, m190, m205, m206, b2_0, q189, q187]
  by_cases e1 : t.1 513 (49 + 5 * c + 1) &&& clU (t.1 513) d = nI 0 <;> by_cases e2 : t.1 513 (49 + 5 * d + 1) &&& clU (t.1 513) c = nI 0 <;> simp only [e1, e2, b2_t, b2_f, and_true, and_false, true_and, false_and, decide_true, decide_false, ↓reduceIte, not_true_eq_false, not_false_eq_true, Bool.false_eq_true, Bool.true_eq_false, Bool.and_true, Bool.and_false, Bool.true_and, Bool.false_and, Bool.or_true, Bool.or_false, Bool.true_or, Bool.false_or, Bool.not_true, Bool.not_false]
section LOOK
variable {B : Nat} {s : mS}
/-- two clients: the class's and the reference's checks -/
theorem p182_t {n c d : Nat} (hn : n ≤ 5) (y0 : s.1 27 0 = nI n) (hc : c < n) (hd : d < n) (hne : c ≠ d) : q182 (nI c) (nI d) s = ru s := by
  unfold q182
  rw [p181_t hn y0 hc, bU_ru, p181_t hn y0 hd, bU_ru, if_pos (fun q => hne ((nI_eqv (by omega) (by omega)).mp q))]
theorem m303_t {t : mS} {n c d : Nat} (hn : n ≤ 5) (f0 : t.1 513 0 = nI n) (hc : c < n) (hd : d < n) (hne : c ≠ d) : q303 (nI c) (nI d) t = rv (nI 0) (sI t 512 0 (nI 0)) := by
  unfold q303
  rw [nI_lit, sp_e]
  have f0' : (sI t 512 0 (nI 0)).1 513 0 = nI n := by rw [t0_513]; exact f0
  rw [m275_t hn f0' hc, bN_rv, if_neg (not_not_intro rfl), m275_t hn f0' hd, bN_rv, if_pos rfl]
  unfold q303_27
  rw [nI_lit, m188_0, bN_rv, nI_lit, if_neg (not_not_intro rfl), if_pos (fun q => hne ((nI_eqv (by omega) (by omega)).mp q))]
  unfold q303_45
  rw [nI_lit, m188_0, bN_rv, nI_lit, if_pos rfl]
theorem pm182 {n : Nat} (hn : n ≤ 5) (y0 : s.1 27 0 = nI n) (f0 : s.1 513 0 = nI n) (v1 v2 : Int32) :
    (∃ c d, c < n ∧ d < n ∧ c ≠ d ∧ v1 = nI c ∧ v2 = nI d) ∨
    (q182 v1 v2 s = rx 2 s ∧ ∀ t : mS, t.1 = s.1 → q303 v1 v2 t = rv (nI 1) (sI (sI t 512 0 (nI 0)) 512 0 (nI 1))) ∨
    (q182 v1 v2 s = rx 0 s ∧ ∀ t : mS, t.1 = s.1 → q303 v1 v2 t = rv (nI 1) (sI (sI t 512 0 (nI 0)) 512 0 (nI 2))) := by
  have b1 : (v1 < nI 0 ∨ nI n ≤ v1) → (q182 v1 v2 s = rx 2 s ∧ ∀ t : mS, t.1 = s.1 → q303 v1 v2 t = rv (nI 1) (sI (sI t 512 0 (nI 0)) 512 0 (nI 1))) := fun h => by
    refine ⟨by unfold q182; rw [p181_f y0 h]; rfl, fun t ht => ?_⟩
    unfold q303
    rw [nI_lit, sp_e]
    have f0' : (sI t 512 0 (nI 0)).1 513 0 = nI n := by rw [t0_513, ht]; exact f0
    rw [m275_f hn f0' h, bN_rv, if_pos (by decide)]
    unfold q303_22 q303_27 q303_52
    rw [nI_lit, m188_1, bN_rv, nI_lit, if_pos (by decide)]
  rcases ix_of v1 n (by omega) with h | h | ⟨c, hc, e⟩
  · exact Or.inr (Or.inl (b1 (Or.inl h)))
  · exact Or.inr (Or.inl (b1 (Or.inr h)))
  · subst e
    have b2' : (v2 < nI 0 ∨ nI n ≤ v2) → (q182 (nI c) v2 s = rx 2 s ∧ ∀ t : mS, t.1 = s.1 → q303 (nI c) v2 t = rv (nI 1) (sI (sI t 512 0 (nI 0)) 512 0 (nI 1))) := fun h => by
      refine ⟨by unfold q182; rw [p181_t hn y0 hc, bU_ru, p181_f y0 h]; rfl, fun t ht => ?_⟩
      unfold q303
      rw [nI_lit, sp_e]
      have f0' : (sI t 512 0 (nI 0)).1 513 0 = nI n := by rw [t0_513, ht]; exact f0
      rw [m275_t hn f0' hc, bN_rv, if_neg (not_not_intro rfl), m275_f hn f0' h, bN_rv, if_neg (by decide)]
      unfold q303_22 q303_27 q303_52
      rw [nI_lit, m188_1, bN_rv, nI_lit, if_pos (by decide)]
    rcases ix_of v2 n (by omega) with h | h | ⟨d, hd, e2⟩
    · exact Or.inr (Or.inl (b2' (Or.inl h)))
    · exact Or.inr (Or.inl (b2' (Or.inr h)))
    · subst e2
      by_cases e : c = d
      · subst e
        refine Or.inr (Or.inr ⟨by unfold q182; rw [p181_t hn y0 hc, bU_ru, p181_t hn y0 hc, bU_ru, if_neg (not_not_intro rfl)], fun t ht => ?_⟩)
        unfold q303
        rw [nI_lit, sp_e]
        have f0' : (sI t 512 0 (nI 0)).1 513 0 = nI n := by rw [t0_513, ht]; exact f0
        rw [m275_t hn f0' hc, bN_rv, if_neg (not_not_intro rfl), m275_t hn f0' hc, bN_rv, if_pos rfl]
        unfold q303_27
        rw [nI_lit, m188_0, bN_rv, nI_lit, if_neg (not_not_intro rfl), if_neg (not_not_intro rfl)]
        unfold q303_45 q303_52
        rw [nI_lit, m188_1, bN_rv, nI_lit, if_neg (by decide), nI_lit]
      · exact Or.inl ⟨c, d, hc, hd, e, rfl, rfl⟩
theorem z_clash (hG : G B s) (v1 v2 : Int32) : ZT B [(2, 20, 1), (0, 24, 2)] (q154 v1 v2) (q304 v1 v2) s := by
  have hG0 := hG
  obtain ⟨⟨hR, hL, T, hT, hA⟩, -⟩ := hG0
  obtain ⟨n, hn, f0, y0, -, y1, y2, -⟩ := hR.2.1
  simp only [Nat.reduceAdd] at y0
  rcases pm182 hn y0 f0 v1 v2 with ⟨c, d, hc, hd, hne, e1, e2⟩ | ⟨h1, h2⟩ | ⟨h1, h2⟩
  · subst e1; subst e2
    refine ZV_0 (v := b2 (clX (s.1 513) c d)) hG ?_ (fun t ht => ?_)
    · unfold q154
      rw [p182_t hn y0 hc hd hne, bU_ru, p5 (by omega) (by omega) y1 y2, bN_rv]
      cases clX (s.1 513) c d <;> simp only [b2_t, b2_f, bN_rv, bM_ru, bV_rv, bV_rx, bU_ru, bU_rx, bN_ite, bM_ite, bV_ite, bU_ite, ↓bx_e, ↓sp_e, gA_ok, gZ_n, gB_0, gB_1, gB_i]
    · unfold q304
      rw [m303_t hn (by rw [ht]; exact f0) hc hd hne, bN_rv, nI_lit, if_neg (not_not_intro rfl), m302 (by omega) (by omega), bN_rv, t0_513, ht]
      exact b2_ite
  · refine ZX_t (x := 2) (u := 2) (w := 20) (c := 1) (v := nI 0) hG (by unfold q154; rw [h1]; rfl) rfl (by omega) (by omega) (fun t ht => ?_)
    unfold q304
    rw [h2 t ht, bN_rv, nI_lit, if_pos (by decide)]
  · refine ZX_t (x := 0) (u := 0) (w := 24) (c := 2) (v := nI 0) hG (by unfold q154; rw [h1]; rfl) rfl (by omega) (by omega) (fun t ht => ?_)
    unfold q304
    rw [h2 t ht, bN_rv, nI_lit, if_pos (by decide)]
end LOOK
