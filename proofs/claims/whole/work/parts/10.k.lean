/-! TWINS, LED -/
section LOOK
variable {B : Nat} {s : mS}
def twP (f : Nat → Int32) (i j : Nat) : Bool := decide (f (49 + 5 * i) = f (49 + 5 * j)) && decide (f (49 + 5 * i + 1) = f (49 + 5 * j + 1))
def twI (f : Nat → Int32) (i : Nat) (b : Int32) : Int32 := fo (fun j b => if twP f i j = true then b + nI 1 else b) i 0 b
theorem z_twins (hG : G B s) : ZN B q163 q331 s := by
  have hG0 := hG
  obtain ⟨⟨hR, hL, T, hT, hA⟩, -⟩ := hG0
  obtain ⟨n, hn, f0, y0, -, y1, y2, -, -⟩ := hR.2.1
  simp only [Nat.reduceAdd] at y0 y1 y2
  refine ZN_0 (v := fo (fun i b => twI (s.1 513) i b) n 0 (nI 0)) hG ?_ (fun t ht => ?_)
  · unfold q163 q11
    simp only [Nat.reduceAdd]
    rw [nI_lit]
    have := lp_fo (Q := fun k b i => q11_4 27 k b i s) (out := fun b => rv b s) (g := fun i b => twI (s.1 513) i b) (e := n) (fun k b => by simp (disch := omega) only [q11_4, y0, nI_lit, nI_add, pk_mul, nI_clp, nI_eqv, nI_lev, nI_ltv, nI_neg, nI_neg', nI_subv, Nat.add_zero, Nat.zero_add, Nat.mul_zero, Nat.reduceAdd, bN_rv, bM_ru, bV_rv, bV_rx, bU_ru, bU_rx, bN_ite, bM_ite, bV_ite, bU_ite, ↓bx_e, ↓sp_e, gA_ok, gZ_n, gB_0, gB_1, gB_i, and_true, and_false, true_and, false_and, decide_true, decide_false, ↓reduceIte, not_true_eq_false, not_false_eq_true, Bool.false_eq_true, Bool.true_eq_false, Bool.and_true, Bool.and_false, Bool.true_and, Bool.false_and, Bool.or_true, Bool.or_false, Bool.true_or, Bool.false_or, Bool.not_true, Bool.not_false, le_f, le_t, lt_f, lt_t, eq_f, ↓reduceIte, not_true_eq_false, not_false_eq_true, ite_10, bt_0, bt_1]) (fun k i b hi => by
      simp (disch := omega) only [q11_4, y0, nI_lit, nI_add, pk_mul, nI_clp, nI_eqv, nI_lev, nI_ltv, nI_neg, nI_neg', nI_subv, Nat.add_zero, Nat.zero_add, Nat.mul_zero, Nat.reduceAdd, bN_rv, bM_ru, bV_rv, bV_rx, bU_ru, bU_rx, bN_ite, bM_ite, bV_ite, bU_ite, ↓bx_e, ↓sp_e, gA_ok, gZ_n, gB_0, gB_1, gB_i, and_true, and_false, true_and, false_and, decide_true, decide_false, ↓reduceIte, not_true_eq_false, not_false_eq_true, Bool.false_eq_true, Bool.true_eq_false, Bool.and_true, Bool.and_false, Bool.true_and, Bool.false_and, Bool.or_true, Bool.or_false, Bool.true_or, Bool.false_or, Bool.not_true, Bool.not_false, le_f, le_t, lt_f, lt_t, eq_f, ↓reduceIte, not_true_eq_false, not_false_eq_true, ite_10, bt_0, bt_1]
      have := lp_fo (Q := fun m b j => q11_14 (q11_58 (q11_4 27 k) 27) 27 m b (nI i) j s) (out := fun b => q11_4 27 k b (nI (i + 1)) s) (g := fun j b => if twP (s.1 513) i j = true then b + nI 1 else b) (e := i) (fun m b => by simp (disch := omega) only [q11_14, q11_58, nI_lit, nI_add, pk_mul, nI_clp, nI_eqv, nI_lev, nI_ltv, nI_neg, nI_neg', nI_subv, Nat.add_zero, Nat.zero_add, Nat.mul_zero, Nat.reduceAdd, bN_rv, bM_ru, bV_rv, bV_rx, bU_ru, bU_rx, bN_ite, bM_ite, bV_ite, bU_ite, ↓bx_e, ↓sp_e, gA_ok, gZ_n, gB_0, gB_1, gB_i, and_true, and_false, true_and, false_and, decide_true, decide_false, ↓reduceIte, not_true_eq_false, not_false_eq_true, Bool.false_eq_true, Bool.true_eq_false, Bool.and_true, Bool.and_false, Bool.true_and, Bool.false_and, Bool.or_true, Bool.or_false, Bool.true_or, Bool.false_or, Bool.not_true, Bool.not_false, le_f, le_t, lt_f, lt_t, eq_f, ↓reduceIte, not_true_eq_false, not_false_eq_true, ite_10, bt_0, bt_1]) (fun m j b hj => by
        have a1 := y1 i (by omega)
        have a2 := y2 i (by omega)
        have b1 := y1 j (by omega)
        have b2 := y2 j (by omega)
        unfold twP
        simp (disch := omega) only [q11_14, q11_52, a1, a2, b1, b2, nI_lit, nI_add, pk_mul, nI_clp, nI_eqv, nI_lev, nI_ltv, nI_neg, nI_neg', nI_subv, Nat.add_zero, Nat.zero_add, Nat.mul_zero, Nat.reduceAdd, bN_rv, bM_ru, bV_rv, bV_rx, bU_ru, bU_rx, bN_ite, bM_ite, bV_ite, bU_ite, ↓bx_e, ↓sp_e, gA_ok, gZ_n, gB_0, gB_1, gB_i, and_true, and_false, true_and, false_and, decide_true, decide_false, ↓reduceIte, not_true_eq_false, not_false_eq_true, Bool.false_eq_true, Bool.true_eq_false, Bool.and_true, Bool.and_false, Bool.true_and, Bool.false_and, Bool.or_true, Bool.or_false, Bool.true_or, Bool.false_or, Bool.not_true, Bool.not_false, le_f, le_t, lt_f, lt_t, eq_f, ↓reduceIte, not_true_eq_false, not_false_eq_true, ite_10, bt_0, bt_1]
        by_cases q : s.1 513 (49 + 5 * i) = s.1 513 (49 + 5 * j) <;> by_cases q2 : s.1 513 (49 + 5 * i + 1) = s.1 513 (49 + 5 * j + 1) <;> simp only [q, q2, and_true, and_false, true_and, false_and, decide_true, decide_false, ↓reduceIte, not_true_eq_false, not_false_eq_true, Bool.false_eq_true, Bool.true_eq_false, Bool.and_true, Bool.and_false, Bool.true_and, Bool.false_and, Bool.or_true, Bool.or_false, Bool.true_or, Bool.false_or, Bool.not_true, Bool.not_false]) b 10000 (by omega)
      exact this) (nI 0) 10000 (by omega)
    rw [this, bN_rv]
  · have e5 : (sI t 512 0 (nI 0)).1 513 = s.1 513 := by rw [t0_513, ht]
    have f0' : (sI t 512 0 (nI 0)).1 513 0 = nI n := by rw [e5]; exact f0
    unfold q331
    rw [nI_lit]; simp only [sp_e]
    generalize sI t 512 0 (nI 0) = u at *
    refine lp_fo (Q := fun k b i => q331_9 k b i u) (out := fun b => rv b u) (g := fun i b => twI (s.1 513) i b) (e := n) (fun k b => by simp (disch := omega) only [q331_9, f0', nI_lit, nI_add, pk_mul, nI_clp, nI_eqv, nI_lev, nI_ltv, nI_neg, nI_neg', nI_subv, Nat.add_zero, Nat.zero_add, Nat.mul_zero, Nat.reduceAdd, bN_rv, bM_ru, bV_rv, bV_rx, bU_ru, bU_rx, bN_ite, bM_ite, bV_ite, bU_ite, ↓bx_e, ↓sp_e, gA_ok, gZ_n, gB_0, gB_1, gB_i, and_true, and_false, true_and, false_and, decide_true, decide_false, ↓reduceIte, not_true_eq_false, not_false_eq_true, Bool.false_eq_true, Bool.true_eq_false, Bool.and_true, Bool.and_false, Bool.true_and, Bool.false_and, Bool.or_true, Bool.or_false, Bool.true_or, Bool.false_or, Bool.not_true, Bool.not_false, le_f, le_t, lt_f, lt_t, eq_f, ↓reduceIte, not_true_eq_false, not_false_eq_true, ite_10, bt_0, bt_1, q198, q199, q200, q201, q202, q203, q204, m190, m205, m206, b2_0, q189, q187]) (fun k i b hi => by
      simp (disch := omega) only [q331_9, f0', nI_lit, nI_add, pk_mul, nI_clp, nI_eqv, nI_lev, nI_ltv, nI_neg, nI_neg', nI_subv, Nat.add_zero, Nat.zero_add, Nat.mul_zero, Nat.reduceAdd, bN_rv, bM_ru, bV_rv, bV_rx, bU_ru, bU_rx, bN_ite, bM_ite, bV_ite, bU_ite, ↓bx_e, ↓sp_e, gA_ok, gZ_n, gB_0, gB_1, gB_i, and_true, and_false, true_and, false_and, decide_true, decide_false, ↓reduceIte, not_true_eq_false, not_false_eq_true, Bool.false_eq_true, Bool.true_eq_false, Bool.and_true, Bool.and_false, Bool.true_and, Bool.false_and, Bool.or_true, Bool.or_false, Bool.true_or, Bool.false_or, Bool.not_true, Bool.not_false, le_f, le_t, lt_f, lt_t, eq_f, ↓reduceIte, not_true_eq_false, not_false_eq_true, ite_10, bt_0, bt_1, q198, q199, q200, q201, q202, q203, q204, m190, m205, m206, b2_0, q189, q187]
      have := lp_fo (Q := fun m b j => q331_19 (q331_68 (q331_9 k)) m b (nI i) j u) (out := fun b => q331_9 k b (nI (i + 1)) u) (g := fun j b => if twP (s.1 513) i j = true then b + nI 1 else b) (e := i) (fun m b => by simp (disch := omega) only [q331_19, q331_68, nI_lit, nI_add, pk_mul, nI_clp, nI_eqv, nI_lev, nI_ltv, nI_neg, nI_neg', nI_subv, Nat.add_zero, Nat.zero_add, Nat.mul_zero, Nat.reduceAdd, bN_rv, bM_ru, bV_rv, bV_rx, bU_ru, bU_rx, bN_ite, bM_ite, bV_ite, bU_ite, ↓bx_e, ↓sp_e, gA_ok, gZ_n, gB_0, gB_1, gB_i, and_true, and_false, true_and, false_and, decide_true, decide_false, ↓reduceIte, not_true_eq_false, not_false_eq_true, Bool.false_eq_true, Bool.true_eq_false, Bool.and_true, Bool.and_false, Bool.true_and, Bool.false_and, Bool.or_true, Bool.or_false, Bool.true_or, Bool.false_or, Bool.not_true, Bool.not_false, le_f, le_t, lt_f, lt_t, eq_f, ↓reduceIte, not_true_eq_false, not_false_eq_true, ite_10, bt_0, bt_1]) (fun m j b hj => by
        have hz : b + nI 0 = b := by rw [nI_0, Int32.add_zero]
        unfold twP
        simp (disch := omega) only [q331_19, q331_59, q331_60, e5, hz, nI_lit, nI_add, pk_mul, nI_clp, nI_eqv, nI_lev, nI_ltv, nI_neg, nI_neg', nI_subv, Nat.add_zero, Nat.zero_add, Nat.mul_zero, Nat.reduceAdd, bN_rv, bM_ru, bV_rv, bV_rx, bU_ru, bU_rx, bN_ite, bM_ite, bV_ite, bU_ite, ↓bx_e, ↓sp_e, gA_ok, gZ_n, gB_0, gB_1, gB_i, and_true, and_false, true_and, false_and, decide_true, decide_false, ↓reduceIte, not_true_eq_false, not_false_eq_true, Bool.false_eq_true, Bool.true_eq_false, Bool.and_true, Bool.and_false, Bool.true_and, Bool.false_and, Bool.or_true, Bool.or_false, Bool.true_or, Bool.false_or, Bool.not_true, Bool.not_false, le_f, le_t, lt_f, lt_t, eq_f, ↓reduceIte, not_true_eq_false, not_false_eq_true, ite_10, bt_0, bt_1, q198, q199, q200, q201, q202, q203, q204, m190, m205, m206, b2_0, q189, q187]
        by_cases q : s.1 513 (49 + 5 * i) = s.1 513 (49 + 5 * j) <;> by_cases q2 : s.1 513 (49 + 5 * i + 1) = s.1 513 (49 + 5 * j + 1) <;> simp only [q, q2, and_true, and_false, true_and, false_and, decide_true, decide_false, ↓reduceIte, not_true_eq_false, not_false_eq_true, Bool.false_eq_true, Bool.true_eq_false, Bool.and_true, Bool.and_false, Bool.true_and, Bool.false_and, Bool.or_true, Bool.or_false, Bool.true_or, Bool.false_or, Bool.not_true, Bool.not_false]) b 10000 (by omega)
      exact this) (nI 0) 10000 (by omega)
def lgP (f : Nat → Int32) (v : Int32) (g : Nat) : Bool := decide (f (530 + 4 * g + 1) = v) && (!(decide (f (530 + 4 * g + 2) < nI 1)) && !(decide (nI 3 < f (530 + 4 * g + 2))))
def cnt (p : Nat → Bool) : Nat → Nat → Nat
  | 0, _ => 0
  | m + 1, i => (if p i = true then 1 else 0) + cnt p m (i + 1)
theorem cnt_a {p : Nat → Bool} : ∀ m i, cnt p (m + 1) i = cnt p m i + (if p (i + m) = true then 1 else 0) := by
  intro m
  induction m with
  | zero => intro i; rw [cnt, cnt, cnt]; simp only [Nat.add_zero, Nat.zero_add]
  | succ m ih => intro i; rw [cnt, ih, cnt, show i + 1 + m = i + (m + 1) by omega]; omega
theorem fo_cnt {p : Nat → Bool} : ∀ m i b, fo (fun g b => if p g = true then b + nI 1 else b) m i (nI b) = nI (b + cnt p m i) := by
  intro m
  induction m with
  | zero => intro i b; rfl
  | succ m ih =>
    intro i b
    rw [fo, cnt]
    by_cases h : p i = true
    · simp only [h, ↓reduceIte]; rw [nI_add, ih, Nat.add_assoc]
    · simp only [h, ↓reduceIte, Bool.false_eq_true]; rw [ih, Nat.zero_add]
theorem fd_cnt {p : Nat → Bool} {v : Nat → Int32} : ∀ m (a : Nat) (c : Int32), fd (fun g (b : Int32 × Int32) => if p g = true then (b.1 + nI 1, v g) else b) m (nI a, c) = (nI (a + cnt p m 0), match fs p m 0 with
    | none => c
    | some j => v j) := by
  intro m
  induction m with
  | zero => intro a c; rfl
  | succ m ih =>
    intro a c
    rw [fd, cnt_a, fs_app, Nat.zero_add]
    by_cases h : p m = true
    · simp only [h, ↓reduceIte]; rw [nI_add, ih]
      cases fs p m 0 <;> simp only [Nat.add_assoc, Nat.add_comm 1]
    · simp only [h, ↓reduceIte, Bool.false_eq_true]; rw [ih]
      cases fs p m 0 <;> simp only [Nat.add_zero]
theorem z_led (hG : G B s) (v1 v2 : Int32) : ZT B [(2, 13, 1)] (q152 v1 v2) (q336 v1 v2) s := by
  have hG0 := hG
  obtain ⟨⟨hR, hL, T, hT, hA⟩, -⟩ := hG0
  obtain ⟨n, hn, f0, y0, -⟩ := hR.2.1
  simp only [Nat.reduceAdd] at y0
  have bad : (v1 < nI 0 ∨ nI n ≤ v1) → ZT B [(2, 13, 1)] (q152 v1 v2) (q336 v1 v2) s := fun h =>
    ZX_t (x := 2) (u := 2) (w := 13) (c := 1) (v := nI 0) hG (by unfold q152; rw [p181_f y0 h]; rfl) rfl (by omega) (by omega) (fun t ht => by
      unfold q336
      rw [nI_lit, nI_lit]; simp only [sp_e]
      rw [m275_f hn (by rw [t0_513, ht]; exact f0) h, bN_rv, m188_1, bN_rv, if_neg (by decide)])
  rcases ix_of v1 n (by omega) with h | h | ⟨c, hc, e⟩
  · exact bad (Or.inl h)
  · exact bad (Or.inr h)
  · subst e
    obtain ⟨m, x, hm, hx, f6, z0, z1, hq⟩ := hR.2.2.2.1
    have hLg := hR.2.2.2.1
    simp only [Nat.reduceAdd] at z0 hLg
    refine ZV_0 (v := if v2 = nI 0 then nI (cnt (lgP (s.1 513) (nI c)) m 0) else match fs (lgP (s.1 513) (nI c)) m 0 with
      | none => -nI 1
      | some j => s.1 513 (530 + 4 * j)) hG ?_ (fun t ht => ?_)
    · have p45 : ∀ g, g < m → q45 52 (nI g) (nI c) s = rv (b2 (lgP (s.1 513) (nI c) g)) s := fun g hg => by
        unfold q45 lgP
        have k1 := p44 (s := s) hLg hm f6 hg (w := 1) (by omega)
        have k2 := p44 (s := s) hLg hm f6 hg (w := 2) (by omega)
        simp only [nI_lit, k1, k2, bN_rv]
        by_cases q : s.1 513 (530 + 4 * g + 1) = nI c <;> by_cases q2 : s.1 513 (530 + 4 * g + 2) < nI 1 <;> by_cases q3 : nI 3 < s.1 513 (530 + 4 * g + 2) <;> simp only [q, q2, q3, b2_t, b2_f, and_true, and_false, true_and, false_and, decide_true, decide_false, ↓reduceIte, not_true_eq_false, not_false_eq_true, Bool.false_eq_true, Bool.true_eq_false, Bool.and_true, Bool.and_false, Bool.true_and, Bool.false_and, Bool.or_true, Bool.or_false, Bool.true_or, Bool.false_or, Bool.not_true, Bool.not_false]
      unfold q152
      rw [p181_t hn y0 hc, bU_ru, nI_lit]
      by_cases hv : v2 = nI 0
      · rw [if_pos hv, if_pos hv]
        have : q46 52 (nI c) s = rv (nI (cnt (lgP (s.1 513) (nI c)) m 0)) s := by
          have e0 := fo_cnt (p := lgP (s.1 513) (nI c)) m 0 0
          rw [Nat.zero_add] at e0
          rw [← e0]
          unfold q46
          rw [nI_lit]
          refine lp_fo (Q := fun k b i => q46_4 52 k (nI c) b i s) (out := fun b => rv b s) (fun k b => ?_) (fun k i b hi => ?_) (nI 0) 10000 (by omega)
          · simp (disch := omega) only [q46_4, z0, nI_lit, nI_add, pk_mul, nI_clp, nI_eqv, nI_lev, nI_ltv, nI_neg, nI_neg', nI_subv, Nat.add_zero, Nat.zero_add, Nat.mul_zero, Nat.reduceAdd, bN_rv, bM_ru, bV_rv, bV_rx, bU_ru, bU_rx, bN_ite, bM_ite, bV_ite, bU_ite, ↓bx_e, ↓sp_e, gA_ok, gZ_n, gB_0, gB_1, gB_i, and_true, and_false, true_and, false_and, decide_true, decide_false, ↓reduceIte, not_true_eq_false, not_false_eq_true, Bool.false_eq_true, Bool.true_eq_false, Bool.and_true, Bool.and_false, Bool.true_and, Bool.false_and, Bool.or_true, Bool.or_false, Bool.true_or, Bool.false_or, Bool.not_true, Bool.not_false, le_f, le_t, lt_f, lt_t, eq_f, ↓reduceIte, not_true_eq_false, not_false_eq_true, ite_10, bt_0, bt_1]
          · simp (disch := omega) only [q46_4, q46_24, z0, p45, b2_0, nI_lit, nI_add, pk_mul, nI_clp, nI_eqv, nI_lev, nI_ltv, nI_neg, nI_neg', nI_subv, Nat.add_zero, Nat.zero_add, Nat.mul_zero, Nat.reduceAdd, bN_rv, bM_ru, bV_rv, bV_rx, bU_ru, bU_rx, bN_ite, bM_ite, bV_ite, bU_ite, ↓bx_e, ↓sp_e, gA_ok, gZ_n, gB_0, gB_1, gB_i, and_true, and_false, true_and, false_and, decide_true, decide_false, ↓reduceIte, not_true_eq_false, not_false_eq_true, Bool.false_eq_true, Bool.true_eq_false, Bool.and_true, Bool.and_false, Bool.true_and, Bool.false_and, Bool.or_true, Bool.or_false, Bool.true_or, Bool.false_or, Bool.not_true, Bool.not_false, le_f, le_t, lt_f, lt_t, eq_f, ↓reduceIte, not_true_eq_false, not_false_eq_true, ite_10, bt_0, bt_1]
            cases lgP (s.1 513) (nI c) i <;> simp only [and_true, and_false, true_and, false_and, decide_true, decide_false, ↓reduceIte, not_true_eq_false, not_false_eq_true, Bool.false_eq_true, Bool.true_eq_false, Bool.and_true, Bool.and_false, Bool.true_and, Bool.false_and, Bool.or_true, Bool.or_false, Bool.true_or, Bool.false_or, Bool.not_true, Bool.not_false]
        simp only [Nat.reduceAdd, this, bN_rv]
      · rw [if_neg hv, if_neg hv]
        have : q47 52 (nI c) s = rv (match fs (lgP (s.1 513) (nI c)) m 0 with
            | none => -nI 1
            | some j => s.1 513 (530 + 4 * j)) s := by
          unfold q47
          rw [nI_lit]
          have := lp_fs (Q := fun k i => q47_2 (q47_19 52) 52 k (nI c) i s) (p := lgP (s.1 513) (nI c)) (e := m) (no := rv (-nI 1) s) (yes := fun j => q47_19 52 (nI j) s) (fun k => by simp (disch := omega) only [q47_2, z0, nI_lit, nI_add, pk_mul, nI_clp, nI_eqv, nI_lev, nI_ltv, nI_neg, nI_neg', nI_subv, Nat.add_zero, Nat.zero_add, Nat.mul_zero, Nat.reduceAdd, bN_rv, bM_ru, bV_rv, bV_rx, bU_ru, bU_rx, bN_ite, bM_ite, bV_ite, bU_ite, ↓bx_e, ↓sp_e, gA_ok, gZ_n, gB_0, gB_1, gB_i, and_true, and_false, true_and, false_and, decide_true, decide_false, ↓reduceIte, not_true_eq_false, not_false_eq_true, Bool.false_eq_true, Bool.true_eq_false, Bool.and_true, Bool.and_false, Bool.true_and, Bool.false_and, Bool.or_true, Bool.or_false, Bool.true_or, Bool.false_or, Bool.not_true, Bool.not_false, le_f, le_t, lt_f, lt_t, eq_f, ↓reduceIte, not_true_eq_false, not_false_eq_true, ite_10, bt_0, bt_1]) (fun k i hi => by
            simp (disch := omega) only [q47_2, z0, p45, b2_0, nI_lit, nI_add, pk_mul, nI_clp, nI_eqv, nI_lev, nI_ltv, nI_neg, nI_neg', nI_subv, Nat.add_zero, Nat.zero_add, Nat.mul_zero, Nat.reduceAdd, bN_rv, bM_ru, bV_rv, bV_rx, bU_ru, bU_rx, bN_ite, bM_ite, bV_ite, bU_ite, ↓bx_e, ↓sp_e, gA_ok, gZ_n, gB_0, gB_1, gB_i, and_true, and_false, true_and, false_and, decide_true, decide_false, ↓reduceIte, not_true_eq_false, not_false_eq_true, Bool.false_eq_true, Bool.true_eq_false, Bool.and_true, Bool.and_false, Bool.true_and, Bool.false_and, Bool.or_true, Bool.or_false, Bool.true_or, Bool.false_or, Bool.not_true, Bool.not_false, le_f, le_t, lt_f, lt_t, eq_f, ↓reduceIte, not_true_eq_false, not_false_eq_true, ite_10, bt_0, bt_1]
            cases lgP (s.1 513) (nI c) i <;> simp only [and_true, and_false, true_and, false_and, decide_true, decide_false, ↓reduceIte, not_true_eq_false, not_false_eq_true, Bool.false_eq_true, Bool.true_eq_false, Bool.and_true, Bool.and_false, Bool.true_and, Bool.false_and, Bool.or_true, Bool.or_false, Bool.true_or, Bool.false_or, Bool.not_true, Bool.not_false]) m 0 10000 (by omega) (by omega)
          refine this.trans ?_
          cases e : fs (lgP (s.1 513) (nI c)) m 0 with
          | none => rfl
          | some j =>
            dsimp only
            have hj := (fs_some e).2.1
            unfold q47_19
            rw [nI_lit, p44 (s := s) hLg hm f6 (show j < m by omega) (w := 0) (by omega), bN_rv]
            rfl
        simp only [Nat.reduceAdd, this, bN_rv]
    · have e5 : (sI t 512 0 (nI 0)).1 513 = s.1 513 := by rw [t0_513, ht]
      unfold q336
      rw [nI_lit, nI_lit]; simp only [sp_e]
      rw [m275_t hn (by rw [e5]; exact f0) hc, bN_rv, m188_0, bN_rv, if_pos rfl]
      generalize sI t 512 0 (nI 0) = u at *
      have f6' : u.1 513 6 = nI m := by rw [e5]; exact f6
      simp (disch := omega) only [nI_lit, nI_clp, gA_ok, f6', bx_e]
      have fin : ∀ b : Int32 × Int32, b = (nI (cnt (lgP (s.1 513) (nI c)) m 0), match fs (lgP (s.1 513) (nI c)) m 0 with
          | none => -nI 1
          | some j => s.1 513 (530 + 4 * j)) → q336_88 v2 b.1 b.2 u = rv (if v2 = nI 0 then nI (cnt (lgP (s.1 513) (nI c)) m 0) else match fs (lgP (s.1 513) (nI c)) m 0 with
          | none => -nI 1
          | some j => s.1 513 (530 + 4 * j)) u := fun b hb => by
        subst hb
        unfold q336_88
        rw [nI_lit]
        by_cases hv : v2 = nI 0
        · rw [if_pos hv, if_pos hv]
        · rw [if_neg hv, if_neg hv]
      have st : ∀ k i (b : Int32 × Int32), i < m → q336_36 q336_88 (k + 1) (nI c) v2 b.1 b.2 (nI i) u = q336_36 q336_88 k (nI c) v2 (if lgP (s.1 513) (nI c) i = true then (b.1 + nI 1, s.1 513 (530 + 4 * i)) else b).1 (if lgP (s.1 513) (nI c) i = true then (b.1 + nI 1, s.1 513 (530 + 4 * i)) else b).2 (nI i + -nI 1) u := fun k i b hi => by
        unfold lgP
        simp (disch := omega) only [q336_36, q336_82, q335, e5, nI_lit, nI_add, pk_mul, nI_clp, nI_eqv, nI_lev, nI_ltv, nI_neg, nI_neg', nI_subv, Nat.add_zero, Nat.zero_add, Nat.mul_zero, Nat.reduceAdd, bN_rv, bM_ru, bV_rv, bV_rx, bU_ru, bU_rx, bN_ite, bM_ite, bV_ite, bU_ite, ↓bx_e, ↓sp_e, gA_ok, gZ_n, gB_0, gB_1, gB_i, and_true, and_false, true_and, false_and, decide_true, decide_false, ↓reduceIte, not_true_eq_false, not_false_eq_true, Bool.false_eq_true, Bool.true_eq_false, Bool.and_true, Bool.and_false, Bool.true_and, Bool.false_and, Bool.or_true, Bool.or_false, Bool.true_or, Bool.false_or, Bool.not_true, Bool.not_false, le_f, le_t, lt_f, lt_t, eq_f, ↓reduceIte, not_true_eq_false, not_false_eq_true, ite_10, bt_0, bt_1, q198, q199, q200, q201, q202, q203, q204, m190, m205, m206, b2_0, q189, q187]
        by_cases q : s.1 513 (530 + 4 * i + 1) = nI c <;> by_cases q2 : s.1 513 (530 + 4 * i + 2) < nI 1 <;> by_cases q3 : nI 3 < s.1 513 (530 + 4 * i + 2) <;> simp only [q, q2, q3, and_true, and_false, true_and, false_and, decide_true, decide_false, ↓reduceIte, not_true_eq_false, not_false_eq_true, Bool.false_eq_true, Bool.true_eq_false, Bool.and_true, Bool.and_false, Bool.true_and, Bool.false_and, Bool.or_true, Bool.or_false, Bool.true_or, Bool.false_or, Bool.not_true, Bool.not_false]
      rcases Nat.eq_zero_or_pos m with e | hp
      · subst e
        have : nI 0 - nI 1 = -nI 1 := by decide
        rw [this, show (10000 : Nat) = 9999 + 1 from rfl, q336_36]
        have hneg : -nI 1 < nI 0 := by decide
        simp only [nI_lit, hneg, ↓reduceIte]
        exact fin _ rfl
      · rw [nI_subv (by omega)]
        have := lp_fd (Q := fun k (b : Int32 × Int32) i => q336_36 q336_88 k (nI c) v2 b.1 b.2 i u) (g := fun i b => if lgP (s.1 513) (nI c) i = true then (b.1 + nI 1, s.1 513 (530 + 4 * i)) else b) (e := m) (out := fun b => q336_88 v2 b.1 b.2 u) (fun k b => by
            have hneg : -nI 1 < nI 0 := by decide
            rw [q336_36]; simp only [nI_lit, hneg, ↓reduceIte]) (fun k b => by
            have := st k 0 b hp
            refine this.trans ?_
            rw [show nI 0 + -nI 1 = -nI 1 by decide]) (fun k i b hi => by
            have := st k (i + 1) b hi
            refine this.trans ?_
            rw [nI_dec]) (m - 1) (nI 0, -nI 1) 10000 (by omega) (by omega)
        refine this.trans ?_
        rw [Nat.sub_add_cancel hp]
        refine fin _ ?_
        have := fd_cnt (p := lgP (s.1 513) (nI c)) (v := fun i => s.1 513 (530 + 4 * i)) m 0 (-nI 1)
        rw [Nat.zero_add] at this
        exact this
end LOOK
