/-! PAIRS: both sides -/
theorem p57_2 {K : Int32 → mS → Option mQ} {v1 : Int32} : ∀ r j k s, j + r = 5 → r < k → ∃ s', q57_2 K k v1 (nI j) s = K v1 s' ∧ F1 125 s s' ∧ (∀ i, j ≤ i → i < 5 → s'.1 125 i = -nI 1) ∧ ∀ i, i < j → s'.1 125 i = s.1 125 i := by
  intro r
  induction r with
  | zero =>
    intro j k s hj hk
    cases k with
    | zero => omega
    | succ k =>
      refine ⟨s, ?_, F1_r, fun i h1 h2 => by omega, fun _ _ => rfl⟩
      simp (disch := omega) only [q57_2, nI_lit, nI_add, pk_mul, nI_clp, nI_eqv, nI_lev, nI_ltv, nI_neg, nI_neg', nI_subv, Nat.add_zero, Nat.zero_add, Nat.mul_zero, Nat.reduceAdd, bN_rv, bM_ru, bV_rv, bV_rx, bU_ru, bU_rx, bN_ite, bM_ite, bV_ite, bU_ite, ↓bx_e, ↓sp_e, gA_ok, gZ_n, gB_0, gB_1, gB_i, and_true, and_false, true_and, false_and, decide_true, decide_false, ↓reduceIte, not_true_eq_false, not_false_eq_true, Bool.false_eq_true, Bool.true_eq_false, Bool.and_true, Bool.and_false, Bool.true_and, Bool.false_and, Bool.or_true, Bool.or_false, Bool.true_or, Bool.false_or, Bool.not_true, Bool.not_false, le_f, le_t, lt_f, lt_t, eq_f, ↓reduceIte, not_true_eq_false, not_false_eq_true, ite_10, bt_0, bt_1]
  | succ r ih =>
    intro j k s hj hk
    cases k with
    | zero => omega
    | succ k =>
      obtain ⟨s', a1, a2, a3, a4⟩ := ih (j + 1) k (sI s 125 j (-nI 1)) (by omega) (by omega)
      refine ⟨s', ?_, F1_t F1_I a2, fun i h1 h2 => ?_, fun i h => by rw [a4 i (by omega), sI_sm, ud_n (by omega)]⟩
      · rw [← a1]
        simp (disch := omega) only [q57_2, nI_lit, nI_add, pk_mul, nI_clp, nI_eqv, nI_lev, nI_ltv, nI_neg, nI_neg', nI_subv, Nat.add_zero, Nat.zero_add, Nat.mul_zero, Nat.reduceAdd, bN_rv, bM_ru, bV_rv, bV_rx, bU_ru, bU_rx, bN_ite, bM_ite, bV_ite, bU_ite, ↓bx_e, ↓sp_e, gA_ok, gZ_n, gB_0, gB_1, gB_i, and_true, and_false, true_and, false_and, decide_true, decide_false, ↓reduceIte, not_true_eq_false, not_false_eq_true, Bool.false_eq_true, Bool.true_eq_false, Bool.and_true, Bool.and_false, Bool.true_and, Bool.false_and, Bool.or_true, Bool.or_false, Bool.true_or, Bool.false_or, Bool.not_true, Bool.not_false, le_f, le_t, lt_f, lt_t, eq_f, ↓reduceIte, not_true_eq_false, not_false_eq_true, ite_10, bt_0, bt_1]
      · by_cases e : i = j
        · subst e; rw [a4 i (by omega), sI_sm, ud_e rfl]
        · exact a3 i (by omega) h2
theorem fl_b : ∀ n, n ≤ 5 → ∀ j, j < 5 → (2 ^ n - 1).testBit j = decide (j < n) := by decide
theorem p57 {s : mS} {n : Nat} {f : Nat → Int32} (hn : n ≤ 5) (y0 : s.1 27 0 = nI n) (h1 : ∀ c, c < 5 → s.1 (27 + 1) c = f (49 + 5 * c)) (h2 : ∀ c, c < 5 → s.1 (27 + 2) c = f (49 + 5 * c + 1)) (v1 : Int32) : ∃ s', (∀ c, c ≠ 123 → c ≠ 125 → c ≠ 126 → s'.1 c = s.1 c) ∧ s'.2 = s.2 ∧ (v1 = -nI 1 → q57 v1 s = rv (nI (pW n (clX f) (wP f) (2 ^ n - 1))) s') ∧ ∀ c, c < 5 → v1 = nI c → q57 v1 s = rv (mP n (clX f) (wP f) (2 ^ n - 1) (fun _ => -nI 1) c) s' := by
  have h32 : 2 ^ n ≤ 32 := (by decide : ∀ n, n ≤ 5 → 2 ^ n ≤ 32) n hn
  have hp : 0 < 2 ^ n := Nat.two_pow_pos n
  obtain ⟨sa, a1, a2, a3, -⟩ := p57_2 (K := q57_20) (v1 := v1) 5 0 10000 s (by omega) (by omega)
  have hP : PS (sI sa 123 4 (-nI 1)) (sI sa 123 4 (-nI 1)) (fun _ => -nI 1) (0, sa.1 126) := by
    refine ⟨fun _ _ _ _ => rfl, rfl, fun j hj => ?_, ?_, fun j hj => ?_, by show 0 ≤ 100001; omega⟩
    · rw [sI_fn (by omega)]; exact a3 j (by omega) hj
    · rw [sI_sm, ud_e rfl]; exact (if_pos rfl : bst 0 = -nI 1).symm
    · rw [sI_fn (by omega)]
  have c : ∀ b, b ≠ 123 → b ≠ 125 → (sI sa 123 4 (-nI 1)).1 b = s.1 b := fun b x y => by rw [sI_fn x, a2.1 b y]
  have H := p58 (s0 := sI sa 123 4 (-nI 1)) (f := f) hn (by rw [c 27 (by omega) (by omega)]; exact y0) (fun j hj => by rw [c _ (by omega) (by omega)]; exact h1 j hj) (fun j hj => by rw [c _ (by omega) (by omega)]; exact h2 j hj) n 0 (2 ^ n - 1) (fun _ => -nI 1) (0, sa.1 126) 0 7 _ (by omega) (by omega) (by omega) (fun j hj => by omega) (fun j x y => by rw [fl_b n hn j y, decide_eq_false (by omega)]) (fun j x y => by rw [fl_b n hn j (by omega), decide_eq_true y, decide_eq_true rfl]) (by omega) hP
  obtain ⟨s', d1, d2⟩ := H
  rw [if_pos (Nat.zero_le _)] at d2
  obtain ⟨e1, e2, e3, e4, e5, e6⟩ := d2
  have ew : s'.1 123 4 = nI (pW n (clX f) (wP f) (2 ^ n - 1)) := by
    rw [e4]
    show bst (0 + pW n (clX f) (wP f) (2 ^ n - 1) + 1) = _
    unfold bst
    rw [if_neg (by omega), Nat.add_sub_cancel, Nat.zero_add]
  refine ⟨s', fun b x y z => by rw [e1 b x y z, c b x y], e2.trans ((Eq.trans rfl rfl : (sI sa 123 4 (-nI 1)).2 = sa.2).trans a2.2), fun e => ?_, fun j hj e => ?_⟩
  · unfold q57
    simp only [nI_lit] at a1 ⊢
    rw [a1]
    unfold q57_20
    simp only [nI_lit, sp_e]
    rw [d1, bM_ru, if_pos (by rw [e]; decide)]
    unfold q57_40
    rw [ew]
  · have e5j : s'.1 126 j = mP n (clX f) (wP f) (2 ^ n - 1) (fun _ => -nI 1) j := e5 j hj
    unfold q57
    simp only [nI_lit] at a1 ⊢
    rw [a1]
    unfold q57_20
    simp only [nI_lit, sp_e]
    rw [d1, bM_ru, e, if_neg (by rw [lt0 (by omega)]; exact fun q => q), if_pos (by rw [nI_ltv (by omega) (by omega)]; exact hj), gA_ok hj (by omega), nI_clp (by omega), e5j]
section LOOK
variable {B : Nat} {s : mS}
theorem z_pairs (hG : G B s) (v1 : Int32) : ZT B [(2, 12, 1)] (q158 v1) (q321 v1) s := by
  have hG0 := hG
  obtain ⟨⟨hR, hL, T, hT, hA⟩, -⟩ := hG0
  obtain ⟨n, hn, f0, y0, -, y1, y2, -, -⟩ := hR.2.1
  simp only [Nat.reduceAdd] at y0
  have h32 : 2 ^ n ≤ 32 := (by decide : ∀ n, n ≤ 5 → 2 ^ n ≤ 32) n hn
  have hp : 0 < 2 ^ n := Nat.two_pow_pos n
  obtain ⟨s1, k1, k2, k3, k4⟩ := p57 (s := s) (f := s.1 513) hn y0 y1 y2 v1
  have hq : Gq s s1 := ⟨fun b _ _ _ _ _ x _ _ _ _ => k1 b (by omega) (by omega) (by omega), fun j _ => by rw [k1 512 (by omega) (by omega) (by omega)]⟩
  have hs := sh_n n hn
  by_cases e : v1 = -nI 1
  · have k3 := k3 e
    subst e
    refine ZV_look (v := nI (pW n (clX (s.1 513)) (wP (s.1 513)) (2 ^ n - 1))) (s1 := s1) hG ?_ k2 hq (fun t ht => ?_)
    · unfold q158 q158_10
      simp only [nI_lit]
      rw [if_pos trivial, k3, bN_rv]
    · have e5 : (sI t 512 0 (nI 0)).1 513 = s.1 513 := by rw [t0_513, ht, k1 513 (by omega) (by omega) (by omega)]
      obtain ⟨t', a1, a2, a3⟩ := m320 (t := sI t 512 0 (nI 0)) hn e5 f0
      have e0 : t'.1 513 0 = nI n := by rw [a2.1 513 (by omega), e5]; exact f0
      have a3f := a3 (2 ^ n - 1) (by omega)
      refine ⟨t', ?_, a2.2.trans (Eq.trans rfl rfl), by rw [a2.1 512 (by omega)]; exact t0_0, Gq_t Gq_0 ⟨fun b _ _ _ _ _ _ _ _ _ y => a2.1 b (by omega), fun j _ => by rw [a2.1 512 (by omega)]⟩⟩
      unfold q321 q321_23 q321_24
      simp (disch := omega) only [m188_0, a1, e0, hs, a3f, nI_lit, nI_add, pk_mul, nI_clp, nI_eqv, nI_lev, nI_ltv, nI_neg, nI_neg', nI_subv, Nat.add_zero, Nat.zero_add, Nat.mul_zero, Nat.reduceAdd, bN_rv, bM_ru, bV_rv, bV_rx, bU_ru, bU_rx, bN_ite, bM_ite, bV_ite, bU_ite, ↓bx_e, ↓sp_e, gA_ok, gZ_n, gB_0, gB_1, gB_i, and_true, and_false, true_and, false_and, decide_true, decide_false, ↓reduceIte, not_true_eq_false, not_false_eq_true, Bool.false_eq_true, Bool.true_eq_false, Bool.and_true, Bool.and_false, Bool.true_and, Bool.false_and, Bool.or_true, Bool.or_false, Bool.true_or, Bool.false_or, Bool.not_true, Bool.not_false, le_f, le_t, lt_f, lt_t, eq_f, ↓reduceIte, not_true_eq_false, not_false_eq_true, ite_10, bt_0, bt_1, q198, q199, q200, q201, q202, q203, q204, m190, m205, m206, b2_0, q189, q187]
  · rcases ix_of v1 n (by omega) with h | h | ⟨c, hc, e'⟩
    · refine ZX_t (x := 2) (u := 2) (w := 12) (c := 1) (v := nI 0) hG ?_ rfl (by omega) (by omega) (fun t ht => ?_)
      · unfold q158
        simp only [nI_lit]
        rw [if_neg e, p181_f y0 (Or.inl h)]; rfl
      · unfold q321 q321_24
        simp only [nI_lit, sp_e]
        rw [if_neg e, m275_f hn (by rw [t0_513, ht]; exact f0) (Or.inl h), bN_rv, if_neg (by decide), m188_1, bN_rv, if_neg (by decide)]
    · refine ZX_t (x := 2) (u := 2) (w := 12) (c := 1) (v := nI 0) hG ?_ rfl (by omega) (by omega) (fun t ht => ?_)
      · unfold q158
        simp only [nI_lit]
        rw [if_neg e, p181_f y0 (Or.inr h)]; rfl
      · unfold q321 q321_24
        simp only [nI_lit, sp_e]
        rw [if_neg e, m275_f hn (by rw [t0_513, ht]; exact f0) (Or.inr h), bN_rv, if_neg (by decide), m188_1, bN_rv, if_neg (by decide)]
    · have k4 := k4 c (by omega) e'
      subst e'
      refine ZV_look (v := mP n (clX (s.1 513)) (wP (s.1 513)) (2 ^ n - 1) (fun _ => -nI 1) c) (s1 := s1) hG ?_ k2 hq (fun t ht => ?_)
      · unfold q158 q158_10
        simp only [nI_lit]
        rw [if_neg e, p181_t hn y0 hc, bU_ru, k4, bN_rv]
      · have e5 : (sI t 512 0 (nI 0)).1 513 = s.1 513 := by rw [t0_513, ht, k1 513 (by omega) (by omega) (by omega)]
        obtain ⟨t', a1, a2, a3⟩ := m320 (t := sI t 512 0 (nI 0)) hn e5 f0
        have e5' : t'.1 513 = s.1 513 := by rw [a2.1 513 (by omega), e5]
        have e0 : t'.1 513 0 = nI n := by rw [e5']; exact f0
        have k275 := m275_t (t := sI t 512 0 (nI 0)) hn (by rw [e5]; exact f0) hc
        have k63 := m321_63 (n := n) hn e5' (show c < 5 by omega) a3 (2 ^ n - 1) (2 ^ n - 1) 10000 (fun _ => -nI 1) (-nI 1) (Nat.le_refl _) (by omega) (by omega) (by rw [fl_b n hn c (by omega), decide_eq_true hc]) rfl
        refine ⟨t', ?_, a2.2.trans (Eq.trans rfl rfl), by rw [a2.1 512 (by omega)]; exact t0_0, Gq_t Gq_0 ⟨fun b _ _ _ _ _ _ _ _ _ y => a2.1 b (by omega), fun j _ => by rw [a2.1 512 (by omega)]⟩⟩
        unfold q321 q321_23 q321_24
        simp (disch := omega) only [k275, m188_0, a1, e0, hs, k63, nI_lit, nI_add, pk_mul, nI_clp, nI_eqv, nI_lev, nI_ltv, nI_neg, nI_neg', nI_subv, Nat.add_zero, Nat.zero_add, Nat.mul_zero, Nat.reduceAdd, bN_rv, bM_ru, bV_rv, bV_rx, bU_ru, bU_rx, bN_ite, bM_ite, bV_ite, bU_ite, ↓bx_e, ↓sp_e, gA_ok, gZ_n, gB_0, gB_1, gB_i, and_true, and_false, true_and, false_and, decide_true, decide_false, ↓reduceIte, not_true_eq_false, not_false_eq_true, Bool.false_eq_true, Bool.true_eq_false, Bool.and_true, Bool.and_false, Bool.true_and, Bool.false_and, Bool.or_true, Bool.or_false, Bool.true_or, Bool.false_or, Bool.not_true, Bool.not_false, le_f, le_t, lt_f, lt_t, eq_f, ↓reduceIte, not_true_eq_false, not_false_eq_true, ite_10, bt_0, bt_1, q198, q199, q200, q201, q202, q203, q204, m190, m205, m206, b2_0, q189, q187]
end LOOK
