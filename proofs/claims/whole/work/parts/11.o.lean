/-! SPAN -/
def spL (D : Nat → Int32) : Nat → Nat → Int32 → Int32
  | 0, _, lo => lo
  | m + 1, v, lo => spL D m (v + 1) (if v = 1 then D v else mnI lo (D v))
def spH (D : Nat → Int32) : Nat → Nat → Int32 → Int32
  | 0, _, hi => hi
  | m + 1, v, hi => spH D m (v + 1) (mxI hi (D v))
def spR (D : Nat → Int32) (w : Int32) : Nat → Nat → Int32 → Int32
  | 0, _, b => b
  | m + 1, v, b => spR D w m (v + 1) (if nI 0 ≤ b then (if w = nI 0 then mnI b (D v) else mxI b (D v)) else D v)
theorem mx_nI {a b : Nat} (ha : a < 2147483648) (hb : b < 2147483648) : mxI (nI a) (nI b) = nI (max a b) := by
  unfold mxI
  by_cases h : a < b
  · rw [if_pos ((nI_ltI ha hb).mpr h), Nat.max_eq_right (by omega)]
  · rw [if_neg (fun q => h ((nI_ltI ha hb).mp q)), Nat.max_eq_left (by omega)]
theorem IA_run : ∀ n (f : Nat → Int32) T, IA T f → T + n < 1000000000 → ∃ T', T' ≤ T + n ∧ IA T' (mRun n f) := by
  intro n
  induction n with
  | zero => intro f T h _; exact ⟨T, by omega, h⟩
  | succ n ih =>
    intro f T hA hT
    rw [mRun]
    obtain ⟨T', hT', hA'⟩ := IA_tick hA (by omega)
    obtain ⟨T2, hT2, hA2⟩ := ih _ T' hA' (by omega)
    exact ⟨T2, by omega, hA2⟩
def spD (N : Nat) (f : Nat → Int32) (v : Nat) : Int32 := clS (mRun N (upd f 8 (nI v))) 4 (cN (mRun N (upd f 8 (nI v))))
theorem clS_n {B n : Nat} {f : Nat → Int32} (hU : IU B f) (hn : n ≤ 5) : ∃ d, d ≤ n * B ∧ clS f 4 n = nI d := by
  have : ∀ m i a, i + m = n → ∃ d, d ≤ a + m * B ∧ fo (fun c b => b + f (49 + 5 * c + 4)) m i (nI a) = nI d := by
    intro m
    induction m with
    | zero => intro i a _; exact ⟨a, by omega, rfl⟩
    | succ m ih =>
      intro i a h
      obtain ⟨-, b, hb, e⟩ := hU i (by omega)
      obtain ⟨d, hd, e2⟩ := ih (i + 1) (a + b) (by omega)
      refine ⟨d, ?_, ?_⟩
      · rw [Nat.add_mul, Nat.one_mul]; omega
      · rw [fo, e, nI_add]; exact e2
  obtain ⟨d, hd, e⟩ := this n 0 0 (by omega)
  exact ⟨d, by omega, e⟩
theorem sp_eq {D : Nat → Int32} {d : Nat → Nat} (hD : ∀ v, D v = nI (d v)) (hd : ∀ v, d v < 2147483648) (w : Int32) : (if w = nI 0 then spL D 6 1 (nI 0) else spH D 6 1 (nI 0)) = spR D w 6 1 (-nI 1) := by
  have n1 : ¬ nI 0 ≤ -nI 1 := by decide
  have p0 : ∀ x, x < 2147483648 → nI 0 ≤ nI x := fun x hx => by rw [nI_lev (by omega) hx]; omega
  have h1 := hd 1
  have h2 := hd 2
  have h3 := hd 3
  have h4 := hd 4
  have h5 := hd 5
  have h6 := hd 6
  have mn : ∀ x y, x < 2147483648 → y < 2147483648 → mnI (nI x) (nI y) = nI (min x y) := fun x y hx hy => mn_nI hx hy
  have mx : ∀ x y, x < 2147483648 → y < 2147483648 → mxI (nI x) (nI y) = nI (max x y) := fun x y hx hy => mx_nI hx hy
  have z : max 0 (d 1) = d 1 := by omega
  by_cases hw : w = nI 0
  · rw [if_pos hw]
    simp only [spL, spR, hD, n1, hw, Nat.reduceAdd, ↓reduceIte, Nat.reduceEqDiff, p0 _ h1]
    rw [mn _ _ h1 h2, if_pos (p0 _ (by omega)), mn _ _ (by omega) h3, if_pos (p0 _ (by omega)), mn _ _ (by omega) h4, if_pos (p0 _ (by omega)), mn _ _ (by omega) h5, if_pos (p0 _ (by omega))]
  · rw [if_neg hw]
    simp only [spH, spR, hD, n1, hw, Nat.reduceAdd, ↓reduceIte, p0 _ h1]
    rw [mx _ _ (by omega) h1, z, mx _ _ h1 h2, if_pos (p0 _ (by omega)), mx _ _ (by omega) h3, if_pos (p0 _ (by omega)), mx _ _ (by omega) h4, if_pos (p0 _ (by omega)), mx _ _ (by omega) h5, if_pos (p0 _ (by omega))]
section ACT
variable {B : Nat} {s : mS}
theorem c172_12 {f : Nat → Int32} {T N : Nat} {v2 : Int32} {K : Int32 → Int32 → Int32 → mS → Option mQ} (hR : RW s 26 f) (hL : RLw s f) (hA : IA T f) (hN : N ≤ 60) (hT : T + N < 1000000000) : ∀ m v k lo hi s', Fw 58 s s' → v + m = 7 → 1 ≤ v → m < k → ∃ s'', q172_12 K k (nI N) v2 lo hi (nI v) s' = K v2 (spL (spD N f) m v lo) (spH (spD N f) m v hi) s'' ∧ Fw 58 s s'' := by
  intro m
  induction m with
  | zero =>
    intro v k lo hi s' hF hv h1 hk
    cases k with
    | zero => omega
    | succ k =>
      have : v = 7 := by omega
      subst this
      exact ⟨s', by simp (disch := omega) only [q172_12, spL, spH, nI_lit, nI_add, pk_mul, nI_clp, nI_eqv, nI_lev, nI_ltv, nI_neg, nI_neg', nI_subv, Nat.add_zero, Nat.zero_add, Nat.mul_zero, Nat.reduceAdd, bN_rv, bM_ru, bV_rv, bV_rx, bU_ru, bU_rx, bN_ite, bM_ite, bV_ite, bU_ite, ↓bx_e, ↓sp_e, gA_ok, gZ_n, gB_0, gB_1, gB_i, and_true, and_false, true_and, false_and, decide_true, decide_false, ↓reduceIte, not_true_eq_false, not_false_eq_true, Bool.false_eq_true, Bool.true_eq_false, Bool.and_true, Bool.and_false, Bool.true_and, Bool.false_and, Bool.or_true, Bool.or_false, Bool.true_or, Bool.false_or, Bool.not_true, Bool.not_false, le_f, le_t, lt_f, lt_t, eq_f, ↓reduceIte, not_true_eq_false, not_false_eq_true, ite_10, bt_0, bt_1], hF⟩
  | succ m ih =>
    intro v k lo hi s' hF hv h1 hk
    cases k with
    | zero => omega
    | succ k =>
      have hR' : RW s' 26 f := RW_s hR hA.1.1.1 (fun b x y => hF.1 b (by omega) (by omega) (by omega))
      have hL' : RLw s' f := RLw_c hA.1.2.2.1 rfl (fun _ _ _ => rfl) (fun b x y => hF.1 b (by omega) (by omega) (by omega)) hL
      obtain ⟨s1, k1, k2, k3, k4⟩ := cTry hR' hL' hA (N := N) (by omega) (by omega)
      have hA8 := IA_8 hA (nI v)
      obtain ⟨s2, j1, j2, j3, -, j5⟩ := p112 (s := sI s1 58 12 (nI v)) (N := N) (by omega) (by omega) (RW_8 k3 hA.1.1.1 (nI v)) (RLw_c hA.1.2.2.1 (ud_n (by omega)) (fun j h1 h2 => ud_n (by omega)) (fun b x y => sI_fn (by omega)) k4) hA8 (by omega)
      have c7 := cDone j2
      have e7 : q7 (58 + 1) s2 = rv (spD N f v) s2 := c7
      obtain ⟨s'', r1, r2⟩ := ih (v + 1) k (if v = 1 then spD N f v else mnI lo (spD N f v)) (mxI hi (spD N f v)) s2 (Fw_t hF (Fw_t k2 (Fw_t (Fw_I (by omega) (by omega)) j5))) (by omega) (by omega) (by omega)
      refine ⟨s'', ?_, r2⟩
      rw [spL, spH, ← r1, q172_12, nI_lit, nI_lit, if_neg (by rw [nI_ltv (by omega) (by omega)]; omega), k1, bM_ru, sp_e, j1, bN_rv, e7, bN_rv]
      unfold q172_77
      simp only [bx_e, nI_lit, nI_add]
      by_cases e : v = 1
      · subst e
        rw [if_neg (not_not_intro rfl), if_pos rfl]
      · rw [if_pos (by rw [nI_eqv (by omega) (by omega)]; exact e), if_neg e]
theorem m334_28 {t : mS} {f : Nat → Int32} {T N : Nat} {v2 : Int32} (hA : IA T f) (hH : IH f) (hN : N ≤ 60) (hT : T + N < 1000000000) (h6 : ∀ j, j < 770 → t.1 516 j = f j) : ∀ m v k b t', QT t t' → t'.1 516 = t.1 516 → t'.1 513 = f → v + m = 7 → 1 ≤ v → m < k → ∃ t'', q334_28 k (nI N) v2 b (nI v) t' = rv (spR (spD N f) v2 m v b) t'' ∧ QT t t'' ∧ t''.1 513 = f := by
  intro m
  induction m with
  | zero =>
    intro v k b t' hF h56 h5 hv h1 hk
    cases k with
    | zero => omega
    | succ k =>
      have : v = 7 := by omega
      subst this
      exact ⟨t', by simp (disch := omega) only [q334_28, spR, nI_lit, nI_add, pk_mul, nI_clp, nI_eqv, nI_lev, nI_ltv, nI_neg, nI_neg', nI_subv, Nat.add_zero, Nat.zero_add, Nat.mul_zero, Nat.reduceAdd, bN_rv, bM_ru, bV_rv, bV_rx, bU_ru, bU_rx, bN_ite, bM_ite, bV_ite, bU_ite, ↓bx_e, ↓sp_e, gA_ok, gZ_n, gB_0, gB_1, gB_i, and_true, and_false, true_and, false_and, decide_true, decide_false, ↓reduceIte, not_true_eq_false, not_false_eq_true, Bool.false_eq_true, Bool.true_eq_false, Bool.and_true, Bool.and_false, Bool.true_and, Bool.false_and, Bool.or_true, Bool.or_false, Bool.true_or, Bool.false_or, Bool.not_true, Bool.not_false, le_f, le_t, lt_f, lt_t, eq_f, ↓reduceIte, not_true_eq_false, not_false_eq_true, ite_10, bt_0, bt_1], hF, h5⟩
  | succ m ih =>
    intro v k b t' hF h56 h5 hv h1 hk
    cases k with
    | zero => omega
    | succ k =>
      have hA8 := IA_8 hA (nI v)
      have hH8 : IH (upd f 8 (nI v)) := IH_c hH (fun j hj => Or.inl (by unfold HX at hj; exact ud_n (by omega)))
      have e8 : (sI t' 513 8 (nI v)).1 513 = upd f 8 (nI v) := by rw [sI_sm, h5]
      obtain ⟨t1, o1, o2⟩ := m272 (t := sI t' 513 8 (nI v)) (N := N) (by omega) e8 hA8 (by omega)
      obtain ⟨T', -, hA'⟩ := IA_run N (upd f 8 (nI v)) T hA8 (by omega)
      have d7 : q279 t1 = rv (spD N f v) t1 := mDone o2.1 hA'.1.2.1
      have f56 : t1.1 516 = t.1 516 := by rw [o2.2.1 516 (by omega) (by omega) (by omega), sI_fn (by omega)]; exact h56
      obtain ⟨t2, r1, r2, r3⟩ := mBack (t := t1) (f := f) o2.1 (fun j hj => by rw [f56]; exact h6 j hj) (fun j hj => by rw [LJ_run (Or.inr hj) N _ T hA8 (by omega) hH8]; exact ud_n (by omega))
      have q0 : QT t' (sI t' 513 8 (nI v)) := ⟨fun b _ x _ _ => sI_fn x, fun j _ => by rw [sI_fn (by omega)], Eq.trans rfl rfl⟩
      have q1 : QT t t2 := QT_t hF (QT_t q0 (QT_t (QT_M o2) (QT_F (Or.inl rfl) r3)))
      obtain ⟨t'', u1, u2, u3⟩ := ih (v + 1) k (if nI 0 ≤ b then (if v2 = nI 0 then mnI b (spD N f v) else mxI b (spD N f v)) else spD N f v) t2 q1 (by rw [r3.1 516 (by omega)]; exact f56) r2 (by omega) (by omega) (by omega)
      refine ⟨t'', ?_, u2, u3⟩
      have hc : (nI 8).toNatClampNeg = 8 := nI_clp (by omega)
      rw [spR, ← u1, q334_28, nI_lit, nI_lit, if_neg (by rw [nI_ltv (by omega) (by omega)]; omega), gA_ok (by omega) (by omega), hc, sp_e, o1, bN_rv, d7, bN_rv, r1, bM_ru]
      unfold q334_88
      simp only [bx_e, nI_lit, nI_add]
      by_cases e : nI 0 ≤ b
      · rw [if_pos e, if_pos e]
        by_cases e2 : v2 = nI 0
        · rw [if_pos e2, if_pos e2]
        · rw [if_neg e2, if_neg e2]
      · rw [if_neg e, if_neg e]
theorem z_span (hG : G B s) (hB : B + 60 < 400000000) (v1 v2 : Int32) : ZT B [(0, 13, 1)] (q172 v1 v2) (q334 v1 v2) s := by
  have hG0 := hG
  obtain ⟨⟨hR, hL, T, hT, hA⟩, -, -, -, -, hU0, -⟩ := hG0
  have bad : (v1 < nI 0 ∨ nI 61 ≤ v1) → ZT B [(0, 13, 1)] (q172 v1 v2) (q334 v1 v2) s := fun h => by
    refine ZX_t (x := 0) (u := 0) (w := 13) (c := 1) (v := nI 0) hG ?_ rfl (by omega) (by omega) (fun t ht => ?_)
    · unfold q172
      rw [p186_f h]; rfl
    · unfold q334
      simp only [nI_lit, sp_e]
      rw [m332_f h, bN_rv, m188_1, bN_rv, if_neg (by decide)]
  rcases ix_of v1 61 (by omega) with h | h | ⟨N, hN, e⟩
  · exact bad (Or.inl h)
  · exact bad (Or.inr h)
  · subst e
    obtain ⟨s2, k1, k2⟩ := c172_12 (N := N) (v2 := v2) (K := q172_93) hR hL hA (by omega) (by omega) 6 1 10000 (nI 0) (nI 0) s ⟨fun _ _ _ _ => rfl, rfl⟩ (by omega) (by omega) (by omega)
    have hD : ∀ v, ∃ d, d < 2147483648 ∧ spD N (s.1 513) v = nI d := fun v => by
      have hU8 : IU B (upd (s.1 513) 8 (nI v)) := IU_c hU0.1 (fun j a b => ud_n (by omega))
      have := IU_run N _ T B (IA_8 hA (nI v)) (by omega) hU8
      obtain ⟨T', -, h⟩ := IA_run N _ T (IA_8 hA (nI v)) (by omega)
      obtain ⟨n, hn, f0, -⟩ := h.1.2.1
      have e : cN (mRun N (upd (s.1 513) 8 (nI v))) = n := by unfold cN; rw [f0]; exact nI_clp (by omega)
      obtain ⟨d, hd, e2⟩ := clS_n this hn
      refine ⟨d, ?_, by unfold spD; rw [e]; exact e2⟩
      have : n * (B + N) ≤ 5 * (B + N) := Nat.mul_le_mul_right _ hn
      omega
    have heq := sp_eq (D := spD N (s.1 513)) (d := fun v => (hD v).choose) (fun v => (hD v).choose_spec.2) (fun v => (hD v).choose_spec.1) v2
    refine ZV_look (v := spR (spD N (s.1 513)) v2 6 1 (-nI 1)) (s1 := s2) hG ?_ k2.2 (Gq_58 k2) (fun t ht => ?_)
    · unfold q172
      rw [p186_t (by omega), bU_ru, nI_lit, nI_lit, k1, ← heq]
      unfold q172_93
      rw [nI_lit]
      by_cases h : v2 = nI 0
      · rw [if_pos h, if_pos h]
      · rw [if_neg h, if_neg h]
    · have e5 : t.1 513 = s.1 513 := by rw [ht]; exact k2.1 513 (by omega) (by omega) (by omega)
      obtain ⟨t1, l1, l2, l3⟩ := m196 (t := sI t 512 0 (nI 0))
      have f1 : t1.1 513 = s.1 513 := by rw [l2.1 513 (by omega), t0_513]; exact e5
      obtain ⟨t3, o1, o2, o3⟩ := m334_28 (t := t1) (v2 := v2) (N := N) hA hU0.2 (by omega) (by omega) (fun j hj => by rw [l3 j hj, t0_513, e5]) 6 1 10000 (-nI 1) t1 QT_r rfl f1 (by omega) (by omega) (by omega)
      have q1 : QT (sI t 512 0 (nI 0)) t3 := QT_t (QT_F (Or.inr rfl) l2) o2
      refine ⟨t3, ?_, q1.2.2.trans (Eq.trans rfl rfl), by rw [q1.2.1 0 (by omega)]; exact t0_0, Gq_t Gq_0 (QT_G q1 (by rw [o3, t0_513, e5]))⟩
      unfold q334
      simp only [nI_lit, sp_e]
      rw [m332_t (by omega), bN_rv, m188_0, bN_rv, if_pos rfl, l1, bM_ru]
      exact o1
end ACT
