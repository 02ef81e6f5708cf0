/-! THE REFERENCE BRINGS A WORLD BACK; TRIAL -/
theorem m197 {t : mS} : ∃ t', q197 t = ru t' ∧ F1 513 t t' ∧ ∀ j, t'.1 513 j = if j < 770 then t.1 516 j else t.1 513 j := by
  have : ∀ m i k t', F1 513 t t' → i + m = 770 → m < k → (∀ j, t'.1 513 j = if j < i then t.1 516 j else t.1 513 j) → ∃ t'', q197_2 k (nI i) t' = ru t'' ∧ F1 513 t t'' ∧ ∀ j, t''.1 513 j = if j < 770 then t.1 516 j else t.1 513 j := by
    intro m
    induction m with
    | zero =>
      intro i k t' hF hi hk hj
      cases k with
      | zero => omega
      | succ k =>
        have : i = 770 := by omega
        subst this
        exact ⟨t', by simp (disch := omega) only [q197_2, nI_lit, nI_add, pk_mul, nI_clp, nI_eqv, nI_lev, nI_ltv, nI_neg, nI_neg', nI_subv, Nat.add_zero, Nat.zero_add, Nat.mul_zero, Nat.reduceAdd, bN_rv, bM_ru, bV_rv, bV_rx, bU_ru, bU_rx, bN_ite, bM_ite, bV_ite, bU_ite, ↓bx_e, ↓sp_e, gA_ok, gZ_n, gB_0, gB_1, gB_i, and_true, and_false, true_and, false_and, decide_true, decide_false, ↓reduceIte, not_true_eq_false, not_false_eq_true, Bool.false_eq_true, Bool.true_eq_false, Bool.and_true, Bool.and_false, Bool.true_and, Bool.false_and, Bool.or_true, Bool.or_false, Bool.true_or, Bool.false_or, Bool.not_true, Bool.not_false, le_f, le_t, lt_f, lt_t, eq_f, ↓reduceIte, not_true_eq_false, not_false_eq_true, ite_10, bt_0, bt_1], hF, hj⟩
    | succ m ih =>
      intro i k t' hF hi hk hj
      cases k with
      | zero => omega
      | succ k =>
        have h5 : t'.1 516 = t.1 516 := hF.1 516 (by omega)
        obtain ⟨t'', j1, j2, j3⟩ := ih (i + 1) k (sI t' 513 i (t.1 516 i)) (F1_J hF _ _) (by omega) (by omega) (fun j => by
          rw [sI_sm]
          by_cases e : j = i
          · subst e; rw [ud_e rfl, if_pos (by omega)]
          · rw [ud_n e, hj j]
            by_cases h : j < i
            · rw [if_pos h, if_pos (by omega)]
            · rw [if_neg h, if_neg (by omega)])
        refine ⟨t'', ?_, j2, j3⟩
        rw [← j1]
        simp (disch := omega) only [q197_2, h5, nI_lit, nI_add, pk_mul, nI_clp, nI_eqv, nI_lev, nI_ltv, nI_neg, nI_neg', nI_subv, Nat.add_zero, Nat.zero_add, Nat.mul_zero, Nat.reduceAdd, bN_rv, bM_ru, bV_rv, bV_rx, bU_ru, bU_rx, bN_ite, bM_ite, bV_ite, bU_ite, ↓bx_e, ↓sp_e, gA_ok, gZ_n, gB_0, gB_1, gB_i, and_true, and_false, true_and, false_and, decide_true, decide_false, ↓reduceIte, not_true_eq_false, not_false_eq_true, Bool.false_eq_true, Bool.true_eq_false, Bool.and_true, Bool.and_false, Bool.true_and, Bool.false_and, Bool.or_true, Bool.or_false, Bool.true_or, Bool.false_or, Bool.not_true, Bool.not_false, le_f, le_t, lt_f, lt_t, eq_f, ↓reduceIte, not_true_eq_false, not_false_eq_true, ite_10, bt_0, bt_1]
  unfold q197
  rw [nI_lit]
  exact this 770 0 10000 t F1_r (by omega) (by omega) (fun j => by rw [if_neg (by omega)])
theorem p186_t {N : Nat} {s : mS} (h : N ≤ 60) : q186 (nI N) s = ru s := by
  unfold q186; simp (disch := omega) only [nI_lit, nI_add, pk_mul, nI_clp, nI_eqv, nI_lev, nI_ltv, nI_neg, nI_neg', nI_subv, Nat.add_zero, Nat.zero_add, Nat.mul_zero, Nat.reduceAdd, bN_rv, bM_ru, bV_rv, bV_rx, bU_ru, bU_rx, bN_ite, bM_ite, bV_ite, bU_ite, ↓bx_e, ↓sp_e, gA_ok, gZ_n, gB_0, gB_1, gB_i, and_true, and_false, true_and, false_and, decide_true, decide_false, ↓reduceIte, not_true_eq_false, not_false_eq_true, Bool.false_eq_true, Bool.true_eq_false, Bool.and_true, Bool.and_false, Bool.true_and, Bool.false_and, Bool.or_true, Bool.or_false, Bool.true_or, Bool.false_or, Bool.not_true, Bool.not_false, le_f, le_t, lt_f, lt_t, eq_f, ↓reduceIte, not_true_eq_false, not_false_eq_true, ite_10, bt_0, bt_1]
theorem p186_f {v : Int32} {s : mS} (h : v < nI 0 ∨ nI 61 ≤ v) : q186 v s = rx 0 s := by
  unfold q186 q186_10
  rw [nI_lit, nI_lit]
  by_cases h0 : v < nI 0
  · simp only [h0, ↓reduceIte]
  · have h1 : ¬ v ≤ nI 60 := Int32.not_le.mpr (Int32.lt_of_lt_of_le (by decide) (h.resolve_left h0))
    simp only [h0, h1, ↓reduceIte]
theorem m332_t {N : Nat} {s : mS} (h : N ≤ 60) : q332 (nI N) s = rv (nI 0) s := by
  unfold q332; rw [nI_lit, nI_lit, in_t (by omega) (by omega)]; simp (disch := omega) only [nI_lit, nI_add, pk_mul, nI_clp, nI_eqv, nI_lev, nI_ltv, nI_neg, nI_neg', nI_subv, Nat.add_zero, Nat.zero_add, Nat.mul_zero, Nat.reduceAdd, bN_rv, bM_ru, bV_rv, bV_rx, bU_ru, bU_rx, bN_ite, bM_ite, bV_ite, bU_ite, ↓bx_e, ↓sp_e, gA_ok, gZ_n, gB_0, gB_1, gB_i, and_true, and_false, true_and, false_and, decide_true, decide_false, ↓reduceIte, not_true_eq_false, not_false_eq_true, Bool.false_eq_true, Bool.true_eq_false, Bool.and_true, Bool.and_false, Bool.true_and, Bool.false_and, Bool.or_true, Bool.or_false, Bool.true_or, Bool.false_or, Bool.not_true, Bool.not_false, le_f, le_t, lt_f, lt_t, eq_f, ↓reduceIte, not_true_eq_false, not_false_eq_true, ite_10, bt_0, bt_1]
theorem m332_f {v : Int32} {s : mS} (h : v < nI 0 ∨ nI 61 ≤ v) : q332 v s = rv (nI 1) s := by
  unfold q332; rw [nI_lit, nI_lit, in_f (by omega) h]; simp (disch := omega) only [nI_lit, nI_add, pk_mul, nI_clp, nI_eqv, nI_lev, nI_ltv, nI_neg, nI_neg', nI_subv, Nat.add_zero, Nat.zero_add, Nat.mul_zero, Nat.reduceAdd, bN_rv, bM_ru, bV_rv, bV_rx, bU_ru, bU_rx, bN_ite, bM_ite, bV_ite, bU_ite, ↓bx_e, ↓sp_e, gA_ok, gZ_n, gB_0, gB_1, gB_i, and_true, and_false, true_and, false_and, decide_true, decide_false, ↓reduceIte, not_true_eq_false, not_false_eq_true, Bool.false_eq_true, Bool.true_eq_false, Bool.and_true, Bool.and_false, Bool.true_and, Bool.false_and, Bool.or_true, Bool.or_false, Bool.true_or, Bool.false_or, Bool.not_true, Bool.not_false, le_f, le_t, lt_f, lt_t, eq_f, ↓reduceIte, not_true_eq_false, not_false_eq_true, ite_10, bt_0, bt_1]
/-- what the reference may change when it tries something out -/
def QT (t t' : mS) : Prop := (∀ b, b ≠ 512 → b ≠ 513 → b ≠ 516 → b ≠ 520 → t'.1 b = t.1 b) ∧ (∀ j, j ≠ 18 → t'.1 512 j = t.1 512 j) ∧ t'.2 = t.2
theorem QT_t {t t' t'' : mS} (h : QT t t') (h2 : QT t' t'') : QT t t'' := ⟨fun b x y z w => (h2.1 b x y z w).trans (h.1 b x y z w), fun j hj => (h2.2.1 j hj).trans (h.2.1 j hj), h2.2.2.trans h.2.2⟩
theorem QT_r {t : mS} : QT t t := ⟨fun _ _ _ _ _ => rfl, fun _ _ => rfl, rfl⟩
theorem QT_M {t t' : mS} {f' : Nat → Int32} (h : MT t t' f') : QT t t' := ⟨fun b x y _ w => h.2.1 b x y w, h.2.2.1, h.2.2.2⟩
theorem QT_F {c : Nat} {t t' : mS} (hc : c = 513 ∨ c = 516) (h : F1 c t t') : QT t t' := ⟨fun b x y z w => h.1 b (by omega), fun j hj => by rw [h.1 512 (by omega)], h.2⟩
theorem QT_G {t t' : mS} (h : QT t t') (h5 : t'.1 513 = t.1 513) : Gq t t' := by
  refine ⟨fun b _ _ _ _ _ _ x _ y z => ?_, fun j hj => h.2.1 j (by omega)⟩
  by_cases e : b = 513
  · rw [e]; exact h5
  · exact h.1 b x e y (by omega)
theorem Gq_Fr {s s' : mS} (h : Fr 58 32 s s') : Gq s s' := ⟨fun b _ _ _ _ x _ _ _ _ _ => h.1 b (by omega), fun j _ => by rw [h.1 512 (by omega)]⟩
theorem Fw_Fr {s s' : mS} (h : Fr 58 32 s s') : Fw 58 s s' := ⟨fun b x _ _ => h.1 b (by omega), h.2⟩
/-- a world tried out by the class in its spare one: all is done from seed x -/
theorem cTry {s : mS} {f : Nat → Int32} {T N : Nat} (hR : RW s 26 f) (hL : RLw s f) (hA : IA T f) (hN : N ≤ 60) (hT : T + N < 1000000000) : ∃ s1, q111 58 26 s = ru s1 ∧ Fw 58 s s1 ∧ RW s1 58 f ∧ RLw s1 f := by
  obtain ⟨s1, k1, k2, k3⟩ := p111 (s := s) (a := 58) (b := 26) (by omega)
  exact ⟨s1, k1, Fw_Fr k3, k2 f hR, RLw_c hA.1.2.2.1 rfl (fun _ _ _ => rfl) (fun b x y => k3.1 b (by omega)) hL⟩
theorem cDone {s : mS} {f : Nat → Int32} (hR : RW s 58 f) : q7 (58 + 1) s = rv (clS f 4 (cN f)) s := by
  obtain ⟨n, hn, f0, y0, y1, y2, y3, y4, y5⟩ := hR.2.1
  have e : cN f = n := by unfold cN; rw [f0]; exact nI_clp (by omega)
  rw [e]
  exact p7 hn y0 y5
theorem mDone {t : mS} {f : Nat → Int32} (h : t.1 513 = f) (hC : IC f) : q279 t = rv (clS f 4 (cN f)) t := by
  obtain ⟨n, hn, f0, -⟩ := hC
  have e : cN f = n := by unfold cN; rw [f0]; exact nI_clp (by omega)
  rw [e, m279 hn (by rw [h]; exact f0), h]
theorem mBack {t : mS} {f g : Nat → Int32} (h5 : t.1 513 = g) (h6 : ∀ j, j < 770 → t.1 516 j = f j) (hg : ∀ j, 770 ≤ j → g j = f j) : ∃ t', q197 t = ru t' ∧ t'.1 513 = f ∧ F1 513 t t' := by
  obtain ⟨t', j1, j2, j3⟩ := m197 (t := t)
  refine ⟨t', j1, ?_, j2⟩
  funext j
  rw [j3 j]
  split
  · exact h6 j (by omega)
  · rw [h5]; exact hg j (by omega)
section ACT
variable {B : Nat} {s : mS}
theorem z_trial (hG : G B s) (hB : B + 60 < 1000000000) (v1 v2 : Int32) : ZT B [(0, 13, 1)] (q171 v1 v2) (q333 v1 v2) s := by
  have hG0 := hG
  obtain ⟨⟨hR, hL, T, hT, hA⟩, -, -, -, -, hU0, -⟩ := hG0
  have bad : (v1 < nI 0 ∨ nI 61 ≤ v1) → ZT B [(0, 13, 1)] (q171 v1 v2) (q333 v1 v2) s := fun h => by
    refine ZX_t (x := 0) (u := 0) (w := 13) (c := 1) (v := nI 0) hG ?_ rfl (by omega) (by omega) (fun t ht => ?_)
    · unfold q171
      rw [p186_f h]; rfl
    · unfold q333
      simp only [nI_lit, sp_e]
      rw [m332_f h, bN_rv, m188_1, bN_rv, if_neg (by decide)]
  rcases ix_of v1 61 (by omega) with h | h | ⟨N, hN, e⟩
  · exact bad (Or.inl h)
  · exact bad (Or.inr h)
  · subst e
    obtain ⟨s1, k1, k2, k3, k4⟩ := cTry hR hL hA (N := N) (by omega) (by omega)
    obtain ⟨s2, j1, j2, j3, ⟨T', hT', hA'⟩, j5⟩ := p112 (N := N) (by omega) (by omega) k3 k4 hA (by omega)
    have hFw := Fw_t k2 j5
    have c7 := cDone j2
    have e11 : s2.1 58 11 = mRun N (s.1 513) 5 := j2.2.2.2.2.2.2.2.1
    refine ZV_look (v := if v2 = nI 0 then clS (mRun N (s.1 513)) 4 (cN (mRun N (s.1 513))) else mRun N (s.1 513) 5) (s1 := s2) hG ?_ hFw.2 (Gq_58 hFw) (fun t ht => ?_)
    · unfold q171
      rw [p186_t (by omega), bU_ru, k1, bM_ru, j1, bN_rv, nI_lit, c7, bN_rv, e11]
      by_cases h : v2 = nI 0
      · rw [if_pos h, if_pos h]
      · rw [if_neg h, if_neg h]
    · have e5 : t.1 513 = s.1 513 := by rw [ht]; exact hFw.1 513 (by omega) (by omega) (by omega)
      obtain ⟨t1, l1, l2, l3⟩ := m196 (t := sI t 512 0 (nI 0))
      have f1 : t1.1 513 = s.1 513 := by rw [l2.1 513 (by omega), t0_513]; exact e5
      obtain ⟨t2, o1, o2⟩ := m272 (t := t1) (N := N) (by omega) f1 hA (by omega)
      obtain ⟨t3, r1, r2, r3⟩ := mBack (t := t2) (f := s.1 513) o2.1 (fun j hj => by rw [o2.2.1 516 (by omega) (by omega) (by omega), l3 j hj, t0_513, e5]) (fun j hj => LJ_run (Or.inr hj) N _ T hA (by omega) hU0.2)
      have d7 := mDone o2.1 hA'.1.2.1
      have q1 : QT (sI t 512 0 (nI 0)) t3 := QT_t (QT_F (Or.inr rfl) l2) (QT_t (QT_M o2) (QT_F (Or.inl rfl) r3))
      refine ⟨t3, ?_, q1.2.2.trans (Eq.trans rfl rfl), by rw [q1.2.1 0 (by omega)]; exact t0_0, Gq_t Gq_0 (QT_G q1 (by rw [r2, t0_513, e5]))⟩
      have hc : (nI 5).toNatClampNeg = 5 := nI_clp (by omega)
      unfold q333 q333_46
      simp only [nI_lit, sp_e]
      rw [m332_t (by omega), bN_rv, m188_0, bN_rv, if_pos rfl, l1, bM_ru, o1, bN_rv]
      by_cases h : v2 = nI 0
      · rw [if_pos h, if_pos h, d7, bN_rv, r1, bM_ru]
      · rw [if_neg h, if_neg h, gA_ok (by omega) (by omega), hc, r1, bM_ru, o2.1]
end ACT
