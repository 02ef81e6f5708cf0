/-! ABORT, READ, WRITE -/
theorem IU_tidy {U : Nat} {g : Nat → Int32} (h : IU U g) : IU U (mTidy g) := by
  unfold mTidy
  have t1 : ∀ n (g : Nat → Int32), IU U g → IU U (mTd1 n g) := by
    intro n
    induction n with
    | zero => intro g hg; exact hg
    | succ n ih =>
      intro g hg
      cases e : oOld g (sDn g) with
      | none => rw [mTd1_n e]; exact hg
      | some i => rw [mTd1_s e]; exact ih _ (IU_c hg (fun j a b => mLe_n (oOld_s e).1 (by omega) (by omega)))
  have t2 : ∀ n (g : Nat → Int32), IU U g → IU U (mTd2 n g) := by
    intro n
    induction n with
    | zero => intro g hg; exact hg
    | succ n ih =>
      intro g hg
      by_cases hq : bc (sAll g (nI 2)) ≤ g 4
      · rw [mTd2_k hq]; exact hg
      · cases e : oOld g (sF g) with
        | none => rw [mTd2, if_neg hq, e]; exact hg
        | some i =>
          rw [mTd2_s hq e]
          exact ih _ (IU_c hg (fun j a b => by unfold mSumm; rw [mLe_n (oOld_s e).1 (by omega) (by omega), mSm_n (by omega)]))
  exact t2 8 _ (t1 8 _ h)
theorem IH_tidy {g : Nat → Int32} (h : IH g) : IH (mTidy g) := by
  unfold mTidy
  have t1 : ∀ n (g : Nat → Int32), IH g → IH (mTd1 n g) := by
    intro n
    induction n with
    | zero => intro g hg; exact hg
    | succ n ih =>
      intro g hg
      cases e : oOld g (sDn g) with
      | none => rw [mTd1_n e]; exact hg
      | some i => rw [mTd1_s e]; exact ih _ (IH_le hg)
  have t2 : ∀ n (g : Nat → Int32), IH g → IH (mTd2 n g) := by
    intro n
    induction n with
    | zero => intro g hg; exact hg
    | succ n ih =>
      intro g hg
      by_cases hq : bc (sAll g (nI 2)) ≤ g 4
      · rw [mTd2_k hq]; exact hg
      · cases e : oOld g (sF g) with
        | none => rw [mTd2, if_neg hq, e]; exact hg
        | some i =>
          rw [mTd2_s hq e]
          exact ih _ (IH_le (IH_c hg (fun j hj => Or.inl (by unfold HX at hj; exact mSm_n (by omega)))))
  exact t2 8 _ (t1 8 _ h)
theorem LJ_tidy {f : Nat → Int32} {j : Nat} (hj : LJ j) : mTidy f j = f j := by
  unfold mTidy
  have t1 : ∀ n (g : Nat → Int32), mTd1 n g j = g j := by
    intro n
    induction n with
    | zero => intro g; rfl
    | succ n ih =>
      intro g
      cases e : oOld g (sDn g) with
      | none => rw [mTd1_n e]
      | some i => unfold LJ at hj; rw [mTd1_s e, ih, mLe_n (oOld_s e).1 (by omega) (by omega)]
  have t2 : ∀ n (g : Nat → Int32), mTd2 n g j = g j := by
    intro n
    induction n with
    | zero => intro g; rfl
    | succ n ih =>
      intro g
      by_cases hq : bc (sAll g (nI 2)) ≤ g 4
      · rw [mTd2_k hq]
      · cases e : oOld g (sF g) with
        | none => rw [mTd2, if_neg hq, e]
        | some i =>
          unfold LJ at hj
          rw [mTd2_s hq e, ih]
          unfold mSumm
          rw [mLe_n (oOld_s e).1 (by omega) (by omega), mSm_n (by omega)]
  rw [t2, t1]
theorem IA_tidy {T : Nat} {f g : Nat → Int32} (h : IA T f) (hm : IM T g) (hg : ∀ j, j = 7 ∨ (9 ≤ j ∧ j < 49 ∧ (j - 9) % 4 = 0) → g j = f j) : IA T (mTidy g) := IA_g h (IM_tidy hm) (fun j hj => by rw [mTidy_x (by omega) (by omega)]; exact hg j hj)
section ACT
variable {B : Nat} {s : mS}
theorem z_abort (hG : G B s) (hB : B + 60 < 1000000000) (v1 : Int32) : ZT (B + 60) [(2, 12, 1), (4, 15, 2)] (q143 v1) (q288 v1) s := by
  have hG60 := G_mo hG (show B ≤ B + 60 by omega)
  have hG0 := hG
  obtain ⟨⟨hR, hL, T, hT, hA⟩, -, -, -, -, hU0, -⟩ := hG0
  rcases pm286 (s := s) hR.1 rfl v1 with ⟨i, hi, e, hr, c1, c2, c3⟩ | ⟨c1, c3⟩ | ⟨c1, c2, c3⟩
  · subst e
    have hu := sR_U hr
    obtain ⟨s1, k1, k2, k0, k3, k4, k5⟩ := act_Z (B' := B + 60) hG (by omega)
    have kw := k3.1.2.2.2.2.1 i hi hu
    simp only [Nat.reduceAdd] at kw
    obtain ⟨s2, j1, j2, j3, j5⟩ := p119 k3 k4 hA.1 (by omega) hi hu (w := nI 4)
    have M1 := IM_ab hA.1 hi hu (w := nI 4)
    obtain ⟨s3, o1, o2, o3, o4, o5⟩ := p125 j2 j3 M1 (by omega)
    have hFw : Fw 26 s1 s3 := ⟨fun b h1 h2 h3 => (o5.1 b h1 h2 h3).trans (j5.1 b h1 h2 h3), o5.2.trans j5.2⟩
    refine Or.inl ⟨s.1 513 (74 + 21 * i + 1), s3, ?_, hFw.2.trans k2, fun t ht => ?_⟩
    · unfold q143
      have hc : (nI i).toNatClampNeg = i := nI_clp (by omega)
      rw [c1, bU_ru, c2, bU_ru, k1, bM_ru]
      simp (disch := omega) only [gA_ok, hc, bx_e, nI_lit, Nat.reduceAdd, kw]
      rw [j1, bM_ru, o1, bM_ru]
    · have e5 : t.1 513 = s.1 513 := by rw [ht, hFw.1 513 (by omega) (by omega) (by omega)]; exact k0
      obtain ⟨t1, l1, l2, l3, l4, l5⟩ := k5 s3 _ hFw o2 o3 ⟨T, by omega, IA_tidy hA M1 (fun j hj => mAb_n hi (hA.1.1.1 i hi).2 (by omega) (by omega) (by omega))⟩ ⟨IU_mo (IU_tidy (IU_ab hU0.1)) (by omega), IH_tidy (IH_ab hU0.2 hi)⟩ (fun j hj => by rw [LJ_tidy hj, LJ_ab hU0.2 hi hj]) t ht
      have m54 := m254 (t := t1) (by rw [l3]; exact hA.1.1.1) hi (w := nI 4)
      obtain ⟨-, -, -, -, ⟨k, hk, h4⟩⟩ := M1
      have m61 := m261 (t := wr (sI t1 512 18 (t1.1 512 18 ||| shlI (nI 1) (nI i))) (mAbort (t1.1 513) i (nI 4))) hk (by rw [wr_1, l3]; exact h4)
      have o6 : MT t1 (wr (wr (sI t1 512 18 (t1.1 512 18 ||| shlI (nI 1) (nI i))) (mAbort (t1.1 513) i (nI 4))) (mTidy (mAbort (s.1 513) i (nI 4)))) (mTidy (mAbort (s.1 513) i (nI 4))) := by
        refine MT_t (f' := mAbort (t1.1 513) i (nI 4)) ?_ MT_w
        exact ⟨wr_1, fun b h1 h2 h3 => by rw [wr_n h2, sI_fn h1], fun j hj => by rw [wr_n (by omega), sI_sm, ud_n hj], Eq.trans rfl rfl⟩
      refine ⟨_, ?_, Lq_e (o6.2.2.2.trans l2), by rw [o6.2.2.1 0 (by omega)]; exact l4, l5 _ o6⟩
      unfold q288
      have e1 : q204 (nI i) (nI 1) t1 = rv (s.1 513 (74 + 21 * i + 1)) t1 := by simp (disch := omega) only [l3, nI_lit, nI_add, pk_mul, nI_clp, nI_eqv, nI_lev, nI_ltv, nI_neg, nI_neg', nI_subv, Nat.add_zero, Nat.zero_add, Nat.mul_zero, Nat.reduceAdd, bN_rv, bM_ru, bV_rv, bV_rx, bU_ru, bU_rx, bN_ite, bM_ite, bV_ite, bU_ite, ↓bx_e, ↓sp_e, gA_ok, gZ_n, gB_0, gB_1, gB_i, and_true, and_false, true_and, false_and, decide_true, decide_false, ↓reduceIte, not_true_eq_false, not_false_eq_true, Bool.false_eq_true, Bool.true_eq_false, Bool.and_true, Bool.and_false, Bool.true_and, Bool.false_and, Bool.or_true, Bool.or_false, Bool.true_or, Bool.false_or, Bool.not_true, Bool.not_false, le_f, le_t, lt_f, lt_t, eq_f, ↓reduceIte, not_true_eq_false, not_false_eq_true, ite_10, bt_0, bt_1, q198, q199, q200, q201, q202, q203, q204, m190, m205, m206, b2_0, q189, q187]
      rw [c3 t e5, bN_rv, nI_lit, if_pos rfl, l1, bM_ru, nI_lit, e1, bN_rv, nI_lit, m54, bM_ru, m61, bM_ru, wr_1, l3]
  · refine ZX_t (x := 2) (u := 2) (w := 12) (c := 1) (v := nI 0) hG60 (by unfold q143; rw [c1]; rfl) rfl (by omega) (by omega) (fun t ht => ?_)
    unfold q288
    rw [c3 t, bN_rv, nI_lit, if_neg (by decide)]
  · refine ZX_t (x := 4) (u := 4) (w := 15) (c := 2) (v := nI 0) hG60 (by unfold q143; rw [c1, bU_ru, c2]; rfl) rfl (by omega) (by omega) (fun t ht => ?_)
    unfold q288
    rw [c3 t (by rw [ht]), bN_rv, nI_lit, if_neg (by decide)]
end ACT
