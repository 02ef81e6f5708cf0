/-! READ -/
section ACT
variable {B : Nat} {s : mS}
theorem z_read (hG : G B s) (hB : B + 60 < 1000000000) (v1 v2 : Int32) : ZT (B + 60) [(2, 13, 1), (4, 17, 2)] (q140 v1 v2) (q284 v1 v2) s := by
  have hG60 := G_mo hG (show B ≤ B + 60 by omega)
  have hG0 := hG
  obtain ⟨⟨hR, hL, T, hT, hA⟩, -, -, -, -, hU0, -⟩ := hG0
  have bad : (v1 < nI 0 ∨ nI 8 ≤ v1) ∨ ((∃ i, i < 8 ∧ v1 = nI i) ∧ (v2 < nI 0 ∨ nI 10 ≤ v2)) → ZT (B + 60) [(2, 13, 1), (4, 17, 2)] (q140 v1 v2) (q284 v1 v2) s := by
    intro hb
    refine ZX_t (x := 2) (u := 2) (w := 13) (c := 1) (v := nI 0) hG60 ?_ rfl (by omega) (by omega) (fun t ht => ?_)
    · unfold q140
      rcases hb with h | ⟨⟨i, hi, e⟩, h⟩
      · rw [p179_f h]; rfl
      · subst e
        rw [p179_t hi, bU_ru, p180_f h]; rfl
    · have : q283 v1 v2 t = rv (nI 1) (sI (sI t 512 0 (nI 0)) 512 0 (nI 1)) := by
        unfold q283 q283_20 q283_25
        simp only [nI_lit, sp_e]
        rcases hb with h | ⟨⟨i, hi, e⟩, h⟩
        · rw [m273_f h, bN_rv, if_pos (by decide), m188_1, bN_rv, gB_1]
        · subst e
          rw [m273_t hi, bN_rv, if_neg (not_not_intro rfl), m274_f h, bN_rv, if_neg (by decide), m188_1, bN_rv, gB_1]
      unfold q284
      rw [this, bN_rv, nI_lit, if_pos (by decide)]
  rcases ix_of v1 8 (by omega) with h | h | ⟨i, hi, e⟩
  · exact bad (Or.inl (Or.inl h))
  · exact bad (Or.inl (Or.inr h))
  · rcases ix_of v2 10 (by omega) with h | h | ⟨k, hk, e2⟩
    · exact bad (Or.inr ⟨⟨i, hi, e⟩, Or.inl h⟩)
    · exact bad (Or.inr ⟨⟨i, hi, e⟩, Or.inr h⟩)
    · subst e; subst e2
      have k183 := p183 (s := s) hR.1 hi
      have ok : ∀ t : mS, q283 (nI i) (nI k) t = rv (nI 0) (sI t 512 0 (nI 0)) := fun t => by
        unfold q283 q283_25
        simp only [nI_lit, sp_e]
        rw [m273_t hi, bN_rv, if_neg (not_not_intro rfl), m274_t hk, bN_rv, if_pos rfl, m188_0, bN_rv, gB_0]
      cases hr : sR (s.1 513) i
      · rw [hr] at k183
        refine ZX_t (x := 4) (u := 4) (w := 17) (c := 2) (v := nI 0) hG60 (by unfold q140; rw [p179_t hi, bU_ru, p180_t hk, bU_ru, k183]; rfl) rfl (by omega) (by omega) (fun t ht => ?_)
        have e5 : (sI t 512 0 (nI 0)).1 513 = s.1 513 := by rw [t0_513, ht]
        unfold q284
        rw [ok t, bN_rv, nI_lit, if_neg (not_not_intro rfl), m205 hi, bN_rv, e5, hr, b2_f, if_neg (not_not_intro rfl)]
        unfold q284_23
        rw [nI_lit, nI_lit, m188_1, bN_rv, nI_lit, if_neg (by decide)]
      · rw [hr] at k183
        obtain ⟨s1, k1, k2, k0, k3, k4, k5⟩ := act_Z (B' := B + 60) hG (by omega)
        obtain ⟨s2, j1, j2, j3, j4, j5⟩ := p116 k3 k4 hA.1 (by omega) hi hk hr
        have hK := KR_read (k := k) hU0.2 hi
        have k64 := p64 j2.1 hi
        simp only [Nat.reduceAdd] at k64
        refine Or.inl ⟨if sR (mRead (s.1 513) i k) i = true then s.1 513 (74 + 21 * i + 11 + k) + (if bt (s.1 513 (74 + 21 * i + 6)) k = true then nI 1 else nI 0) else -nI 1, s2, ?_, j5.2.trans k2, fun t ht => ?_⟩
        · unfold q140
          rw [p179_t hi, bU_ru, p180_t hk, bU_ru, k183, if_pos rfl, bU_ru, k1, bM_ru, j1, bM_ru]
          simp only [Nat.reduceAdd, k64, bN_rv, nI_lit, b2_0]
          cases hr2 : sR (mRead (s.1 513) i k) i
          · simp only [and_true, and_false, true_and, false_and, decide_true, decide_false, ↓reduceIte, not_true_eq_false, not_false_eq_true, Bool.false_eq_true, Bool.true_eq_false, Bool.and_true, Bool.and_false, Bool.true_and, Bool.false_and, Bool.or_true, Bool.or_false, Bool.true_or, Bool.false_or, Bool.not_true, Bool.not_false]
          · have q1 := j2.1.2.2.2.2.2.2.2.2.2.2.2.2.2.2 i hi (sR_U hr2) k hk
            have q2 := j2.1.2.2.2.2.2.2.2.2.2.1 i hi (sR_U hr2)
            rw [show 74 + 21 * i + 11 + k = 74 + 21 * i + (11 + k) by omega, hK hr2 (11 + k) (by unfold KW; omega)] at q1
            rw [hK hr2 6 (by unfold KW; omega)] at q2
            rw [Nat.mul_comm 10 i] at q1
            simp only [Nat.reduceAdd] at q1 q2
            simp (disch := omega) only [q1, q2, bt_b, nI_lit, nI_add, pk_mul, nI_clp, nI_eqv, nI_lev, nI_ltv, nI_neg, nI_neg', nI_subv, Nat.add_zero, Nat.zero_add, Nat.mul_zero, Nat.reduceAdd, bN_rv, bM_ru, bV_rv, bV_rx, bU_ru, bU_rx, bN_ite, bM_ite, bV_ite, bU_ite, ↓bx_e, ↓sp_e, gA_ok, gZ_n, gB_0, gB_1, gB_i, and_true, and_false, true_and, false_and, decide_true, decide_false, ↓reduceIte, not_true_eq_false, not_false_eq_true, Bool.false_eq_true, Bool.true_eq_false, Bool.and_true, Bool.and_false, Bool.true_and, Bool.false_and, Bool.or_true, Bool.or_false, Bool.true_or, Bool.false_or, Bool.not_true, Bool.not_false, le_f, le_t, lt_f, lt_t, eq_f, ↓reduceIte, not_true_eq_false, not_false_eq_true, ite_10, bt_0, bt_1]
            rw [show 74 + 21 * i + 11 + k = 74 + 21 * i + (11 + k) by omega]
        · have e5 : t.1 513 = s.1 513 := by rw [ht, j5.1 513 (by omega) (by omega) (by omega)]; exact k0
          have e5' : (sI t 512 0 (nI 0)).1 513 = s.1 513 := by rw [t0_513]; exact e5
          obtain ⟨t1, l1, l2, l3, l4, l5⟩ := k5 s2 (mRead (s.1 513) i k) j5 j2 j3 ⟨T, by omega, IA_read hA hi hk hr⟩ ⟨IU_mo (IU_read hU0.1) (by omega), IH_read hU0.2 hi⟩ (fun j hj => LJ_read hU0.2 hi hj) t ht
          obtain ⟨t2, o1, o2⟩ := m263 (t := t1) l3 hA.1 hi hk hr
          have o3 := MT_m o2
          refine ⟨t2, ?_, Lq_e (o3.2.2.2.trans l2), by rw [o3.2.2.1 0 (by omega)]; exact l4, l5 t2 o3⟩
          have c1 : q204 (nI i) (nI (11 + k)) t1 = rv (s.1 513 (74 + 21 * i + 11 + k)) t1 := by
            simp (disch := omega) only [l3, nI_lit, nI_add, pk_mul, nI_clp, nI_eqv, nI_lev, nI_ltv, nI_neg, nI_neg', nI_subv, Nat.add_zero, Nat.zero_add, Nat.mul_zero, Nat.reduceAdd, bN_rv, bM_ru, bV_rv, bV_rx, bU_ru, bU_rx, bN_ite, bM_ite, bV_ite, bU_ite, ↓bx_e, ↓sp_e, gA_ok, gZ_n, gB_0, gB_1, gB_i, and_true, and_false, true_and, false_and, decide_true, decide_false, ↓reduceIte, not_true_eq_false, not_false_eq_true, Bool.false_eq_true, Bool.true_eq_false, Bool.and_true, Bool.and_false, Bool.true_and, Bool.false_and, Bool.or_true, Bool.or_false, Bool.true_or, Bool.false_or, Bool.not_true, Bool.not_false, le_f, le_t, lt_f, lt_t, eq_f, ↓reduceIte, not_true_eq_false, not_false_eq_true, ite_10, bt_0, bt_1, q198, q199, q200, q201, q202, q203, q204, m190, m205, m206, b2_0, q189, q187]
            rw [show 74 + 21 * i + (11 + k) = 74 + 21 * i + 11 + k by omega]
          have c2 : q204 (nI i) (nI 6) t1 = rv (s.1 513 (74 + 21 * i + 6)) t1 := by simp (disch := omega) only [l3, nI_lit, nI_add, pk_mul, nI_clp, nI_eqv, nI_lev, nI_ltv, nI_neg, nI_neg', nI_subv, Nat.add_zero, Nat.zero_add, Nat.mul_zero, Nat.reduceAdd, bN_rv, bM_ru, bV_rv, bV_rx, bU_ru, bU_rx, bN_ite, bM_ite, bV_ite, bU_ite, ↓bx_e, ↓sp_e, gA_ok, gZ_n, gB_0, gB_1, gB_i, and_true, and_false, true_and, false_and, decide_true, decide_false, ↓reduceIte, not_true_eq_false, not_false_eq_true, Bool.false_eq_true, Bool.true_eq_false, Bool.and_true, Bool.and_false, Bool.true_and, Bool.false_and, Bool.or_true, Bool.or_false, Bool.true_or, Bool.false_or, Bool.not_true, Bool.not_false, le_f, le_t, lt_f, lt_t, eq_f, ↓reduceIte, not_true_eq_false, not_false_eq_true, ite_10, bt_0, bt_1, q198, q199, q200, q201, q202, q203, q204, m190, m205, m206, b2_0, q189, q187]
          unfold q284
          rw [ok t, bN_rv, nI_lit, if_neg (not_not_intro rfl), m205 hi, bN_rv, e5', hr, b2_t, if_pos (by decide)]
          unfold q284_23
          rw [nI_lit, m188_0, bN_rv, nI_lit, if_pos rfl, l1, bM_ru]
          simp only [nI_lit, nI_add, c1, c2, bN_rv, m190 (show k < 32 by omega), b2_0]
          unfold q284_64
          simp only [bx_e, o1, bM_ru, m205 hi, bN_rv, o3.1, nI_lit, b2_0]
          cases bt (s.1 513 (74 + 21 * i + 6)) k <;> cases sR (mRead (s.1 513) i k) i <;> simp only [and_true, and_false, true_and, false_and, decide_true, decide_false, ↓reduceIte, not_true_eq_false, not_false_eq_true, Bool.false_eq_true, Bool.true_eq_false, Bool.and_true, Bool.and_false, Bool.true_and, Bool.false_and, Bool.or_true, Bool.or_false, Bool.true_or, Bool.false_or, Bool.not_true, Bool.not_false]
end ACT
