/-! AN ACT THAT REMEMBERS FIRST; TICKS -/
section ACT
variable {B B' : Nat} {s : mS}
theorem act_Z (hG : G B s) (hB : B ≤ B') : ∃ s1, q177 s = ru s1 ∧ s1.2 = s.2 ∧ s1.1 513 = s.1 513 ∧ RW s1 26 (s.1 513) ∧ RLw s1 (s.1 513) ∧ ∀ s2 f', Fw 26 s1 s2 → RW s2 26 f' → RLw s2 f' → (∃ T', T' ≤ B' ∧ IA T' f') → IUH B' f' → (∀ j, LJ j → f' j = s.1 513 j) → ∀ t : mS, t.1 = s2.1 → ∃ t1, q194 (sI t 512 0 (nI 0)) = ru t1 ∧ t1.2 = t.2 ∧ t1.1 513 = s.1 513 ∧ t1.1 512 0 = nI 0 ∧ ∀ t2, MT t1 t2 f' → G B' t2 := by
  obtain ⟨⟨hR, hL, T, hT, hA⟩, hI, ⟨r, x, r1, r2, r3, r4, r5, r6⟩, ⟨L, l1, l2, l3, l4, l5⟩, hF, hU0, hU1, hU2⟩ := hG
  obtain ⟨s1, a1, a2, a3, a4, a5, a6, a7⟩ := p177 r2 r1 r5 r3 hR hA.1.1.1
  have w26 : ∀ b, b ≠ 0 → b < 128 → s1.1 b = s.1 b := fun b h0 h => a6 b h0 (by omega)
  refine ⟨s1, a1, a2, a6 513 (by omega) (by omega), RW_s hR hA.1.1.1 (fun b h1 h2 => w26 b (by omega) (by omega)), RLw_c hA.1.2.2.1 rfl (fun _ _ _ => rfl) (fun b h1 h2 => w26 b (by omega) (by omega)) hL, fun s2 f' hw hR' hL' hA' hU' hl t ht => ?_⟩
  have c2 : ∀ b, b ≠ 0 → b ≠ 8 → b ≠ 9 → (b < 26 ∨ 58 ≤ b) → (b < 128 + 32 * x ∨ 128 + 32 * x + 32 ≤ b) → s2.1 b = s.1 b := fun b h0 h8 h9 h h2 => by rw [hw.1 b (by omega) h8 h9]; exact a6 b h0 h2
  have e0 : s2.1 0 = s1.1 0 := hw.1 0 (by omega) (by omega) (by omega)
  have z0 : ∀ b, b ≠ 512 → (sI t 512 0 (nI 0)).1 b = s2.1 b := fun b hb => by rw [sI_fn hb, ht]
  have z5 : ∀ j, j ≠ 0 → (sI t 512 0 (nI 0)).1 512 j = s.1 512 j := fun j hj => by rw [sI_sm, ud_n hj, ht, c2 512 (by omega) (by omega) (by omega) (by omega) (by omega)]
  have z00 : (sI t 512 0 (nI 0)).1 512 0 = nI 0 := t0_0
  have zz : (sI t 512 0 (nI 0)).2 = t.2 := Eq.trans rfl rfl
  generalize sI t 512 0 (nI 0) = u at *
  obtain ⟨t1, g, m1, m2, m3, m4, m5, m6, m7, m8, m9, m10⟩ := m194 (t := u) r1 (by rw [z5 7 (by omega)]; exact r4)
  have u513 : u.1 513 = s.1 513 := by rw [z0 513 (by omega), c2 513 (by omega) (by omega) (by omega) (by omega) (by omega)]
  have u517 : u.1 517 = s.1 517 := by rw [z0 517 (by omega), c2 517 (by omega) (by omega) (by omega) (by omega) (by omega)]
  refine ⟨t1, m1, m2.trans zz, by rw [m3 513 (by omega) (by omega)]; exact u513, by rw [m4 0 (by omega)]; exact z00, fun t2 hM => ?_⟩
  obtain ⟨n1, n2, n3, n4⟩ := hM
  have d2 : ∀ b, b ≠ 512 → b ≠ 513 → b ≠ 517 → b ≠ 520 → t2.1 b = s2.1 b := fun b h1 h2 h3 h4 => by
    rw [n2 b h1 h2 h4, m3 b h1 h3, z0 b h1]
  have d5 : ∀ j, j ≠ 0 → j ≠ 7 → j ≠ 18 → t2.1 512 j = s.1 512 j := fun j h0 h7 h18 => by rw [n3 j h18, m4 j h7, z5 j h0]
  have e517 : t2.1 517 = t1.1 517 := n2 517 (by omega) (by omega) (by omega)
  have e514 : t2.1 514 = s.1 514 := by rw [d2 514 (by omega) (by omega) (by omega) (by omega), c2 514 (by omega) (by omega) (by omega) (by omega) (by omega)]
  have hmin : min 12 (r + 1) = g + 1 := by
    by_cases h : r = 12
    · rw [m8 h]; omega
    · rw [m7 (by omega)]; omega
  have t0j : ∀ j, j ≠ 10 → j ≠ 11 → t2.1 0 j = s.1 0 j := fun j h1 h2 => by rw [d2 0 (by omega) (by omega) (by omega) (by omega), e0]; exact a5 j h1 h2
  have e7 : t2.1 512 7 = nI (g + 1) := by rw [n3 7 (by omega)]; exact m6
  have hring := GA_rem (s := s) (s' := t2) (B' := B') r2 r1 hB r6 (fun p hp => hU2 r r1 r4 p hp) hT hA hU0 m5 m7 m8 (by rw [d2 0 (by omega) (by omega) (by omega) (by omega), e0, a4, hmin]) e7 (by rw [d2 0 (by omega) (by omega) (by omega) (by omega), e0]; exact a3)
    (RW_s a7 hA.1.1.1 (fun b h1 h2 => by rw [d2 b (by omega) (by omega) (by omega) (by omega), hw.1 b (by omega) (by omega) (by omega)]))
    (fun b h1 h2 h3 => by rw [d2 b (by omega) (by omega) (by omega) (by omega), c2 b (by omega) (by omega) (by omega) (by omega) h3])
    (fun j hj => by rw [n1]; exact hl j hj)
    (fun j hj => by rw [e517, m9 j hj, u513]) (fun p j hp hj => by rw [e517, m10 p j hp hj, u517])
  obtain ⟨T', hT', hA'⟩ := hA'
  refine ⟨⟨?_, ?_, T', hT', by rw [n1]; exact hA'⟩, ?_, hring.1, ⟨L, l1, ?_, ?_, ?_, fun i hi => ?_⟩, ?_, by rw [n1]; exact hU', ?_, hring.2⟩
  · rw [n1]; exact RW_s hR' hA'.1.1.1 (fun b h1 h2 => d2 b (by omega) (by omega) (by omega) (by omega))
  · rw [n1]; exact RLw_c hA'.1.2.2.1 rfl (fun _ _ _ => rfl) (fun b h1 h2 => d2 b (by omega) (by omega) (by omega) (by omega)) hL'
  · rcases hI with ⟨i1, i2⟩ | ⟨i1, i2, i3, i4, T2, hT2, i5⟩
    · exact Or.inl ⟨by rw [t0j 12 (by omega) (by omega)]; exact i1, by rw [d5 6 (by omega) (by omega) (by omega)]; exact i2⟩
    · refine Or.inr ⟨by rw [t0j 12 (by omega) (by omega)]; exact i1, by rw [d5 6 (by omega) (by omega) (by omega)]; exact i2, ?_, ?_, T2, by omega, by rw [e514]; exact i5⟩
      · rw [e514]; exact RW_s i3 i5.1.1.1 (fun b h1 h2 => by rw [d2 b (by omega) (by omega) (by omega) (by omega), c2 b (by omega) (by omega) (by omega) (by omega) (by omega)])
      · have q : ∀ b, 10 ≤ b → b < 15 → t2.1 b = s.1 b := fun b h1 h2 => by rw [d2 b (by omega) (by omega) (by omega) (by omega), c2 b (by omega) (by omega) (by omega) (by omega) (by omega)]
        unfold RLb at i4 ⊢
        rw [e514, q 10 (by omega) (by omega), q (10 + 1) (by omega) (by omega), q (10 + 2) (by omega) (by omega), q (10 + 3) (by omega) (by omega), q (10 + 4) (by omega) (by omega)]
        exact i4
  · rw [d2 1 (by omega) (by omega) (by omega) (by omega), c2 1 (by omega) (by omega) (by omega) (by omega) (by omega)]; exact l2
  · rw [d2 1 (by omega) (by omega) (by omega) (by omega), c2 1 (by omega) (by omega) (by omega) (by omega) (by omega)]; exact l3
  · rw [d5 9 (by omega) (by omega) (by omega)]; exact l4
  · rw [d2 2 (by omega) (by omega) (by omega) (by omega), c2 2 (by omega) (by omega) (by omega) (by omega) (by omega), d2 518 (by omega) (by omega) (by omega) (by omega), c2 518 (by omega) (by omega) (by omega) (by omega) (by omega)]; exact l5 i hi
  · rw [t0j 13 (by omega) (by omega), d5 14 (by omega) (by omega) (by omega)]; exact hF
  · rw [d5 6 (by omega) (by omega) (by omega), e514]; exact fun q => IUH_mo (hU1 q) hB
theorem z_ticks (hG : G B s) (hB : B + 60 < 1000000000) (v1 : Int32) : ZT (B + 60) [(0, 12, 1)] (q138 v1) (q281 v1) s := by
  have hG60 : G (B + 60) s := by
    obtain ⟨⟨hR, hL, T, hT, hA⟩, hI, ⟨r, x, r1, r2, r3, r4, r5, r6⟩, hT2, hF, hU0, hU1, hU2⟩ := hG
    refine ⟨⟨hR, hL, T, by omega, hA⟩, ?_, ⟨r, x, r1, r2, r3, r4, r5, fun d hd => ?_⟩, hT2, hF, IUH_mo hU0 (by omega), fun q => IUH_mo (hU1 q) (by omega), fun r h1 h2 p hp => IUH_mo (hU2 r h1 h2 p hp) (by omega)⟩
    · rcases hI with h | ⟨i1, i2, i3, i4, T2, hT2, i5⟩
      · exact Or.inl h
      · exact Or.inr ⟨i1, i2, i3, i4, T2, by omega, i5⟩
    · obtain ⟨q1, q2, T', hT', q3⟩ := r6 d hd
      exact ⟨q1, q2, T', by omega, q3⟩
  have hG0 := hG
  obtain ⟨⟨hR, hL, T, hT, hA⟩, -, -, -, -, hU0, -⟩ := hG0
  have bad : (v1 < nI 1 ∨ nI 61 ≤ v1) → ZT (B + 60) [(0, 12, 1)] (q138 v1) (q281 v1) s := fun h => by
    refine ZX_t (x := 0) (u := 0) (w := 12) (c := 1) (v := nI 0) hG60 ?_ rfl (by omega) (by omega) (fun t ht => ?_)
    · unfold q138 q138_11
      simp only [nI_lit]
      by_cases h0 : v1 < nI 1
      · simp only [h0, ↓reduceIte]
      · have h1 : ¬ v1 ≤ nI 60 := Int32.not_le.mpr (Int32.lt_of_lt_of_le (by decide) (h.resolve_left h0))
        simp only [h0, h1, ↓reduceIte]
    · have hin : ∀ u : mS, q189 v1 (nI 1) (nI 60) u = rv (nI 0) u := fun u => by
        unfold q189
        rw [nI_lit, nI_lit]
        by_cases h0 : v1 < nI 1
        · simp only [h0, ↓reduceIte]
        · have h1 : nI 60 < v1 := Int32.lt_of_lt_of_le (by decide) (h.resolve_left h0)
          simp only [h0, h1, ↓reduceIte]
      unfold q281
      simp only [nI_lit, sp_e]
      rw [hin, bN_rv, if_neg (not_not_intro rfl)]
      unfold q281_21
      rw [nI_lit, m188_1, bN_rv, nI_lit, if_neg (by decide)]
  rcases ix_of v1 61 (by omega) with h | h | ⟨N, hN, e⟩
  · exact bad (Or.inl (Int32.lt_trans h (by decide)))
  · exact bad (Or.inr h)
  · subst e
    by_cases hN0 : N = 0
    · subst hN0; exact bad (Or.inl (by decide))
    · obtain ⟨s1, k1, k2, -, k3, k4, k5⟩ := act_Z (B' := B + 60) hG (by omega)
      obtain ⟨s2, j1, j2, j3, ⟨T', hT', hA'⟩, j5⟩ := p112 (N := N) (by omega) (by omega) k3 k4 hA (by omega)
      have hrun := IU_run N (s.1 513) T B hA (by omega) hU0.1
      have hh := IH_run N (s.1 513) T hA (by omega) hU0.2
      refine Or.inl ⟨cRun N (s.1 513) (nI 0), s2, ?_, j5.2.trans k2, fun t ht => ?_⟩
      · unfold q138
        have q0 : ¬ nI N < nI 1 := by rw [nI_ltv (by omega) (by omega)]; omega
        have q1 : nI N ≤ nI 60 := by rw [nI_lev (by omega) (by omega)]; omega
        simp only [nI_lit, q0, q1, ↓reduceIte]
        rw [k1, bM_ru, j1, bN_rv]
      · obtain ⟨t1, l1, l2, l3, l4, l5⟩ := k5 s2 (mRun N (s.1 513)) j5 j2 j3 ⟨T', by omega, hA'⟩ ⟨IU_mo hrun (by omega), hh⟩ (fun j hj => LJ_run hj N _ T hA (by omega) hU0.2) t ht
        obtain ⟨t2, o1, o2⟩ := m272 (t := t1) (N := N) (by omega) l3 hA (by omega)
        refine ⟨t2, ?_, Lq_e (o2.2.2.2.trans l2), by rw [o2.2.2.1 0 (by omega)]; exact l4, l5 t2 o2⟩
        have hin : ∀ u : mS, q189 (nI N) (nI 1) (nI 60) u = rv (nI 1) u := fun u => by
          unfold q189; simp (disch := omega) only [nI_lit, nI_add, pk_mul, nI_clp, nI_eqv, nI_lev, nI_ltv, nI_neg, nI_neg', nI_subv, Nat.add_zero, Nat.zero_add, Nat.mul_zero, Nat.reduceAdd, bN_rv, bM_ru, bV_rv, bV_rx, bU_ru, bU_rx, bN_ite, bM_ite, bV_ite, bU_ite, ↓bx_e, ↓sp_e, gA_ok, gZ_n, gB_0, gB_1, gB_i, and_true, and_false, true_and, false_and, decide_true, decide_false, ↓reduceIte, not_true_eq_false, not_false_eq_true, Bool.false_eq_true, Bool.true_eq_false, Bool.and_true, Bool.and_false, Bool.true_and, Bool.false_and, Bool.or_true, Bool.or_false, Bool.true_or, Bool.false_or, Bool.not_true, Bool.not_false, le_f, le_t, lt_f, lt_t, eq_f, ↓reduceIte, not_true_eq_false, not_false_eq_true, ite_10, bt_0, bt_1]
        unfold q281
        simp only [nI_lit, sp_e]
        rw [hin, bN_rv, if_pos (by decide)]
        unfold q281_21
        rw [nI_lit, m188_0, bN_rv, nI_lit, if_pos rfl, l1, bM_ru, o1, bN_rv]
end ACT
