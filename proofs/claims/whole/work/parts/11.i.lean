/-! WRITE -/
section ACT
variable {B : Nat} {s : mS}
theorem z_write (hG : G B s) (hB : B + 60 < 1000000000) (v1 v2 : Int32) : ZT (B + 60) [(2, 20, 1), (4, 24, 2)] (q141 v1 v2) (q285 v1 v2) s := by
  have hG60 := G_mo hG (show B ≤ B + 60 by omega)
  have hG0 := hG
  obtain ⟨⟨hR, hL, T, hT, hA⟩, -, -, -, -, hU0, -⟩ := hG0
  have bad : (v1 < nI 0 ∨ nI 8 ≤ v1) ∨ ((∃ i, i < 8 ∧ v1 = nI i) ∧ (v2 < nI 0 ∨ nI 10 ≤ v2)) → ZT (B + 60) [(2, 20, 1), (4, 24, 2)] (q141 v1 v2) (q285 v1 v2) s := by
    intro hb
    refine ZX_t (x := 2) (u := 2) (w := 20) (c := 1) (v := nI 0) hG60 ?_ rfl (by omega) (by omega) (fun t ht => ?_)
    · unfold q141
      rcases hb with h | ⟨⟨i, hi, e⟩, h⟩
      · rw [p179_f h]; rfl
      · subst e
        rw [p179_t hi, bU_ru, p180_f h]; rfl
    · have : q283 v1 v2 t = rv (nI 1) (sI (sI t 512 0 (nI 0)) 512 0 (nI 1)) := by
        unfold q283 q283_20 q283_25
        simp only [nI_lit, sp_e]
        rcases hb with h | ⟨⟨i, hi, e⟩, h⟩
        · rw [m273_f h, bN_rv, if_pos (by decide), m188_1, bN_rv, gB_1]
        · subst e
          rw [m273_t hi, bN_rv, if_neg (not_not_intro rfl), m274_f h, bN_rv, if_neg (by decide), m188_1, bN_rv, gB_1]
      unfold q285
      rw [this, bN_rv, nI_lit, if_pos (by decide)]
  rcases ix_of v1 8 (by omega) with h | h | ⟨i, hi, e⟩
  · exact bad (Or.inl (Or.inl h))
  · exact bad (Or.inl (Or.inr h))
  · rcases ix_of v2 10 (by omega) with h | h | ⟨k, hk, e2⟩
    · exact bad (Or.inr ⟨⟨i, hi, e⟩, Or.inl h⟩)
    · exact bad (Or.inr ⟨⟨i, hi, e⟩, Or.inr h⟩)
    · subst e; subst e2
      have k183 := p183 (s := s) hR.1 hi
      have ok : ∀ t : mS, q283 (nI i) (nI k) t = rv (nI 0) (sI t 512 0 (nI 0)) := fun t => by
        unfold q283 q283_25
        simp only [nI_lit, sp_e]
        rw [m273_t hi, bN_rv, if_neg (not_not_intro rfl), m274_t hk, bN_rv, if_pos rfl, m188_0, bN_rv, gB_0]
      have thr : ∀ t : mS, q285_35 (nI i) (nI k) (sI t 512 0 (nI 0)) = rv (nI 0) (sI (sI t 512 0 (nI 0)) 512 0 (nI 2)) := fun t => by
        unfold q285_35 q285_40
        rw [nI_lit, nI_lit, m188_1, bN_rv, nI_lit, if_neg (by decide)]
      cases hr : sR (s.1 513) i
      · rw [hr] at k183
        refine ZX_t (x := 4) (u := 4) (w := 24) (c := 2) (v := nI 0) hG60 (by unfold q141; rw [p179_t hi, bU_ru, p180_t hk, bU_ru, k183]; rfl) rfl (by omega) (by omega) (fun t ht => ?_)
        have e5 : (sI t 512 0 (nI 0)).1 513 = s.1 513 := by rw [t0_513, ht]
        unfold q285
        rw [ok t, bN_rv, nI_lit, if_neg (not_not_intro rfl), m205 hi, bN_rv, e5, hr, b2_f, if_pos rfl, thr]
      · rw [hr] at k183
        have hu := sR_U hr
        have k66 := p66 hR.1 hi hu
        have k73 := p73 hR.1 hi hk
        simp only [Nat.reduceAdd] at k66 k73
        have hm : ∀ t : mS, t.1 513 = s.1 513 → q285 (nI i) (nI k) t = if ¬ b2 (sOn (s.1 513) i) = nI 0 then q285_35 (nI i) (nI k) (sI t 512 0 (nI 0)) else (if b2 (wts (s.1 513) i k) = nI 0 then q285_40 (nI i) (nI k) (nI 0) (sI t 512 0 (nI 0)) else q285_35 (nI i) (nI k) (sI t 512 0 (nI 0))) := fun t ht => by
          have e5 : (sI t 512 0 (nI 0)).1 513 = s.1 513 := by rw [t0_513]; exact ht
          unfold q285
          rw [ok t, bN_rv, nI_lit, if_neg (not_not_intro rfl), m205 hi, bN_rv, e5, hr, b2_t, if_neg (by decide), m207 (by rw [e5]; exact hA.1.1.1) hi, bN_rv, e5]
          rw [m264 (by rw [e5]; exact hA.1.1) hi hk, bN_rv, e5]
          rfl
        have ew : (!(decide (sWri (s.1 513) k = none)) && !(decide (sWri (s.1 513) k = some i))) = wts (s.1 513) i k := rfl
        rw [ew] at k73
        cases ho : sOn (s.1 513) i
        · cases hw : wts (s.1 513) i k
          · have hwt := wts_f hw
            obtain ⟨s1, k1, k2, k0, k3, k4, k5⟩ := act_Z (B' := B + 60) hG (by omega)
            obtain ⟨s2, j1, j2, j3, j4, j5⟩ := p117 k3 k4 hA.1 (by omega) hi hk hr hwt
            have k64 := p64 j2.1 hi
            simp only [Nat.reduceAdd] at k64
            refine Or.inl ⟨b2 (sR (mWrite (s.1 513) i k) i), s2, ?_, j5.2.trans k2, fun t ht => ?_⟩
            · unfold q141
              rw [p179_t hi, bU_ru, p180_t hk, bU_ru, k183, if_pos rfl, bU_ru]
              simp only [Nat.reduceAdd, k66, ho, b2_f, bN_rv, nI_lit, not_true_eq_false, ↓reduceIte, k73, hw]
              rw [k1, bM_ru, j1, bM_ru, k64, bN_rv, gB_b]
            · have e5 : t.1 513 = s.1 513 := by rw [ht, j5.1 513 (by omega) (by omega) (by omega)]; exact k0
              obtain ⟨t1, l1, l2, l3, l4, l5⟩ := k5 s2 (mWrite (s.1 513) i k) j5 j2 j3 ⟨T, by omega, IA_write hA hi hk hr hwt⟩ ⟨IU_mo (IU_write hU0.1) (by omega), IH_write hU0.2 hi⟩ (fun j hj => LJ_write hU0.2 hi hj) t ht
              obtain ⟨t2, o1, o2⟩ := m265 (t := t1) l3 hA.1 hi hk hr hwt
              have o3 := MT_m o2
              refine ⟨t2, ?_, Lq_e (o3.2.2.2.trans l2), by rw [o3.2.2.1 0 (by omega)]; exact l4, l5 t2 o3⟩
              rw [hm t e5, ho, hw, b2_f, if_neg (not_not_intro rfl), if_pos rfl]
              unfold q285_40
              rw [nI_lit, m188_0, bN_rv, nI_lit, if_pos rfl, l1, bM_ru, o1, bM_ru, m205 hi, bN_rv, o3.1, gB_b]
          · refine ZX_t (x := 4) (u := 4) (w := 24) (c := 2) (v := nI 0) hG60 ?_ rfl (by omega) (by omega) (fun t ht => ?_)
            · unfold q141 q141_42
              rw [p179_t hi, bU_ru, p180_t hk, bU_ru, k183, if_pos rfl, bU_ru]
              simp only [Nat.reduceAdd, k66, ho, b2_f, b2_t, bN_rv, nI_lit, not_true_eq_false, ↓reduceIte, k73, hw, one_ne]
            · rw [hm t (by rw [ht]), ho, hw, b2_f, b2_t, if_neg (not_not_intro rfl), if_neg (by decide), thr]
        · refine ZX_t (x := 4) (u := 4) (w := 24) (c := 2) (v := nI 0) hG60 ?_ rfl (by omega) (by omega) (fun t ht => ?_)
          · unfold q141 q141_42
            rw [p179_t hi, bU_ru, p180_t hk, bU_ru, k183, if_pos rfl, bU_ru]
            simp only [Nat.reduceAdd, k66, ho, b2_t, bN_rv, nI_lit, one_ne, not_false_eq_true, ↓reduceIte]
          · rw [hm t (by rw [ht]), ho, b2_t, if_pos (by decide), thr]
end ACT
