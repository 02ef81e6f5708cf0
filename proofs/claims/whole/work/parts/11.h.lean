/-! BEGIN -/
section ACT
variable {B : Nat} {s : mS}
theorem all0 {f : Nat → Int32} : (sAll f (nI 0) = nI 0) ↔ fs (fun i => !(sU f i)) 8 0 = none := by
  constructor
  · intro h
    cases e : fs (fun i => !(sU f i)) 8 0 with
    | none => rfl
    | some i =>
      obtain ⟨-, h2, h3, -⟩ := fs_some e
      have := bt_sAll (f := f) (st := nI 0) i
      rw [h, bt_n0, decide_eq_true (show i < 8 by omega), Bool.true_and] at this
      unfold sU at h3
      rw [Bool.not_not] at h3
      rw [h3] at this; cases this
  · intro h
    refine b_ext fun j hj => ?_
    rw [bt_sAll, bt_n0]
    by_cases h8 : j < 8
    · have := fs_none h j (by omega) (by omega)
      unfold sU at this
      rw [Bool.not_not] at this
      rw [this, Bool.and_false]
    · rw [decide_eq_false h8, Bool.false_and]
theorem z_begin (hG : G B s) (hB : B + 60 < 1000000000) (v1 : Int32) : ZT (B + 60) [(2, 12, 1), (4, 15, 2)] (q139 v1) (q282 v1) s := by
  have hG60 := G_mo hG (show B ≤ B + 60 by omega)
  have hG0 := hG
  obtain ⟨⟨hR, hL, T, hT, hA⟩, -, -, -, -, hU0, -⟩ := hG0
  obtain ⟨n, hn, f0, y0, -⟩ := hR.2.1
  simp only [Nat.reduceAdd] at y0
  have bad : (v1 < nI 0 ∨ nI n ≤ v1) → ZT (B + 60) [(2, 12, 1), (4, 15, 2)] (q139 v1) (q282 v1) s := fun h => by
    refine ZX_t (x := 2) (u := 2) (w := 12) (c := 1) (v := nI 0) hG60 (by unfold q139; rw [p181_f y0 h]; rfl) rfl (by omega) (by omega) (fun t ht => ?_)
    unfold q282
    simp only [nI_lit, sp_e]
    rw [m275_f hn (by rw [t0_513, ht]; exact f0) h, bN_rv, m188_1, bN_rv, if_pos (by decide)]
  rcases ix_of v1 n (by omega) with h | h | ⟨c, hc, e⟩
  · exact bad (Or.inl h)
  · exact bad (Or.inr h)
  · subst e
    have k71 := p71 hR.1 (nI c)
    have k70 := p70 hR.1 hA.1.1
    simp only [Nat.reduceAdd] at k71 k70
    have hm : ∀ t : mS, t.1 513 = s.1 513 → q282 (nI c) t = if ¬ oI (sRun (s.1 513) (nI c)) = -nI 1 then q282_41 (nI c) (nI 1) (sI t 512 0 (nI 0)) else (if ¬ sAll (s.1 513) (nI 0) = nI 0 then q282_41 (nI c) (nI 0) (sI t 512 0 (nI 0)) else q282_41 (nI c) (nI 1) (sI t 512 0 (nI 0))) := fun t ht => by
      have e5 : (sI t 512 0 (nI 0)).1 513 = s.1 513 := by rw [t0_513]; exact ht
      unfold q282 q282_36
      simp only [nI_lit, sp_e]
      rw [m275_t hn (by rw [e5]; exact f0) hc, bN_rv, m188_0, bN_rv, if_neg (not_not_intro rfl), m209, bN_rv, e5, sOf_eq hA.1.1]
      simp only [m208, bN_rv, e5]
    have thr : ∀ t : mS, q282_41 (nI c) (nI 1) (sI t 512 0 (nI 0)) = rv (nI 0) (sI (sI t 512 0 (nI 0)) 512 0 (nI 2)) := fun t => by
      unfold q282_41
      rw [nI_lit, m188_1, bN_rv, nI_lit, if_neg (by decide)]
    cases er : sRun (s.1 513) (nI c) with
    | some i =>
      have hi := sRun_s er
      have hne : ¬ nI i = -nI 1 := by rw [nI_neg (by omega)]; exact id
      unfold sRun at er
      refine ZX_t (x := 4) (u := 4) (w := 15) (c := 2) (v := nI 0) hG60 ?_ rfl (by omega) (by omega) (fun t ht => ?_)
      · unfold q139 q139_34
        rw [p181_t hn y0 hc, bU_ru]
        simp only [Nat.reduceAdd, k71, bN_rv, er, oI_s, nI_lit, hne, not_false_eq_true, ↓reduceIte]
      · have er2 : sRun (s.1 513) (nI c) = some i := er
        rw [hm t (by rw [ht]), er2, oI_s, if_pos hne, thr]
    | none =>
      have er2 := er
      unfold sRun at er
      cases ef : fs (fun i => !(sU (s.1 513) i)) 8 0 with
      | none =>
        refine ZX_t (x := 4) (u := 4) (w := 15) (c := 2) (v := nI 0) hG60 ?_ rfl (by omega) (by omega) (fun t ht => ?_)
        · unfold q139 q139_34
          rw [p181_t hn y0 hc, bU_ru]
          simp only [Nat.reduceAdd, k71, k70, bN_rv, er, ef, oI_n, nI_lit, not_true_eq_false, ↓reduceIte]
        · rw [hm t (by rw [ht]), er2, oI_n, if_neg (not_not_intro rfl), if_neg (not_not_intro (all0.mpr ef)), thr]
      | some i =>
        have hi8 := (fs_some ef).2.1
        have hne : ¬ nI i = -nI 1 := by rw [nI_neg (by omega)]; exact id
        have hz : s.1 513 (74 + 21 * i) = nI 0 := by
          have h3 := (fs_some ef).2.2.1
          unfold sU at h3
          rw [Bool.not_not] at h3
          exact of_decide_eq_true h3
        have ha0 : ¬ sAll (s.1 513) (nI 0) = nI 0 := fun q => by rw [all0.mp q] at ef; cases ef
        obtain ⟨s1, k1, k2, k0, k3, k4, k5⟩ := act_Z (B' := B + 60) hG (by omega)
        obtain ⟨s2, j1, j2, j3, j4, j5⟩ := p115 k3 k4 hA.1 (by omega) (by omega) hn f0 hc ef (sRun_n er2)
        refine Or.inl ⟨nI i, s2, ?_, j5.2.trans k2, fun t ht => ?_⟩
        · unfold q139
          rw [p181_t hn y0 hc, bU_ru]
          simp only [Nat.reduceAdd, k71, k70, bN_rv, er, ef, oI_n, oI_s, nI_lit, not_true_eq_false, hne, not_false_eq_true, ↓reduceIte]
          rw [k1, bM_ru, j1, bN_rv]
        · have e5 : t.1 513 = s.1 513 := by rw [ht, j5.1 513 (by omega) (by omega) (by omega)]; exact k0
          obtain ⟨t1, l1, l2, l3, l4, l5⟩ := k5 s2 (mBeg (s.1 513) i c) j5 j2 j3 ⟨T + 1, by omega, IA_beg hA (by omega) (by omega) hn f0 hc hz (sRun_n er2)⟩ ⟨IU_mo (IU_beg hU0.1) (by omega), IH_beg hU0.2 hA.2.1 (by omega) (by omega)⟩ (fun j hj => LJ_beg (by omega) hj) t ht
          have m62 := m262 (t := t1) l3 (c := c) ef
          have o3 : MT t1 (wr t1 (mBeg (s.1 513) i c)) (mBeg (s.1 513) i c) := MT_w
          refine ⟨_, ?_, Lq_e (o3.2.2.2.trans l2), by rw [o3.2.2.1 0 (by omega)]; exact l4, l5 _ o3⟩
          rw [hm t e5, er2, oI_n, if_neg (not_not_intro rfl), if_pos ha0]
          unfold q282_41
          rw [nI_lit, m188_0, bN_rv, nI_lit, if_pos rfl, l1, bM_ru, m62, bN_rv]
end ACT
