/-! COMMIT, ABORT -/
theorem IA_com2 {T : Nat} {g : Nat → Int32} (hA8 : IA T g) (hT : T + 1 < 1000000000) {i : Nat} (hi : i < 8) (hr : sR g i = true) : IA (T + 1) (mCom g i) := by
  have hw := (hA8.1.1.1 i hi).2
  have M2 := IM_st hA8.1 hT
  have hr2 : sR (upd g 3 (g 3 + nI 1)) i = true := by rw [sR_u (by omega)]; exact hr
  have S3 : IS (mCo0 g i) := by
    obtain ⟨i0, i1, i2, i3, i4, i5, i6⟩ := M2.1
    have huu := sR_U hr2
    unfold mCo0
    refine ⟨IW_c i0 (fun j hj => mClose_n (by omega) (by omega)), fun k hk => ?_, fun k hk hz w' hw' => ?_, fun k l hk hb => ?_, fun k hk => ?_, fun k l hk hl ha hb hc => ?_, fun k l q hk hl hq ha hb hc hd => ?_⟩
    · by_cases e : k = i
      · subst e; rw [mClose_0]; exact Or.inr (Or.inr rfl)
      · rw [mClose_n (by omega) (by omega)]; exact i1 k hk
    · have hji : k ≠ i := by
        intro e; subst e
        rw [mClose_0] at hz
        exact absurd hz (by decide)
      rw [mClose_n (by omega) (by omega)] at hz
      rw [mClose_n (by omega) (by omega)]; exact i2 k hk hz w' hw'
    · rw [mClose_n (by omega) (by omega)] at hb
      rw [sU_cl huu]; exact i3 k l hk hb
    · rw [mClose_n (by omega) (by omega)]; exact i4 k hk
    · rw [sR_cl, Bool.and_eq_true] at ha hb
      rw [mClose_n (by omega) (by omega), mClose_n (by omega) (by omega)] at hc
      exact i5 k l hk hl ha.1 hb.1 hc
    · rw [sR_cl, Bool.and_eq_true] at ha hb
      rw [mClose_n (by omega) (by omega)] at hc hd
      exact i6 k l q hk hl hq ha.1 hb.1 hc hd
  have M3 : IM (T + 1) (mCo0 g i) := IM_co0 hA8.1 hT hi hr S3
  have hu3 : sU (mCo0 g i) i = true := by unfold mCo0; rw [sU_cl (sR_U hr2)]; exact sR_U hr2
  have M5 := IM_co3 hi hw M3 hu3 (wh_c (mCo0_n (by omega) (by omega) (by omega)))
  have e37 : mCo3 g i 7 = g 7 := by
    unfold mCo3 mCo2
    rw [ud_n (by omega), ud_n (by omega), ud_n (by omega), mCo1_n (by omega) (by omega) (by omega) (fun k hk => by omega)]
  have M7 := IM_co4 M5 (by unfold hN; rw [e37]; exact hA8.2.2.1)
  have M8 := IM_spo (i := i) M7 (IS_spo2 M7.1)
  exact IA_com hA8 (IM_mSt M8) M8 hw hi
section ACT
variable {B : Nat} {s : mS}
theorem G_mo {B B' : Nat} {s : mS} (hG : G B s) (hB : B ≤ B') : G B' s := by
  obtain ⟨⟨hR, hL, T, hT, hA⟩, hI, ⟨r, x, r1, r2, r3, r4, r5, r6⟩, hT2, hF, hU0, hU1, hU2⟩ := hG
  refine ⟨⟨hR, hL, T, by omega, hA⟩, ?_, ⟨r, x, r1, r2, r3, r4, r5, fun d hd => ?_⟩, hT2, hF, IUH_mo hU0 (by omega), fun q => IUH_mo (hU1 q) (by omega), fun r h1 h2 p hp => IUH_mo (hU2 r h1 h2 p hp) (by omega)⟩
  · rcases hI with h | ⟨i1, i2, i3, i4, T2, hT2, i5⟩
    · exact Or.inl h
    · exact Or.inr ⟨i1, i2, i3, i4, T2, by omega, i5⟩
  · obtain ⟨q1, q2, T', hT', q3⟩ := r6 d hd
    exact ⟨q1, q2, T', by omega, q3⟩
theorem p183 {f : Nat → Int32} (h : RS s 32 f) {i : Nat} (hi : i < 8) : q183 (nI i) s = if sR f i = true then ru s else rx 4 s := by
  unfold q183
  have k := p64 h hi
  simp only [Nat.reduceAdd, k, bN_rv, nI_lit, b2_0]
  cases sR f i <;> simp only [and_true, and_false, true_and, false_and, decide_true, decide_false, ↓reduceIte, not_true_eq_false, not_false_eq_true, Bool.false_eq_true, Bool.true_eq_false, Bool.and_true, Bool.and_false, Bool.true_and, Bool.false_and, Bool.or_true, Bool.or_false, Bool.true_or, Bool.false_or, Bool.not_true, Bool.not_false]
theorem pm286 {f : Nat → Int32} (h : RS s 32 f) (hf : s.1 513 = f) (v1 : Int32) :
    (∃ i, i < 8 ∧ v1 = nI i ∧ sR f i = true ∧ q179 v1 s = ru s ∧ q183 v1 s = ru s ∧ ∀ t : mS, t.1 513 = f → q286 v1 t = rv (nI 0) (sI t 512 0 (nI 0))) ∨
    (q179 v1 s = rx 2 s ∧ ∀ t : mS, q286 v1 t = rv (nI 1) (sI (sI t 512 0 (nI 0)) 512 0 (nI 1))) ∨
    (q179 v1 s = ru s ∧ q183 v1 s = rx 4 s ∧ ∀ t : mS, t.1 513 = f → q286 v1 t = rv (nI 1) (sI (sI t 512 0 (nI 0)) 512 0 (nI 2))) := by
  have bad : (v1 < nI 0 ∨ nI 8 ≤ v1) → (q179 v1 s = rx 2 s ∧ ∀ t : mS, q286 v1 t = rv (nI 1) (sI (sI t 512 0 (nI 0)) 512 0 (nI 1))) := fun hb => by
    refine ⟨p179_f hb, fun t => ?_⟩
    unfold q286 q286_38
    simp only [nI_lit, sp_e]
    rw [m273_f hb, bN_rv, m188_1, bN_rv, if_pos (by decide)]
  rcases ix_of v1 8 (by omega) with hb | hb | ⟨i, hi, e⟩
  · exact Or.inr (Or.inl (bad (Or.inl hb)))
  · exact Or.inr (Or.inl (bad (Or.inr hb)))
  · subst e
    have k183 := p183 (s := s) h hi
    have m0 : ∀ t : mS, t.1 513 = f → q286 (nI i) t = if sR f i = true then rv (nI 0) (sI t 512 0 (nI 0)) else rv (nI 1) (sI (sI t 512 0 (nI 0)) 512 0 (nI 2)) := fun t ht => by
      have e5 : (sI t 512 0 (nI 0)).1 513 = f := by rw [t0_513]; exact ht
      unfold q286
      simp only [nI_lit, sp_e]
      rw [m273_t hi, bN_rv, m188_0, bN_rv, if_neg (not_not_intro rfl), m205 hi, bN_rv, e5]
      unfold q286_31 q286_38
      cases sR f i
      · rw [b2_f, if_neg (not_not_intro rfl), nI_lit, m188_1, bN_rv, nI_lit, if_neg (by decide), if_neg (by decide)]
        rfl
      · rw [b2_t, if_pos (by decide), nI_lit, m188_0, bN_rv, nI_lit, if_pos rfl, if_pos rfl]
    cases hr : sR f i
    · refine Or.inr (Or.inr ⟨p179_t hi, by rw [k183, hr]; rfl, fun t ht => by rw [m0 t ht, hr]; rfl⟩)
    · exact Or.inl ⟨i, hi, rfl, hr, p179_t hi, by rw [k183, hr]; rfl, fun t ht => by rw [m0 t ht, hr]; rfl⟩
theorem z_commit (hG : G B s) (hB : B + 60 < 1000000000) (v1 : Int32) : ZT (B + 60) [(2, 12, 1), (4, 15, 2)] (q142 v1) (q287 v1) s := by
  have hG60 := G_mo hG (show B ≤ B + 60 by omega)
  have hG0 := hG
  obtain ⟨⟨hR, hL, T, hT, hA⟩, -, -, -, -, hU0, -⟩ := hG0
  rcases pm286 (s := s) hR.1 rfl v1 with ⟨i, hi, e, hr, c1, c2, c3⟩ | ⟨c1, c3⟩ | ⟨c1, c2, c3⟩
  · subst e
    obtain ⟨s1, k1, k2, k0, k3, k4, k5⟩ := act_Z (B' := B + 60) hG (by omega)
    obtain ⟨s2, j1, j2, j3, j4, j5⟩ := p118 k3 k4 hA.1 hA.2.1 (by omega) (by omega) hi hr
    refine Or.inl ⟨s.1 513 3 + nI 1, s2, ?_, j5.2.trans k2, fun t ht => ?_⟩
    · unfold q142
      rw [c1, bU_ru, c2, bU_ru, k1, bM_ru, j1, bN_rv]
    · have e5 : t.1 513 = s.1 513 := by rw [ht, j5.1 513 (by omega) (by omega) (by omega)]; exact k0
      obtain ⟨t1, l1, l2, l3, l4, l5⟩ := k5 s2 (mCom (s.1 513) i) j5 j2 j3 ⟨T + 1, by omega, IA_com2 hA (by omega) hi hr⟩ ⟨IU_mo (IU_com hU0.1 hA.2.2.1) (by omega), IH_com hU0.2 hA.2.1 hi hA.2.2.1⟩ (fun j hj => LJ_com hU0.2 hA.2.1 hi hA.2.2.1 hj) t ht
      obtain ⟨t2, o1, o2⟩ := m268 (t := t1) l3 hA.1 (by omega) hi hr hA.2.2.1 hA.2.2.2
      have o3 : MT t1 t2 (mCom (s.1 513) i) := MT_t MT_w (MT_m o2)
      refine ⟨t2, ?_, Lq_e (o3.2.2.2.trans l2), by rw [o3.2.2.1 0 (by omega)]; exact l4, l5 t2 o3⟩
      unfold q287
      rw [c3 t e5, bN_rv, nI_lit, if_pos rfl, l1, bM_ru, o1, bN_rv]
  · refine ZX_t (x := 2) (u := 2) (w := 12) (c := 1) (v := nI 0) hG60 (by unfold q142; rw [c1]; rfl) rfl (by omega) (by omega) (fun t ht => ?_)
    unfold q287
    rw [c3 t, bN_rv, nI_lit, if_neg (by decide)]
  · refine ZX_t (x := 4) (u := 4) (w := 15) (c := 2) (v := nI 0) hG60 (by unfold q142; rw [c1, bU_ru, c2]; rfl) rfl (by omega) (by omega) (fun t ht => ?_)
    unfold q287
    rw [c3 t (by rw [ht]), bN_rv, nI_lit, if_neg (by decide)]
end ACT
