/-! TICKS IN THE REFERENCE -/
def MT (t t' : mS) (f' : Nat → Int32) : Prop := t'.1 513 = f' ∧ (∀ b, b ≠ 512 → b ≠ 513 → b ≠ 520 → t'.1 b = t.1 b) ∧ (∀ j, j ≠ 18 → t'.1 512 j = t.1 512 j) ∧ t'.2 = t.2
theorem MT_t {t t' t'' : mS} {f' f'' : Nat → Int32} (h : MT t t' f') (h2 : MT t' t'' f'') : MT t t'' f'' := ⟨h2.1, fun b x y z => (h2.2.1 b x y z).trans (h.2.1 b x y z), fun j hj => (h2.2.2.1 j hj).trans (h.2.2.1 j hj), h2.2.2.2.trans h.2.2.2⟩
theorem MT_m {t t' : mS} {f f' : Nat → Int32} (h : MA t t' f f') : MT t t' f' := ⟨h.1, h.2.1, h.2.2.1, h.2.2.2.1⟩
theorem MT_w {t : mS} {f' : Nat → Int32} : MT t (wr t f') f' := ⟨wr_1, fun b _ y _ => wr_n y, fun j _ => by rw [wr_n (by omega)], Eq.trans rfl rfl⟩
theorem mTkm {t : mS} {T : Nat} {g : Nat → Int32} (hf : t.1 513 = g) (hA : IA T g) (hT : T + 1 < 1000000000) {c n : Nat} (hn5 : n ≤ 5) (hf0 : g 0 = nI n) (hc : c < n) : ∃ t', (bN (q209 (nI c) t) fun x8 s7 => bN (q270 (nI c) s7) fun x10 s9 => if ¬ x10 = nI 0 then (if nI 200 ≤ x10 then (if nI 300 ≤ x10 then (bN (q268 x8 s9) fun x12 s11 => q271_109 x10 s11) else (bN (q264 x8 (x10 - nI 200) s9) fun x14 s13 => if ¬ x14 = nI 0 then (q271_109 x10 s13) else (bM (q265 x8 (x10 - nI 200) s13) fun s15 => q271_109 x10 s15))) else (bM (q263 x8 (x10 - nI 100) s9) fun s16 => q271_109 x10 s16)) else (bN (q208 (nI 0) s9) fun x18 s17 => if x18 = nI 0 then (q271_109 x10 s17) else (bN (q262 (nI c) s17) fun x20 s19 => q271_109 x10 s19))) = rv (cTk g c) t' ∧ MT t t' (mTk g c) := by
  have hI : IS (t.1 513) := by rw [hf]; exact hA.1.1
  have hp : q209 (nI c) t = rv (oI (sRun g (nI c))) t := by rw [m209, sOf_eq hI, hf]
  have hq : q270 (nI c) t = rv (sStep g c) t := by rw [m270 hI (by omega), hf]
  unfold mTk cTk
  unfold sStep at hq
  rw [hp]
  simp only [bN_rv]
  rw [hq]
  simp only [bN_rv]
  cases e : sRun g (nI c) with
  | none =>
    simp only [oI_n, and_true, and_false, true_and, false_and, decide_true, decide_false, ↓reduceIte, not_true_eq_false, not_false_eq_true, Bool.false_eq_true, Bool.true_eq_false, Bool.and_true, Bool.and_false, Bool.true_and, Bool.false_and, Bool.or_true, Bool.or_false, Bool.true_or, Bool.false_or, Bool.not_true, Bool.not_false]
    have h8 : q208 (nI 0) t = rv (sAll g (nI 0)) t := by rw [m208, hf]
    rw [h8]
    simp only [bN_rv]
    cases e2 : fs (fun i => !(sU g i)) 8 0 with
    | none =>
      have hz : sAll g (nI 0) = nI 0 := by
        apply bt_z
        intro j hj
        rw [bt_sAll]
        by_cases h8 : j < 8
        · have := fs_none e2 j (by omega) (by omega)
          unfold sU at this
          rw [Bool.not_not] at this
          rw [this]; simp only [and_true, and_false, true_and, false_and, decide_true, decide_false, ↓reduceIte, not_true_eq_false, not_false_eq_true, Bool.false_eq_true, Bool.true_eq_false, Bool.and_true, Bool.and_false, Bool.true_and, Bool.false_and, Bool.or_true, Bool.or_false, Bool.true_or, Bool.false_or, Bool.not_true, Bool.not_false]
        · simp only [h8, and_true, and_false, true_and, false_and, decide_true, decide_false, ↓reduceIte, not_true_eq_false, not_false_eq_true, Bool.false_eq_true, Bool.true_eq_false, Bool.and_true, Bool.and_false, Bool.true_and, Bool.false_and, Bool.or_true, Bool.or_false, Bool.true_or, Bool.false_or, Bool.not_true, Bool.not_false]
      refine ⟨t, ?_, ?_⟩
      · simp (disch := omega) only [hz, q271_109, nI_lit, nI_add, pk_mul, nI_clp, nI_eqv, nI_lev, nI_ltv, nI_neg, nI_neg', nI_subv, Nat.add_zero, Nat.zero_add, Nat.mul_zero, Nat.reduceAdd, bN_rv, bM_ru, bV_rv, bV_rx, bU_ru, bU_rx, bN_ite, bM_ite, bV_ite, bU_ite, ↓bx_e, ↓sp_e, gA_ok, gZ_n, gB_0, gB_1, gB_i, and_true, and_false, true_and, false_and, decide_true, decide_false, ↓reduceIte, not_true_eq_false, not_false_eq_true, Bool.false_eq_true, Bool.true_eq_false, Bool.and_true, Bool.and_false, Bool.true_and, Bool.false_and, Bool.or_true, Bool.or_false, Bool.true_or, Bool.false_or, Bool.not_true, Bool.not_false, le_f, le_t, lt_f, lt_t, eq_f, ↓reduceIte, not_true_eq_false, not_false_eq_true, ite_10, bt_0, bt_1]
      · exact ⟨hf, fun _ _ _ _ => rfl, fun _ _ => rfl, rfl⟩
    | some i =>
      have hnz : ¬ sAll g (nI 0) = nI 0 := by
        intro q
        obtain ⟨-, h2, h3, -⟩ := fs_some e2
        have := bt_sAll (f := g) (st := nI 0) i
        unfold sU at h3
        rw [Bool.not_not] at h3
        rw [q, bt_n0, h3, decide_eq_true (show i < 8 by omega)] at this
        cases this
      refine ⟨wr t (mBeg g i c), ?_, MT_w⟩
      simp (disch := omega) only [hnz, m262 hf e2, q271_109, nI_lit, nI_add, pk_mul, nI_clp, nI_eqv, nI_lev, nI_ltv, nI_neg, nI_neg', nI_subv, Nat.add_zero, Nat.zero_add, Nat.mul_zero, Nat.reduceAdd, bN_rv, bM_ru, bV_rv, bV_rx, bU_ru, bU_rx, bN_ite, bM_ite, bV_ite, bU_ite, ↓bx_e, ↓sp_e, gA_ok, gZ_n, gB_0, gB_1, gB_i, and_true, and_false, true_and, false_and, decide_true, decide_false, ↓reduceIte, not_true_eq_false, not_false_eq_true, Bool.false_eq_true, Bool.true_eq_false, Bool.and_true, Bool.and_false, Bool.true_and, Bool.false_and, Bool.or_true, Bool.or_false, Bool.true_or, Bool.false_or, Bool.not_true, Bool.not_false, le_f, le_t, lt_f, lt_t, eq_f, ↓reduceIte, not_true_eq_false, not_false_eq_true, ite_10, bt_0, bt_1]
  | some i =>
    obtain ⟨hi, hr, -⟩ := sRun_s e
    obtain ⟨wx, wy⟩ := w10 hA.1.2.1 (i := i) (show c < 5 by omega)
    by_cases h1 : sXr g i c = nI 0
    · by_cases h2 : sYw g i c = nI 0
      · obtain ⟨t1, j1, j2⟩ := m268 hf hA.1 hT hi hr hA.2.2.1 hA.2.2.2
        simp only [oI_s, h1, h2, and_true, and_false, true_and, false_and, decide_true, decide_false, ↓reduceIte, not_true_eq_false, not_false_eq_true, Bool.false_eq_true, Bool.true_eq_false, Bool.and_true, Bool.and_false, Bool.true_and, Bool.false_and, Bool.or_true, Bool.or_false, Bool.true_or, Bool.false_or, Bool.not_true, Bool.not_false]
        refine ⟨t1, ?_, MT_t MT_w (MT_m j2)⟩
        simp (disch := omega) only [j1, q271_109, nI_lit, nI_add, pk_mul, nI_clp, nI_eqv, nI_lev, nI_ltv, nI_neg, nI_neg', nI_subv, Nat.add_zero, Nat.zero_add, Nat.mul_zero, Nat.reduceAdd, bN_rv, bM_ru, bV_rv, bV_rx, bU_ru, bU_rx, bN_ite, bM_ite, bV_ite, bU_ite, ↓bx_e, ↓sp_e, gA_ok, gZ_n, gB_0, gB_1, gB_i, and_true, and_false, true_and, false_and, decide_true, decide_false, ↓reduceIte, not_true_eq_false, not_false_eq_true, Bool.false_eq_true, Bool.true_eq_false, Bool.and_true, Bool.and_false, Bool.true_and, Bool.false_and, Bool.or_true, Bool.or_false, Bool.true_or, Bool.false_or, Bool.not_true, Bool.not_false, le_f, le_t, lt_f, lt_t, eq_f, ↓reduceIte, not_true_eq_false, not_false_eq_true, ite_10, bt_0, bt_1]
      · obtain ⟨ek, hk⟩ := kN_e wy h2
        simp only [oI_s, h1, h2, and_true, and_false, true_and, false_and, decide_true, decide_false, ↓reduceIte, not_true_eq_false, not_false_eq_true, Bool.false_eq_true, Bool.true_eq_false, Bool.and_true, Bool.and_false, Bool.true_and, Bool.false_and, Bool.or_true, Bool.or_false, Bool.true_or, Bool.false_or, Bool.not_true, Bool.not_false]
        rw [ek]
        generalize kN (sYw g i c) = k at *
        have hw := m264 (t := t) hI hi hk
        rw [hf] at hw
        cases ew : wts g i k with
        | true =>
          unfold wts at ew
          rw [ew] at hw
          refine ⟨t, ?_, ?_⟩
          · simp (disch := omega) only [Nat.add_sub_cancel_left, hw, b2_t, q271_109, nI_lit, nI_add, pk_mul, nI_clp, nI_eqv, nI_lev, nI_ltv, nI_neg, nI_neg', nI_subv, Nat.add_zero, Nat.zero_add, Nat.mul_zero, Nat.reduceAdd, bN_rv, bM_ru, bV_rv, bV_rx, bU_ru, bU_rx, bN_ite, bM_ite, bV_ite, bU_ite, ↓bx_e, ↓sp_e, gA_ok, gZ_n, gB_0, gB_1, gB_i, and_true, and_false, true_and, false_and, decide_true, decide_false, ↓reduceIte, not_true_eq_false, not_false_eq_true, Bool.false_eq_true, Bool.true_eq_false, Bool.and_true, Bool.and_false, Bool.true_and, Bool.false_and, Bool.or_true, Bool.or_false, Bool.true_or, Bool.false_or, Bool.not_true, Bool.not_false, le_f, le_t, lt_f, lt_t, eq_f, ↓reduceIte, not_true_eq_false, not_false_eq_true, ite_10, bt_0, bt_1]
          · simp only [and_true, and_false, true_and, false_and, decide_true, decide_false, ↓reduceIte, not_true_eq_false, not_false_eq_true, Bool.false_eq_true, Bool.true_eq_false, Bool.and_true, Bool.and_false, Bool.true_and, Bool.false_and, Bool.or_true, Bool.or_false, Bool.true_or, Bool.false_or, Bool.not_true, Bool.not_false]; exact ⟨hf, fun _ _ _ _ => rfl, fun _ _ => rfl, rfl⟩
        | false =>
          obtain ⟨t1, j1, j2⟩ := m265 hf hA.1 hi hk hr (wts_f ew)
          unfold wts at ew
          rw [ew] at hw
          refine ⟨t1, ?_, by simp only [and_true, and_false, true_and, false_and, decide_true, decide_false, ↓reduceIte, not_true_eq_false, not_false_eq_true, Bool.false_eq_true, Bool.true_eq_false, Bool.and_true, Bool.and_false, Bool.true_and, Bool.false_and, Bool.or_true, Bool.or_false, Bool.true_or, Bool.false_or, Bool.not_true, Bool.not_false]; exact MT_m j2⟩
          simp (disch := omega) only [Nat.add_sub_cancel_left, hw, b2_f, j1, q271_109, nI_lit, nI_add, pk_mul, nI_clp, nI_eqv, nI_lev, nI_ltv, nI_neg, nI_neg', nI_subv, Nat.add_zero, Nat.zero_add, Nat.mul_zero, Nat.reduceAdd, bN_rv, bM_ru, bV_rv, bV_rx, bU_ru, bU_rx, bN_ite, bM_ite, bV_ite, bU_ite, ↓bx_e, ↓sp_e, gA_ok, gZ_n, gB_0, gB_1, gB_i, and_true, and_false, true_and, false_and, decide_true, decide_false, ↓reduceIte, not_true_eq_false, not_false_eq_true, Bool.false_eq_true, Bool.true_eq_false, Bool.and_true, Bool.and_false, Bool.true_and, Bool.false_and, Bool.or_true, Bool.or_false, Bool.true_or, Bool.false_or, Bool.not_true, Bool.not_false, le_f, le_t, lt_f, lt_t, eq_f, ↓reduceIte, not_true_eq_false, not_false_eq_true, ite_10, bt_0, bt_1]
    · obtain ⟨ek, hk⟩ := kN_e wx h1
      simp only [oI_s, h1, and_true, and_false, true_and, false_and, decide_true, decide_false, ↓reduceIte, not_true_eq_false, not_false_eq_true, Bool.false_eq_true, Bool.true_eq_false, Bool.and_true, Bool.and_false, Bool.true_and, Bool.false_and, Bool.or_true, Bool.or_false, Bool.true_or, Bool.false_or, Bool.not_true, Bool.not_false]
      rw [ek]
      generalize kN (sXr g i c) = k at *
      obtain ⟨t1, j1, j2⟩ := m263 hf hA.1 hi hk hr
      refine ⟨t1, ?_, MT_m j2⟩
      simp (disch := omega) only [Nat.add_sub_cancel_left, j1, q271_109, nI_lit, nI_add, pk_mul, nI_clp, nI_eqv, nI_lev, nI_ltv, nI_neg, nI_neg', nI_subv, Nat.add_zero, Nat.zero_add, Nat.mul_zero, Nat.reduceAdd, bN_rv, bM_ru, bV_rv, bV_rx, bU_ru, bU_rx, bN_ite, bM_ite, bV_ite, bU_ite, ↓bx_e, ↓sp_e, gA_ok, gZ_n, gB_0, gB_1, gB_i, and_true, and_false, true_and, false_and, decide_true, decide_false, ↓reduceIte, not_true_eq_false, not_false_eq_true, Bool.false_eq_true, Bool.true_eq_false, Bool.and_true, Bool.and_false, Bool.true_and, Bool.false_and, Bool.or_true, Bool.or_false, Bool.true_or, Bool.false_or, Bool.not_true, Bool.not_false, le_f, le_t, lt_f, lt_t, eq_f, ↓reduceIte, not_true_eq_false, not_false_eq_true, ite_10, bt_0, bt_1]
theorem m271 {t : mS} {T : Nat} {f : Nat → Int32} (hf : t.1 513 = f) (hA : IA T f) (hT : T + 1 < 1000000000) : ∃ t', q271 t = rv (cTick f) t' ∧ MT t t' (mTick f) := by
  obtain ⟨k, hk, k0, -⟩ := hA.1.2.1
  by_cases h0 : k = 0
  · subst h0
    have e1 : mTick f = f := by unfold mTick; rw [if_pos k0]
    have e2 : cTick f = nI 0 := by unfold cTick; rw [if_pos k0]
    refine ⟨t, ?_, by rw [e1]; exact ⟨hf, fun _ _ _ _ => rfl, fun _ _ => rfl, rfl⟩⟩
    rw [e2]
    unfold q271
    simp (disch := omega) only [hf, k0, nI_lit, nI_add, pk_mul, nI_clp, nI_eqv, nI_lev, nI_ltv, nI_neg, nI_neg', nI_subv, Nat.add_zero, Nat.zero_add, Nat.mul_zero, Nat.reduceAdd, bN_rv, bM_ru, bV_rv, bV_rx, bU_ru, bU_rx, bN_ite, bM_ite, bV_ite, bU_ite, ↓bx_e, ↓sp_e, gA_ok, gZ_n, gB_0, gB_1, gB_i, and_true, and_false, true_and, false_and, decide_true, decide_false, ↓reduceIte, not_true_eq_false, not_false_eq_true, Bool.false_eq_true, Bool.true_eq_false, Bool.and_true, Bool.and_false, Bool.true_and, Bool.false_and, Bool.or_true, Bool.or_false, Bool.true_or, Bool.false_or, Bool.not_true, Bool.not_false, le_f, le_t, lt_f, lt_t, eq_f, ↓reduceIte, not_true_eq_false, not_false_eq_true, ite_10, bt_0, bt_1, q198, q199, q200, q201, q202, q203, q204, m190, m205, m206, b2_0, q189, q187]
  · have hne : ¬ f 0 = nI 0 := by rw [k0, nI_eqv (by omega) (by omega)]; exact h0
    have hcN : cN f = k := by unfold cN; rw [k0, nI_clp (by omega)]
    have hlt : dN f % k < k := Nat.mod_lt _ (by omega)
    obtain ⟨t1, j1, j2⟩ := mTkm (t := wr t (upd f 8 (dS f))) wr_1 (IA_8 hA (dS f)) hT hk (by rw [ud_n (by omega)]; exact k0) hlt
    have em : mTick f = mTk (upd f 8 (dS f)) (dN f % k) := by unfold mTick; rw [if_neg hne, hcN]
    have ec : cTick f = cTk (upd f 8 (dS f)) (dN f % k) := by unfold cTick; rw [if_neg hne, hcN]
    rw [em, ec]
    refine ⟨t1, ?_, MT_t MT_w j2⟩
    rw [← j1]
    unfold q271
    have e8 : sI t 513 8 (dS f) = wr t (upd f 8 (dS f)) := by rw [sI_w0, hf]
    have eS : nI 1103515245 * f 8 + nI 12345 = dS f := rfl
    have eW : shrI (dS f) (nI 16) &&& nI 32767 = nI (dN f) := dW_e.1
    have hd := (dW_e (f := f)).2
    simp (disch := omega) only [hf, k0, q212, eS, e8, wr_1, ud_e, eW, nI_rem, nI_lit, nI_add, pk_mul, nI_clp, nI_eqv, nI_lev, nI_ltv, nI_neg, nI_neg', nI_subv, Nat.add_zero, Nat.zero_add, Nat.mul_zero, Nat.reduceAdd, bN_rv, bM_ru, bV_rv, bV_rx, bU_ru, bU_rx, bN_ite, bM_ite, bV_ite, bU_ite, ↓bx_e, ↓sp_e, gA_ok, gZ_n, gB_0, gB_1, gB_i, and_true, and_false, true_and, false_and, decide_true, decide_false, ↓reduceIte, not_true_eq_false, not_false_eq_true, Bool.false_eq_true, Bool.true_eq_false, Bool.and_true, Bool.and_false, Bool.true_and, Bool.false_and, Bool.or_true, Bool.or_false, Bool.true_or, Bool.false_or, Bool.not_true, Bool.not_false, le_f, le_t, lt_f, lt_t, eq_f, ↓reduceIte, not_true_eq_false, not_false_eq_true, ite_10, bt_0, bt_1, q198, q199, q200, q201, q202, q203, q204, m190, m205, m206, b2_0, q189, q187]
theorem IA_tick {T : Nat} {f : Nat → Int32} (hA : IA T f) (hT : T + 1 < 1000000000) : ∃ T', T' ≤ T + 1 ∧ IA T' (mTick f) := by
  obtain ⟨n, hn5, k0, -⟩ := hA.1.2.1
  by_cases h0 : n = 0
  · subst h0
    have e1 : mTick f = f := by unfold mTick; rw [if_pos k0]
    rw [e1]; exact ⟨T, by omega, hA⟩
  · have hne : ¬ f 0 = nI 0 := by rw [k0, nI_eqv (by omega) (by omega)]; exact h0
    have hcN : cN f = n := by unfold cN; rw [k0, nI_clp (by omega)]
    have hc : dN f % n < n := Nat.mod_lt _ (by omega)
    have em : mTick f = mTk (upd f 8 (dS f)) (dN f % n) := by unfold mTick; rw [if_neg hne, hcN]
    rw [em]
    have hA8 := IA_8 hA (dS f)
    have hf0 : upd f 8 (dS f) 0 = nI n := by rw [ud_n (by omega)]; exact k0
    generalize upd f 8 (dS f) = g at *
    generalize dN f % n = c at *
    unfold mTk
    cases e : sRun g (nI c) with
    | none =>
      dsimp only
      cases e2 : fs (fun i => !(sU g i)) 8 0 with
      | none => exact ⟨T, by omega, hA8⟩
      | some i =>
        have hi8 := (fs_some e2).2.1
        have hz : g (74 + 21 * i) = nI 0 := by
          have h3 := (fs_some e2).2.2.1
          unfold sU at h3
          rw [Bool.not_not] at h3
          exact of_decide_eq_true h3
        exact ⟨T + 1, by omega, IA_beg hA8 hT (by omega) hn5 hf0 hc hz (sRun_n e)⟩
    | some i =>
      dsimp only
      obtain ⟨hi, hr, -⟩ := sRun_s e
      obtain ⟨wx, wy⟩ := w10 hA8.1.2.1 (i := i) (show c < 5 by omega)
      split
      · rename_i h1
        split
        · have hw := (hA8.1.1.1 i hi).2
          have M2 := IM_st hA8.1 hT
          have hr2 : sR (upd g 3 (g 3 + nI 1)) i = true := by rw [sR_u (by omega)]; exact hr
          have S3 : IS (mCo0 g i) := by
            obtain ⟨i0, i1, i2, i3, i4, i5, i6⟩ := M2.1
            have huu := sR_U hr2
            unfold mCo0
            refine ⟨IW_c i0 (fun j hj => mClose_n (by omega) (by omega)), fun k hk => ?_, fun k hk hz w' hw' => ?_, fun k l hk hb => ?_, fun k hk => ?_, fun k l hk hl ha hb hc => ?_, fun k l q hk hl hq ha hb hc hd => ?_⟩
            · by_cases e : k = i
              · subst e; rw [mClose_0]; exact Or.inr (Or.inr rfl)
              · rw [mClose_n (by omega) (by omega)]; exact i1 k hk
            · have hji : k ≠ i := by
                intro e; subst e
                rw [mClose_0] at hz
                exact absurd hz (by decide)
              rw [mClose_n (by omega) (by omega)] at hz
              rw [mClose_n (by omega) (by omega)]; exact i2 k hk hz w' hw'
            · rw [mClose_n (by omega) (by omega)] at hb
              rw [sU_cl huu]; exact i3 k l hk hb
            · rw [mClose_n (by omega) (by omega)]; exact i4 k hk
            · rw [sR_cl, Bool.and_eq_true] at ha hb
              rw [mClose_n (by omega) (by omega), mClose_n (by omega) (by omega)] at hc
              exact i5 k l hk hl ha.1 hb.1 hc
            · rw [sR_cl, Bool.and_eq_true] at ha hb
              rw [mClose_n (by omega) (by omega)] at hc hd
              exact i6 k l q hk hl hq ha.1 hb.1 hc hd
          have M3 : IM (T + 1) (mCo0 g i) := IM_co0 hA8.1 hT hi hr S3
          have hu3 : sU (mCo0 g i) i = true := by unfold mCo0; rw [sU_cl (sR_U hr2)]; exact sR_U hr2
          have M5 := IM_co3 hi hw M3 hu3 (wh_c (mCo0_n (by omega) (by omega) (by omega)))
          have e37 : mCo3 g i 7 = g 7 := by
            unfold mCo3 mCo2
            rw [ud_n (by omega), ud_n (by omega), ud_n (by omega), mCo1_n (by omega) (by omega) (by omega) (fun k hk => by omega)]
          have M7 := IM_co4 M5 (by unfold hN; rw [e37]; exact hA8.2.2.1)
          have M8 := IM_spo (i := i) M7 (IS_spo2 M7.1)
          exact ⟨T + 1, by omega, IA_com hA8 (IM_mSt M8) M8 hw hi⟩
        · rename_i h2
          obtain ⟨ek, hk⟩ := kN_e wy h2
          split
          · exact ⟨T, by omega, hA8⟩
          · rename_i h3
            exact ⟨T, by omega, IA_write hA8 hi hk hr (wts_f (Bool.eq_false_iff.mpr h3))⟩
      · rename_i h1
        obtain ⟨ek, hk⟩ := kN_e wx h1
        exact ⟨T, by omega, IA_read hA8 hi hk hr⟩
theorem m272_4 {N : Nat} (hN60 : N ≤ 60) : ∀ m i n (t : mS) (f : Nat → Int32) v T, i + m = N → t.1 513 = f → IA T f → T + m < 1000000000 → m < n → ∃ t', q272_4 n (nI N) v (nI i) t = rv (cRun m f v) t' ∧ MT t t' (mRun m f) := by
  intro m
  induction m with
  | zero =>
    intro i n t f v T hi hf hA hT hn
    cases n with
    | zero => omega
    | succ n =>
      have : i = N := by omega
      subst this
      refine ⟨t, ?_, hf, fun _ _ _ _ => rfl, fun _ _ => rfl, rfl⟩
      rw [q272_4]
      simp (disch := omega) only [cRun, nI_lit, nI_add, pk_mul, nI_clp, nI_eqv, nI_lev, nI_ltv, nI_neg, nI_neg', nI_subv, Nat.add_zero, Nat.zero_add, Nat.mul_zero, Nat.reduceAdd, bN_rv, bM_ru, bV_rv, bV_rx, bU_ru, bU_rx, bN_ite, bM_ite, bV_ite, bU_ite, ↓bx_e, ↓sp_e, gA_ok, gZ_n, gB_0, gB_1, gB_i, and_true, and_false, true_and, false_and, decide_true, decide_false, ↓reduceIte, not_true_eq_false, not_false_eq_true, Bool.false_eq_true, Bool.true_eq_false, Bool.and_true, Bool.and_false, Bool.true_and, Bool.false_and, Bool.or_true, Bool.or_false, Bool.true_or, Bool.false_or, Bool.not_true, Bool.not_false, le_f, le_t, lt_f, lt_t, eq_f, ↓reduceIte, not_true_eq_false, not_false_eq_true, ite_10, bt_0, bt_1]
  | succ m ih =>
    intro i n t f v T hi hf hA hT hn
    cases n with
    | zero => omega
    | succ n =>
      obtain ⟨t1, j1, j2⟩ := m271 hf hA (by omega)
      obtain ⟨T1, hT1, hA1⟩ := IA_tick hA (by omega)
      obtain ⟨t2, l1, l2⟩ := ih (i + 1) n t1 (mTick f) (v + cTick f) T1 (by omega) j2.1 hA1 (by omega) (by omega)
      refine ⟨t2, ?_, by rw [mRun]; exact MT_t j2 l2⟩
      rw [cRun, ← l1, q272_4]
      simp (disch := omega) only [j1, nI_lit, nI_add, pk_mul, nI_clp, nI_eqv, nI_lev, nI_ltv, nI_neg, nI_neg', nI_subv, Nat.add_zero, Nat.zero_add, Nat.mul_zero, Nat.reduceAdd, bN_rv, bM_ru, bV_rv, bV_rx, bU_ru, bU_rx, bN_ite, bM_ite, bV_ite, bU_ite, ↓bx_e, ↓sp_e, gA_ok, gZ_n, gB_0, gB_1, gB_i, and_true, and_false, true_and, false_and, decide_true, decide_false, ↓reduceIte, not_true_eq_false, not_false_eq_true, Bool.false_eq_true, Bool.true_eq_false, Bool.and_true, Bool.and_false, Bool.true_and, Bool.false_and, Bool.or_true, Bool.or_false, Bool.true_or, Bool.false_or, Bool.not_true, Bool.not_false, le_f, le_t, lt_f, lt_t, eq_f, ↓reduceIte, not_true_eq_false, not_false_eq_true, ite_10, bt_0, bt_1]
theorem m272 {t : mS} {T N : Nat} {f : Nat → Int32} (hN60 : N ≤ 60) (hf : t.1 513 = f) (hA : IA T f) (hT : T + N < 1000000000) : ∃ t', q272 (nI N) t = rv (cRun N f (nI 0)) t' ∧ MT t t' (mRun N f) := by
  unfold q272
  rw [nI_lit]
  exact m272_4 hN60 N 0 10000 t f (nI 0) T (by omega) hf hA hT (by omega)
theorem p112 {s : mS} {a T N : Nat} {f : Nat → Int32} (hN60 : N ≤ 60) (ha : 10 ≤ a) (h : RW s a f) (hL : RLw s f) (hA : IA T f) (hT : T + N < 1000000000) : ∃ s', q112 a (nI N) s = rv (cRun N f (nI 0)) s' ∧ RW s' a (mRun N f) ∧ RLw s' (mRun N f) ∧ (∃ T', T' ≤ T + N ∧ IA T' (mRun N f)) ∧ Fw a s s' := by
  unfold q112
  rw [nI_lit]
  exact p112_4 ha hN60 N 0 10000 s f (nI 0) T (by omega) h hL hA hT (by omega)
