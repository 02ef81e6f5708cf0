/-! TIDY, IN THE REFERENCE -/
theorem IT_le {T : Nat} {f : Nat → Int32} (h : IT T f) {i : Nat} (hi : i < 8) {w : Int32} : IT T (mLeave f i w) := by
  obtain ⟨h0, h3, h⟩ := h
  obtain ⟨-, ⟨e, he, hee⟩, -⟩ := h i hi
  refine ⟨h0, by rw [mLe_n hi (by omega) (by omega)]; exact h3, fun j hj => ?_⟩
  by_cases q : j = i
  · subst q
    rw [mLe_i (by omega), mLe_i (by omega), mLe_i (by omega)]
    exact ⟨⟨0, by omega, rfl⟩, ⟨0, by omega, rfl⟩, ⟨0, by omega, rfl⟩⟩
  · rw [mLe_o hj q (by omega) (by omega) (by omega) (by omega), mLe_o hj q (by omega) (by omega) (by omega) (by omega)]
    refine ⟨(h j hj).1, (h j hj).2.1, ?_⟩
    unfold mLeave
    rw [mFree_o q (by omega) (by omega)]
    unfold mLv
    rw [hee]
    refine fo_pres (P := fun (g : Nat → Int32) => ∃ o, o ≤ T + 1 ∧ g (74 + 21 * j + 8) = nI o) (fun o b _ ho hb => ?_) ?_
    · rw [mL2_n (by omega)]
      unfold mL1
      split
      · by_cases e8 : j = o
        · subst e8
          rw [ud_e rfl]
          obtain ⟨z, hz, hz2⟩ := hb
          split
          · exact ⟨e, by omega, rfl⟩
          · rw [hz2, mn_nI (by omega) (by omega)]
            exact ⟨min z e, by omega, rfl⟩
        · rw [ud_n (by omega)]; exact hb
      · exact hb
    · rw [mLog_n (by omega) (by omega)]; exact (h j hj).2.2
theorem IM_le {T : Nat} {f : Nat → Int32} (h : IM T f) {i : Nat} (hi : i < 8) {w : Int32} (hs : IS (mLeave f i w)) : IM T (mLeave f i w) := by
  obtain ⟨h1, ⟨n, hn, a0, a1, a2, a3, a4⟩, h3, h4, k, hk, h5⟩ := h
  refine ⟨hs, ⟨n, hn, ?_, fun c hc => ?_, fun c w' hc hc5 hw' => ?_, fun c j hc hj => ?_, fun j hj hv => ?_⟩, WLw_c (mLe_n hi (by omega) (by omega)) (fun j a b => mLe_n hi (by omega) (by omega)) h3, IT_le h4 hi, k, hk, ?_⟩
  · rw [mLe_n hi (by omega) (by omega)]; exact a0
  · rw [mLe_n hi (by omega) (by omega)]; exact a1 c hc
  · rw [mLe_n hi (by omega) (by omega)]; exact a2 c w' hc hc5 hw'
  · rw [mLe_n hi (by omega) (by omega), mLe_n hi (by omega) (by omega)]; exact a3 c j hc hj
  · rw [(sX_le hj).2.2, Bool.and_eq_true] at hv
    have e : j ≠ i := fun e => by rw [decide_eq_true e] at hv; cases hv.2
    rw [wh_c (mLe_o hj e (by omega) (by omega) (by omega) (by omega))]; exact a4 j hj hv.1
  · rw [mLe_n hi (by omega) (by omega)]; exact h5
theorem IS_le {f : Nat → Int32} (h : IS f) {i : Nat} (hi : i < 8) {w : Int32} : IS (mLeave f i w) := by
  unfold mLeave
  refine IS_free ?_ hi
  unfold mLv
  refine fo_pres (P := fun (g : Nat → Int32) => IS g) (fun o b _ ho hb => ?_) (IS_c h (fun j x y => mLog_n (by omega) (by omega)))
  have h1 : IS (mL1 (f (74 + 21 * i + 3)) i o b) := by
    unfold mL1
    split
    · rename_i hq; exact IS_u hb (by omega) (IS_out hb (by omega) hq) (by omega) _
    · exact hb
  unfold mL2
  split
  · rename_i hq; exact IS_u h1 (by omega) (h1.2.2.2.1 i o hi hq).2 (by omega) _
  · exact h1
theorem sDn_le {f : Nat → Int32} {i j : Nat} {w : Int32} (hi : i < 8) (hj : j < 8) (hf : sF f i = true) : sDn (mLeave f i w) j = (sDn f j && !(decide (j = i))) := by
  have hri : sR f i = false := by
    cases e : sR f i with
    | false => rfl
    | true => rw [sR_F e] at hf; cases hf
  by_cases e : j = i
  · subst e
    unfold sDn
    rw [(sX_le hj).2.1]
    simp only [and_true, and_false, true_and, false_and, decide_true, decide_false, ↓reduceIte, not_true_eq_false, not_false_eq_true, Bool.false_eq_true, Bool.true_eq_false, Bool.and_true, Bool.and_false, Bool.true_and, Bool.false_and, Bool.or_true, Bool.or_false, Bool.true_or, Bool.false_or, Bool.not_true, Bool.not_false]
  · have key : sDn (mLeave f i w) j = true ↔ sDn f j = true := by
      rw [sDn_i, sDn_i, (sX_le hj).2.1, mLe_o hj e (by omega) (by omega) (by omega) (by omega)]
      simp only [e, and_true, and_false, true_and, false_and, decide_true, decide_false, ↓reduceIte, not_true_eq_false, not_false_eq_true, Bool.false_eq_true, Bool.true_eq_false, Bool.and_true, Bool.and_false, Bool.true_and, Bool.false_and, Bool.or_true, Bool.or_false, Bool.true_or, Bool.false_or, Bool.not_true, Bool.not_false]
      constructor
      · intro h
        refine ⟨h.1, fun o ho hr => ?_⟩
        have hne : o ≠ i := fun q => by subst q; rw [hri] at hr; cases hr
        have := h.2 o ho (by rw [(sX_le ho).1, hr]; simp only [hne, and_true, and_false, true_and, false_and, decide_true, decide_false, ↓reduceIte, not_true_eq_false, not_false_eq_true, Bool.false_eq_true, Bool.true_eq_false, Bool.and_true, Bool.and_false, Bool.true_and, Bool.false_and, Bool.or_true, Bool.or_false, Bool.true_or, Bool.false_or, Bool.not_true, Bool.not_false])
        rw [mLe_o ho hne (by omega) (by omega) (by omega) (by omega)] at this
        exact this
      · intro h
        refine ⟨h.1, fun o ho hr => ?_⟩
        rw [(sX_le ho).1, Bool.and_eq_true] at hr
        have hne : o ≠ i := fun q => by rw [decide_eq_true q] at hr; cases hr.2
        rw [mLe_o ho hne (by omega) (by omega) (by omega) (by omega)]
        exact h.2 o ho hr.1
    simp only [e, and_true, and_false, true_and, false_and, decide_true, decide_false, ↓reduceIte, not_true_eq_false, not_false_eq_true, Bool.false_eq_true, Bool.true_eq_false, Bool.and_true, Bool.and_false, Bool.true_and, Bool.false_and, Bool.or_true, Bool.or_false, Bool.true_or, Bool.false_or, Bool.not_true, Bool.not_false]
    cases e1 : sDn f j with
    | false =>
      cases e2 : sDn (mLeave f i w) j with
      | false => rfl
      | true => rw [key.mp e2] at e1; cases e1
    | true => exact key.mpr e1
def cF (f : Nat → Int32) : Nat → Nat
  | 0 => 0
  | n + 1 => cF f n + (if sF f n = true then 1 else 0)
theorem cF_le {f : Nat → Int32} : ∀ n, cF f n ≤ n
  | 0 => Nat.le_refl _
  | n + 1 => by
    have := cF_le (f := f) n
    rw [cF]
    split <;> omega
theorem cF_lv {f g : Nat → Int32} {i : Nat} (hi : i < 8) (hr : sF f i = true) (hg : ∀ j, j < 8 → sF g j = (sF f j && !(decide (j = i)))) : ∀ n, n ≤ 8 → cF g n + (if i < n then 1 else 0) = cF f n
  | 0, _ => by rw [if_neg (by omega)]; rfl
  | n + 1, h => by
    have ih := cF_lv hi hr hg n (by omega)
    rw [cF, cF, hg n (by omega)]
    by_cases e : n = i
    · subst e
      rw [hr]
      simp only [and_true, and_false, true_and, false_and, decide_true, decide_false, ↓reduceIte, not_true_eq_false, not_false_eq_true, Bool.false_eq_true, Bool.true_eq_false, Bool.and_true, Bool.and_false, Bool.true_and, Bool.false_and, Bool.or_true, Bool.or_false, Bool.true_or, Bool.false_or, Bool.not_true, Bool.not_false]
      rw [if_neg (by omega)] at ih
      rw [if_pos (by omega)]
      omega
    · simp only [e, and_true, and_false, true_and, false_and, decide_true, decide_false, ↓reduceIte, not_true_eq_false, not_false_eq_true, Bool.false_eq_true, Bool.true_eq_false, Bool.and_true, Bool.and_false, Bool.true_and, Bool.false_and, Bool.or_true, Bool.or_false, Bool.true_or, Bool.false_or, Bool.not_true, Bool.not_false]
      have e2 : (if i < n + 1 then (1 : Nat) else 0) = (if i < n then 1 else 0) := by
        by_cases hl : i < n
        · rw [if_pos hl, if_pos (by omega)]
        · rw [if_neg hl, if_neg (by omega)]
      rw [e2]
      omega
theorem cF_0 {f : Nat → Int32} : ∀ n, cF f n = 0 → ∀ j, j < n → sF f j = false
  | 0, _, j, h => by omega
  | n + 1, h, j, hj => by
    rw [cF] at h
    by_cases e : j = n
    · subst e
      cases q : sF f j with
      | false => rfl
      | true => rw [q, if_pos rfl] at h; omega
    · exact cF_0 n (by omega) j (by omega)
def mTd1 : Nat → (Nat → Int32) → (Nat → Int32)
  | 0, f => f
  | n + 1, f => match oOld f (sDn f) with
    | none => f
    | some j => mTd1 n (mLeave f j (nI 6))
theorem mTd1_n {f : Nat → Int32} {n : Nat} (h : oOld f (sDn f) = none) : mTd1 (n + 1) f = f := by rw [mTd1, h]
theorem mTd1_s {f : Nat → Int32} {n j : Nat} (h : oOld f (sDn f) = some j) : mTd1 (n + 1) f = mTd1 n (mLeave f j (nI 6)) := by rw [mTd1, h]
theorem m261_65 {K : mS → Option mQ} : ∀ N (t : mS) d n, cF (t.1 513) 8 ≤ N → (∀ j, bt d j = (decide (j < 8) && sDn (t.1 513) j)) → N < n → q261_65 K n d t = K (wr t (mTd1 N (t.1 513))) := by
  intro N
  induction N with
  | zero =>
    intro t d n hc hd hn
    cases n with
    | zero => omega
    | succ n =>
      have hz : d = nI 0 := by
        apply bt_z
        intro j hj
        rw [hd j]
        by_cases h8 : j < 8
        · have := cF_0 (f := t.1 513) 8 (by omega) j h8
          unfold sDn
          rw [this]; simp only [and_true, and_false, true_and, false_and, decide_true, decide_false, ↓reduceIte, not_true_eq_false, not_false_eq_true, Bool.false_eq_true, Bool.true_eq_false, Bool.and_true, Bool.and_false, Bool.true_and, Bool.false_and, Bool.or_true, Bool.or_false, Bool.true_or, Bool.false_or, Bool.not_true, Bool.not_false]
        · simp only [h8, and_true, and_false, true_and, false_and, decide_true, decide_false, ↓reduceIte, not_true_eq_false, not_false_eq_true, Bool.false_eq_true, Bool.true_eq_false, Bool.and_true, Bool.and_false, Bool.true_and, Bool.false_and, Bool.or_true, Bool.or_false, Bool.true_or, Bool.false_or, Bool.not_true, Bool.not_false]
      rw [q261_65]
      simp (disch := omega) only [hz, mTd1, wr_s, nI_lit, nI_add, pk_mul, nI_clp, nI_eqv, nI_lev, nI_ltv, nI_neg, nI_neg', nI_subv, Nat.add_zero, Nat.zero_add, Nat.mul_zero, Nat.reduceAdd, bN_rv, bM_ru, bV_rv, bV_rx, bU_ru, bU_rx, bN_ite, bM_ite, bV_ite, bU_ite, ↓bx_e, ↓sp_e, gA_ok, gZ_n, gB_0, gB_1, gB_i, and_true, and_false, true_and, false_and, decide_true, decide_false, ↓reduceIte, not_true_eq_false, not_false_eq_true, Bool.false_eq_true, Bool.true_eq_false, Bool.and_true, Bool.and_false, Bool.true_and, Bool.false_and, Bool.or_true, Bool.or_false, Bool.true_or, Bool.false_or, Bool.not_true, Bool.not_false, le_f, le_t, lt_f, lt_t, eq_f, ↓reduceIte, not_true_eq_false, not_false_eq_true, ite_10, bt_0, bt_1]
  | succ N ih =>
    intro t d n hc hd hn
    cases n with
    | zero => omega
    | succ n =>
      have ho : oOld (t.1 513) (fun i => bt d i) = oOld (t.1 513) (sDn (t.1 513)) := oOld_c (fun k hk => by rw [hd k]; simp only [hk, and_true, and_false, true_and, false_and, decide_true, decide_false, ↓reduceIte, not_true_eq_false, not_false_eq_true, Bool.false_eq_true, Bool.true_eq_false, Bool.and_true, Bool.and_false, Bool.true_and, Bool.false_and, Bool.or_true, Bool.or_false, Bool.true_or, Bool.false_or, Bool.not_true, Bool.not_false])
      rw [q261_65]
      cases e : oOld (t.1 513) (sDn (t.1 513)) with
      | none =>
        have hz : d = nI 0 := by
          apply bt_z
          intro j hj
          rw [hd j]
          by_cases h8 : j < 8
          · rw [oOld_n e j h8]; simp only [and_true, and_false, true_and, false_and, decide_true, decide_false, ↓reduceIte, not_true_eq_false, not_false_eq_true, Bool.false_eq_true, Bool.true_eq_false, Bool.and_true, Bool.and_false, Bool.true_and, Bool.false_and, Bool.or_true, Bool.or_false, Bool.true_or, Bool.false_or, Bool.not_true, Bool.not_false]
          · simp only [h8, and_true, and_false, true_and, false_and, decide_true, decide_false, ↓reduceIte, not_true_eq_false, not_false_eq_true, Bool.false_eq_true, Bool.true_eq_false, Bool.and_true, Bool.and_false, Bool.true_and, Bool.false_and, Bool.or_true, Bool.or_false, Bool.true_or, Bool.false_or, Bool.not_true, Bool.not_false]
        rw [mTd1_n e]
        simp (disch := omega) only [hz, wr_s, nI_lit, nI_add, pk_mul, nI_clp, nI_eqv, nI_lev, nI_ltv, nI_neg, nI_neg', nI_subv, Nat.add_zero, Nat.zero_add, Nat.mul_zero, Nat.reduceAdd, bN_rv, bM_ru, bV_rv, bV_rx, bU_ru, bU_rx, bN_ite, bM_ite, bV_ite, bU_ite, ↓bx_e, ↓sp_e, gA_ok, gZ_n, gB_0, gB_1, gB_i, and_true, and_false, true_and, false_and, decide_true, decide_false, ↓reduceIte, not_true_eq_false, not_false_eq_true, Bool.false_eq_true, Bool.true_eq_false, Bool.and_true, Bool.and_false, Bool.true_and, Bool.false_and, Bool.or_true, Bool.or_false, Bool.true_or, Bool.false_or, Bool.not_true, Bool.not_false, le_f, le_t, lt_f, lt_t, eq_f, ↓reduceIte, not_true_eq_false, not_false_eq_true, ite_10, bt_0, bt_1]
      | some j =>
        obtain ⟨a1, a2, -, -⟩ := oOld_s e
        have hz : ¬ d = nI 0 := by
          intro h
          have := hd j
          rw [h, bt_n0, a2] at this
          simp only [a1, and_true, and_false, true_and, false_and, decide_true, decide_false, ↓reduceIte, not_true_eq_false, not_false_eq_true, Bool.false_eq_true, Bool.true_eq_false, Bool.and_true, Bool.and_false, Bool.true_and, Bool.false_and, Bool.or_true, Bool.or_false, Bool.true_or, Bool.false_or, Bool.not_true, Bool.not_false] at this
        have hf : sF (t.1 513) j = true := (sDn_i.mp a2).1
        rw [mTd1_s e]
        simp (disch := omega) only [hz, m258, ho, e, oI_s, m259, nI_lit, nI_add, pk_mul, nI_clp, nI_eqv, nI_lev, nI_ltv, nI_neg, nI_neg', nI_subv, Nat.add_zero, Nat.zero_add, Nat.mul_zero, Nat.reduceAdd, bN_rv, bM_ru, bV_rv, bV_rx, bU_ru, bU_rx, bN_ite, bM_ite, bV_ite, bU_ite, ↓bx_e, ↓sp_e, gA_ok, gZ_n, gB_0, gB_1, gB_i, and_true, and_false, true_and, false_and, decide_true, decide_false, ↓reduceIte, not_true_eq_false, not_false_eq_true, Bool.false_eq_true, Bool.true_eq_false, Bool.and_true, Bool.and_false, Bool.true_and, Bool.false_and, Bool.or_true, Bool.or_false, Bool.true_or, Bool.false_or, Bool.not_true, Bool.not_false, le_f, le_t, lt_f, lt_t, eq_f, ↓reduceIte, not_true_eq_false, not_false_eq_true, ite_10, bt_0, bt_1]
        have := ih (wr t (mLeave (t.1 513) j (nI 6))) (d &&& (shlI (nI 1) (nI j) ^^^ -nI 1)) n ?_ ?_ (by omega)
        · rw [wr_1, wr_w] at this; exact this
        · rw [wr_1]
          have := cF_lv a1 hf (g := mLeave (t.1 513) j (nI 6)) (fun k hk => (sX_le hk).2.1) 8 (by omega)
          rw [if_pos a1] at this
          omega
        · intro k
          rw [wr_1, bt_mk' (by omega), hd k]
          by_cases h8 : k < 8
          · rw [sDn_le a1 h8 hf]; simp only [h8, and_true, and_false, true_and, false_and, decide_true, decide_false, ↓reduceIte, not_true_eq_false, not_false_eq_true, Bool.false_eq_true, Bool.true_eq_false, Bool.and_true, Bool.and_false, Bool.true_and, Bool.false_and, Bool.or_true, Bool.or_false, Bool.true_or, Bool.false_or, Bool.not_true, Bool.not_false]
          · simp only [h8, and_true, and_false, true_and, false_and, decide_true, decide_false, ↓reduceIte, not_true_eq_false, not_false_eq_true, Bool.false_eq_true, Bool.true_eq_false, Bool.and_true, Bool.and_false, Bool.true_and, Bool.false_and, Bool.or_true, Bool.or_false, Bool.true_or, Bool.false_or, Bool.not_true, Bool.not_false]
def gDn (f : Nat → Int32) (s o : Nat) (d : Int32) : Int32 := if (sR f o && !(decide (f (74 + 21 * s + 3) < f (74 + 21 * o + 2)))) = true then d &&& (shlI (nI 1) (nI s) ^^^ -nI 1) else d
theorem gDn_b {f : Nat → Int32} {s : Nat} (hs : s < 8) : ∀ m o d j, bt (fo (gDn f s) m o d) j = (bt d j && (!(decide (j = s)) || al (fun o => !(sR f o) || decide (f (74 + 21 * s + 3) < f (74 + 21 * o + 2))) m o)) := by
  intro m
  induction m with
  | zero => intro o d j; rw [fo_0, al, Bool.or_true, Bool.and_true]
  | succ m ih =>
    intro o d j
    rw [fo_s, ih, al]
    unfold gDn
    cases e1 : sR f o
    · simp only [and_true, and_false, true_and, false_and, decide_true, decide_false, ↓reduceIte, not_true_eq_false, not_false_eq_true, Bool.false_eq_true, Bool.true_eq_false, Bool.and_true, Bool.and_false, Bool.true_and, Bool.false_and, Bool.or_true, Bool.or_false, Bool.true_or, Bool.false_or, Bool.not_true, Bool.not_false]
    · by_cases e2 : f (74 + 21 * s + 3) < f (74 + 21 * o + 2)
      · simp only [e2, and_true, and_false, true_and, false_and, decide_true, decide_false, ↓reduceIte, not_true_eq_false, not_false_eq_true, Bool.false_eq_true, Bool.true_eq_false, Bool.and_true, Bool.and_false, Bool.true_and, Bool.false_and, Bool.or_true, Bool.or_false, Bool.true_or, Bool.false_or, Bool.not_true, Bool.not_false]
      · simp only [e2, and_true, and_false, true_and, false_and, decide_true, decide_false, ↓reduceIte, not_true_eq_false, not_false_eq_true, Bool.false_eq_true, Bool.true_eq_false, Bool.and_true, Bool.and_false, Bool.true_and, Bool.false_and, Bool.or_true, Bool.or_false, Bool.true_or, Bool.false_or, Bool.not_true, Bool.not_false]
        rw [bt_mk' (by omega)]
        by_cases e : j = s <;> simp only [e, and_true, and_false, true_and, false_and, decide_true, decide_false, ↓reduceIte, not_true_eq_false, not_false_eq_true, Bool.false_eq_true, Bool.true_eq_false, Bool.and_true, Bool.and_false, Bool.true_and, Bool.false_and, Bool.or_true, Bool.or_false, Bool.true_or, Bool.false_or, Bool.not_true, Bool.not_false]
theorem gDn_o {f : Nat → Int32} : ∀ m i d j, i + m ≤ 8 → bt (fo (fun s d => fo (gDn f s) 8 0 d) m i d) j = (bt d j && (!(decide (i ≤ j ∧ j < i + m)) || al (fun o => !(sR f o) || decide (f (74 + 21 * j + 3) < f (74 + 21 * o + 2))) 8 0)) := by
  intro m
  induction m with
  | zero => intro i d j _; rw [fo_0, decide_eq_false (by omega)]; simp only [and_true, and_false, true_and, false_and, decide_true, decide_false, ↓reduceIte, not_true_eq_false, not_false_eq_true, Bool.false_eq_true, Bool.true_eq_false, Bool.and_true, Bool.and_false, Bool.true_and, Bool.false_and, Bool.or_true, Bool.or_false, Bool.true_or, Bool.false_or, Bool.not_true, Bool.not_false]
  | succ m ih =>
    intro i d j h
    rw [fo_s, ih (i + 1) _ j (by omega), gDn_b (by omega)]
    by_cases e : j = i
    · subst e
      rw [decide_eq_false (show ¬ (j + 1 ≤ j ∧ j < j + 1 + m) by omega), decide_eq_true (show j ≤ j ∧ j < j + (m + 1) by omega)]
      simp only [and_true, and_false, true_and, false_and, decide_true, decide_false, ↓reduceIte, not_true_eq_false, not_false_eq_true, Bool.false_eq_true, Bool.true_eq_false, Bool.and_true, Bool.and_false, Bool.true_and, Bool.false_and, Bool.or_true, Bool.or_false, Bool.true_or, Bool.false_or, Bool.not_true, Bool.not_false]
    · by_cases hr : i ≤ j ∧ j < i + (m + 1)
      · rw [decide_eq_true (show i + 1 ≤ j ∧ j < i + 1 + m by omega), decide_eq_true hr]; simp only [e, and_true, and_false, true_and, false_and, decide_true, decide_false, ↓reduceIte, not_true_eq_false, not_false_eq_true, Bool.false_eq_true, Bool.true_eq_false, Bool.and_true, Bool.and_false, Bool.true_and, Bool.false_and, Bool.or_true, Bool.or_false, Bool.true_or, Bool.false_or, Bool.not_true, Bool.not_false]
      · rw [decide_eq_false (show ¬ (i + 1 ≤ j ∧ j < i + 1 + m) by omega), decide_eq_false hr]; simp only [e, and_true, and_false, true_and, false_and, decide_true, decide_false, ↓reduceIte, not_true_eq_false, not_false_eq_true, Bool.false_eq_true, Bool.true_eq_false, Bool.and_true, Bool.and_false, Bool.true_and, Bool.false_and, Bool.or_true, Bool.or_false, Bool.true_or, Bool.false_or, Bool.not_true, Bool.not_false]
theorem m261_16 {K : Int32 → Int32 → mS → Option mQ} {t : mS} {s : Nat} (hs : s < 8) {d : Int32} : q261_16 K 10000 d (nI s) (nI 0) t = K (fo (gDn (t.1 513) s) 8 0 d) (nI s) t := by
  refine lp_fo (Q := fun n d o => q261_16 K n d (nI s) o t) (out := fun d => K d (nI s) t) (fun n b => ?_) (fun n o b ho => ?_) d 10000 (by omega)
  · simp (disch := omega) only [q261_16, nI_lit, nI_add, pk_mul, nI_clp, nI_eqv, nI_lev, nI_ltv, nI_neg, nI_neg', nI_subv, Nat.add_zero, Nat.zero_add, Nat.mul_zero, Nat.reduceAdd, bN_rv, bM_ru, bV_rv, bV_rx, bU_ru, bU_rx, bN_ite, bM_ite, bV_ite, bU_ite, ↓bx_e, ↓sp_e, gA_ok, gZ_n, gB_0, gB_1, gB_i, and_true, and_false, true_and, false_and, decide_true, decide_false, ↓reduceIte, not_true_eq_false, not_false_eq_true, Bool.false_eq_true, Bool.true_eq_false, Bool.and_true, Bool.and_false, Bool.true_and, Bool.false_and, Bool.or_true, Bool.or_false, Bool.true_or, Bool.false_or, Bool.not_true, Bool.not_false, le_f, le_t, lt_f, lt_t, eq_f, ↓reduceIte, not_true_eq_false, not_false_eq_true, ite_10, bt_0, bt_1]
  · unfold gDn
    simp (disch := omega) only [q261_16, q261_53, nI_lit, nI_add, pk_mul, nI_clp, nI_eqv, nI_lev, nI_ltv, nI_neg, nI_neg', nI_subv, Nat.add_zero, Nat.zero_add, Nat.mul_zero, Nat.reduceAdd, bN_rv, bM_ru, bV_rv, bV_rx, bU_ru, bU_rx, bN_ite, bM_ite, bV_ite, bU_ite, ↓bx_e, ↓sp_e, gA_ok, gZ_n, gB_0, gB_1, gB_i, and_true, and_false, true_and, false_and, decide_true, decide_false, ↓reduceIte, not_true_eq_false, not_false_eq_true, Bool.false_eq_true, Bool.true_eq_false, Bool.and_true, Bool.and_false, Bool.true_and, Bool.false_and, Bool.or_true, Bool.or_false, Bool.true_or, Bool.false_or, Bool.not_true, Bool.not_false, le_f, le_t, lt_f, lt_t, eq_f, ↓reduceIte, not_true_eq_false, not_false_eq_true, ite_10, bt_0, bt_1, q198, q199, q200, q201, q202, q203, q204, m190, m205, m206, b2_0, q189, q187]
    cases sR (t.1 513) o <;> by_cases h : t.1 513 (74 + 21 * s + 3) < t.1 513 (74 + 21 * o + 2) <;> simp only [h, and_true, and_false, true_and, false_and, decide_true, decide_false, ↓reduceIte, not_true_eq_false, not_false_eq_true, Bool.false_eq_true, Bool.true_eq_false, Bool.and_true, Bool.and_false, Bool.true_and, Bool.false_and, Bool.or_true, Bool.or_false, Bool.true_or, Bool.false_or, Bool.not_true, Bool.not_false]
theorem m261_8 {K : Int32 → mS → Option mQ} {t : mS} {d : Int32} : q261_8 K 10000 d (nI 0) t = K (fo (fun s d => fo (gDn (t.1 513) s) 8 0 d) 8 0 d) t := by
  refine lp_fo (Q := fun n d s => q261_8 K n d s t) (out := fun d => K d t) (fun n b => ?_) (fun n s b hs => ?_) d 10000 (by omega)
  · simp (disch := omega) only [q261_8, nI_lit, nI_add, pk_mul, nI_clp, nI_eqv, nI_lev, nI_ltv, nI_neg, nI_neg', nI_subv, Nat.add_zero, Nat.zero_add, Nat.mul_zero, Nat.reduceAdd, bN_rv, bM_ru, bV_rv, bV_rx, bU_ru, bU_rx, bN_ite, bM_ite, bV_ite, bU_ite, ↓bx_e, ↓sp_e, gA_ok, gZ_n, gB_0, gB_1, gB_i, and_true, and_false, true_and, false_and, decide_true, decide_false, ↓reduceIte, not_true_eq_false, not_false_eq_true, Bool.false_eq_true, Bool.true_eq_false, Bool.and_true, Bool.and_false, Bool.true_and, Bool.false_and, Bool.or_true, Bool.or_false, Bool.true_or, Bool.false_or, Bool.not_true, Bool.not_false, le_f, le_t, lt_f, lt_t, eq_f, ↓reduceIte, not_true_eq_false, not_false_eq_true, ite_10, bt_0, bt_1]
  · rw [q261_8]
    rw [show (0 : Int32) = nI 0 from nI_lit 0, m261_16 hs]
    simp (disch := omega) only [q261_59, nI_lit, nI_add, pk_mul, nI_clp, nI_eqv, nI_lev, nI_ltv, nI_neg, nI_neg', nI_subv, Nat.add_zero, Nat.zero_add, Nat.mul_zero, Nat.reduceAdd, bN_rv, bM_ru, bV_rv, bV_rx, bU_ru, bU_rx, bN_ite, bM_ite, bV_ite, bU_ite, ↓bx_e, ↓sp_e, gA_ok, gZ_n, gB_0, gB_1, gB_i, and_true, and_false, true_and, false_and, decide_true, decide_false, ↓reduceIte, not_true_eq_false, not_false_eq_true, Bool.false_eq_true, Bool.true_eq_false, Bool.and_true, Bool.and_false, Bool.true_and, Bool.false_and, Bool.or_true, Bool.or_false, Bool.true_or, Bool.false_or, Bool.not_true, Bool.not_false, le_f, le_t, lt_f, lt_t, eq_f, ↓reduceIte, not_true_eq_false, not_false_eq_true, ite_10, bt_0, bt_1]
