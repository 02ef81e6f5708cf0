/-! DANGERS ARE MET -/
def sDg (f : Nat → Int32) : Option Nat := fs (fun i => (sAh f i).isSome) 8 0
def sVi (f : Nat → Int32) (p : Nat) (o : Option Nat) : Nat := match o with
  | none => p
  | some a => if sR f a = false then p else if sR f p = false then a else if sBl f a ≤ sBl f p then p else a
def sVp (f : Nat → Int32) (p : Nat) : Nat := match sAh f p with
  | none => p
  | some o => sVi f p o
def mMet : Nat → (Nat → Int32) → (Nat → Int32)
  | 0, f => f
  | n + 1, f => match sDg f with
    | none => f
    | some p => mMet n (mAbort f (sVp f p) (nI 3))
theorem mMet_st {f : Nat → Int32} (h : sDg f = none) : ∀ n, mMet n f = f
  | 0 => rfl
  | n + 1 => by rw [mMet, h]
theorem sAh_sh {f : Nat → Int32} {p : Nat} {o : Option Nat} (h : sAh f p = some o) : (o = none ∧ sR f p = true) ∨ ∃ a, o = some a ∧ a < 8 ∧ (sR f a || sR f p) = true := by
  unfold sAh at h
  split at h
  · cases h
  · split at h
    · rename_i hc
      cases h
      rw [Bool.and_eq_true, Bool.and_eq_true] at hc
      exact Or.inl ⟨rfl, hc.1.1⟩
    · split at h
      · cases h
      · rename_i a ha
        cases h
        obtain ⟨-, h2, h3, -⟩ := fs_some ha
        refine Or.inr ⟨a, rfl, by omega, ?_⟩
        unfold sEn at h3
        rw [Bool.and_eq_true, Bool.and_eq_true, Bool.and_eq_true] at h3
        exact h3.1.1.2
theorem sVi_R {f : Nat → Int32} {p : Nat} {o : Option Nat} (hp : p < 8) (h : sAh f p = some o) : sVi f p o < 8 ∧ sR f (sVi f p o) = true := by
  unfold sVi
  rcases sAh_sh h with ⟨e, hr⟩ | ⟨a, e, ha, hr⟩ <;> subst e
  · exact ⟨hp, hr⟩
  · dsimp only
    cases e1 : sR f a
    · rw [if_pos rfl]
      rw [e1, Bool.false_or] at hr
      exact ⟨hp, hr⟩
    · rw [if_neg (by decide)]
      cases e2 : sR f p
      · rw [if_pos rfl]; exact ⟨ha, e1⟩
      · rw [if_neg (by decide)]
        split
        · exact ⟨hp, e2⟩
        · exact ⟨ha, e1⟩
theorem sVp_e {f : Nat → Int32} {p : Nat} {o : Option Nat} (h : sAh f p = some o) : sVp f p = sVi f p o := by unfold sVp; rw [h]
theorem sDg_R {f : Nat → Int32} {p : Nat} (h : sDg f = some p) : p < 8 ∧ sVp f p < 8 ∧ sR f (sVp f p) = true := by
  obtain ⟨-, h2, h3, -⟩ := fs_some h
  have hp : p < 8 := by omega
  unfold sVp
  cases e : sAh f p with
  | none => rw [e] at h3; cases h3
  | some o => exact ⟨hp, sVi_R hp e⟩
theorem p121 {s : mS} {a T : Nat} {f : Nat → Int32} (h : RW s a f) (hL : RLw s f) (hm : IM T f) (ha : 10 ≤ a) {p : Nat} {o : Option Nat} (hp : p < 8) (ho : sAh f p = some o) : ∃ s', q121 a (cAh (some o)) (nI p) s = rv (nI (sVi f p o)) s' ∧ Fq s s' := by
  obtain ⟨hS, hC, hW, hT, hk⟩ := hm
  unfold q121 sVi
  cases o with
  | none =>
    refine ⟨s, ?_, fun _ _ _ => rfl, rfl⟩
    simp only [cAh, show ((-nI 1 : Int32) < 0) = True from by decide, ↓reduceIte]
  | some b =>
    have hb : b < 8 := by
      rcases sAh_sh ho with ⟨e, hr⟩ | ⟨x, e, hx, hr⟩
      · cases e
      · cases e; exact hx
    simp (disch := omega) only [cAh, p64 h.1, b2_0, nI_lit, nI_add, pk_mul, nI_clp, nI_eqv, nI_lev, nI_ltv, nI_neg, nI_neg', nI_subv, Nat.add_zero, Nat.zero_add, Nat.mul_zero, Nat.reduceAdd, bN_rv, bM_ru, bV_rv, bV_rx, bU_ru, bU_rx, bN_ite, bM_ite, bV_ite, bU_ite, ↓bx_e, ↓sp_e, gA_ok, gZ_n, gB_0, gB_1, gB_i, and_true, and_false, true_and, false_and, decide_true, decide_false, ↓reduceIte, not_true_eq_false, not_false_eq_true, Bool.false_eq_true, Bool.true_eq_false, Bool.and_true, Bool.and_false, Bool.true_and, Bool.false_and, Bool.or_true, Bool.or_false, Bool.true_or, Bool.false_or, Bool.not_true, Bool.not_false, le_f, le_t, lt_f, lt_t, eq_f, ↓reduceIte, not_true_eq_false, not_false_eq_true, ite_10, bt_0, bt_1]
    cases e1 : sR f b
    · exact ⟨s, by simp only [and_true, and_false, true_and, false_and, decide_true, decide_false, ↓reduceIte, not_true_eq_false, not_false_eq_true, Bool.false_eq_true, Bool.true_eq_false, Bool.and_true, Bool.and_false, Bool.true_and, Bool.false_and, Bool.or_true, Bool.or_false, Bool.true_or, Bool.false_or, Bool.not_true, Bool.not_false], fun _ _ _ => rfl, rfl⟩
    · cases e2 : sR f p
      · exact ⟨s, by simp only [and_true, and_false, true_and, false_and, decide_true, decide_false, ↓reduceIte, not_true_eq_false, not_false_eq_true, Bool.false_eq_true, Bool.true_eq_false, Bool.and_true, Bool.and_false, Bool.true_and, Bool.false_and, Bool.or_true, Bool.or_false, Bool.true_or, Bool.false_or, Bool.not_true, Bool.not_false], fun _ _ _ => rfl, rfl⟩
      · obtain ⟨s1, j1, j2⟩ := p122 h hL hS hC hW ha hb (sR_U e1)
        obtain ⟨s2, k1, k2⟩ := p122 (RW_q h hS.1 ha j2) (RLw_q hL hW j2) hS hC hW ha hp (sR_U e2)
        refine ⟨s2, ?_, fun c c8 c9 => (k2.1 c c8 c9).trans (j2.1 c c8 c9), k2.2.trans j2.2⟩
        simp (disch := omega) only [j1, k1, nI_lit, nI_add, pk_mul, nI_clp, nI_eqv, nI_lev, nI_ltv, nI_neg, nI_neg', nI_subv, Nat.add_zero, Nat.zero_add, Nat.mul_zero, Nat.reduceAdd, bN_rv, bM_ru, bV_rv, bV_rx, bU_ru, bU_rx, bN_ite, bM_ite, bV_ite, bU_ite, ↓bx_e, ↓sp_e, gA_ok, gZ_n, gB_0, gB_1, gB_i, and_true, and_false, true_and, false_and, decide_true, decide_false, ↓reduceIte, not_true_eq_false, not_false_eq_true, Bool.false_eq_true, Bool.true_eq_false, Bool.and_true, Bool.and_false, Bool.true_and, Bool.false_and, Bool.or_true, Bool.or_false, Bool.true_or, Bool.false_or, Bool.not_true, Bool.not_false, le_f, le_t, lt_f, lt_t, eq_f, ↓reduceIte, not_true_eq_false, not_false_eq_true, ite_10, bt_0, bt_1]
        by_cases hq : sBl f b ≤ sBl f p <;> simp only [hq, and_true, and_false, true_and, false_and, decide_true, decide_false, ↓reduceIte, not_true_eq_false, not_false_eq_true, Bool.false_eq_true, Bool.true_eq_false, Bool.and_true, Bool.and_false, Bool.true_and, Bool.false_and, Bool.or_true, Bool.or_false, Bool.true_or, Bool.false_or, Bool.not_true, Bool.not_false]
theorem m256 {t : mS} (hs : IS (t.1 513)) (hc : IC (t.1 513)) (hw : WLw (t.1 513)) {p : Nat} {o : Option Nat} (hp : p < 8) (ho : sAh (t.1 513) p = some o) : ∃ t', q256 (nI p) (mAh (some o)) t = rv (nI (sVi (t.1 513) p o)) t' ∧ F1 520 t t' := by
  unfold q256 sVi
  cases o with
  | none =>
    refine ⟨t, ?_, fun _ _ => rfl, rfl⟩
    simp (disch := omega) only [mAh, nI_lit, nI_add, pk_mul, nI_clp, nI_eqv, nI_lev, nI_ltv, nI_neg, nI_neg', nI_subv, Nat.add_zero, Nat.zero_add, Nat.mul_zero, Nat.reduceAdd, bN_rv, bM_ru, bV_rv, bV_rx, bU_ru, bU_rx, bN_ite, bM_ite, bV_ite, bU_ite, ↓bx_e, ↓sp_e, gA_ok, gZ_n, gB_0, gB_1, gB_i, and_true, and_false, true_and, false_and, decide_true, decide_false, ↓reduceIte, not_true_eq_false, not_false_eq_true, Bool.false_eq_true, Bool.true_eq_false, Bool.and_true, Bool.and_false, Bool.true_and, Bool.false_and, Bool.or_true, Bool.or_false, Bool.true_or, Bool.false_or, Bool.not_true, Bool.not_false, le_f, le_t, lt_f, lt_t, eq_f, ↓reduceIte, not_true_eq_false, not_false_eq_true, ite_10, bt_0, bt_1, q198, q199, q200, q201, q202, q203, q204, m190, m205, m206, b2_0, q189, q187]
  | some b =>
    have hb : b < 8 := by
      rcases sAh_sh ho with ⟨e, hr⟩ | ⟨x, e, hx, hr⟩
      · cases e
      · cases e; exact hx
    simp (disch := omega) only [mAh, nI_lit, nI_add, pk_mul, nI_clp, nI_eqv, nI_lev, nI_ltv, nI_neg, nI_neg', nI_subv, Nat.add_zero, Nat.zero_add, Nat.mul_zero, Nat.reduceAdd, bN_rv, bM_ru, bV_rv, bV_rx, bU_ru, bU_rx, bN_ite, bM_ite, bV_ite, bU_ite, ↓bx_e, ↓sp_e, gA_ok, gZ_n, gB_0, gB_1, gB_i, and_true, and_false, true_and, false_and, decide_true, decide_false, ↓reduceIte, not_true_eq_false, not_false_eq_true, Bool.false_eq_true, Bool.true_eq_false, Bool.and_true, Bool.and_false, Bool.true_and, Bool.false_and, Bool.or_true, Bool.or_false, Bool.true_or, Bool.false_or, Bool.not_true, Bool.not_false, le_f, le_t, lt_f, lt_t, eq_f, ↓reduceIte, not_true_eq_false, not_false_eq_true, ite_10, bt_0, bt_1, q198, q199, q200, q201, q202, q203, q204, m190, m205, m206, b2_0, q189, q187]
    cases e1 : sR (t.1 513) b
    · exact ⟨t, by simp only [and_true, and_false, true_and, false_and, decide_true, decide_false, ↓reduceIte, not_true_eq_false, not_false_eq_true, Bool.false_eq_true, Bool.true_eq_false, Bool.and_true, Bool.and_false, Bool.true_and, Bool.false_and, Bool.or_true, Bool.or_false, Bool.true_or, Bool.false_or, Bool.not_true, Bool.not_false], fun _ _ => rfl, rfl⟩
    · cases e2 : sR (t.1 513) p
      · exact ⟨t, by simp only [and_true, and_false, true_and, false_and, decide_true, decide_false, ↓reduceIte, not_true_eq_false, not_false_eq_true, Bool.false_eq_true, Bool.true_eq_false, Bool.and_true, Bool.and_false, Bool.true_and, Bool.false_and, Bool.or_true, Bool.or_false, Bool.true_or, Bool.false_or, Bool.not_true, Bool.not_false], fun _ _ => rfl, rfl⟩
      · obtain ⟨t1, j1, j2⟩ := m247 hs hc hw hp
        have e513 : t1.1 513 = t.1 513 := j2.1 513 (by omega)
        obtain ⟨t2, k1, k2⟩ := m247 (t := t1) (by rw [e513]; exact hs) (by rw [e513]; exact hc) (by rw [e513]; exact hw) hb
        rw [e513] at k1
        refine ⟨t2, ?_, F1_t j2 k2⟩
        simp (disch := omega) only [j1, k1, nI_lit, nI_add, pk_mul, nI_clp, nI_eqv, nI_lev, nI_ltv, nI_neg, nI_neg', nI_subv, Nat.add_zero, Nat.zero_add, Nat.mul_zero, Nat.reduceAdd, bN_rv, bM_ru, bV_rv, bV_rx, bU_ru, bU_rx, bN_ite, bM_ite, bV_ite, bU_ite, ↓bx_e, ↓sp_e, gA_ok, gZ_n, gB_0, gB_1, gB_i, and_true, and_false, true_and, false_and, decide_true, decide_false, ↓reduceIte, not_true_eq_false, not_false_eq_true, Bool.false_eq_true, Bool.true_eq_false, Bool.and_true, Bool.and_false, Bool.true_and, Bool.false_and, Bool.or_true, Bool.or_false, Bool.true_or, Bool.false_or, Bool.not_true, Bool.not_false, le_f, le_t, lt_f, lt_t, eq_f, ↓reduceIte, not_true_eq_false, not_false_eq_true, ite_10, bt_0, bt_1]
        by_cases hq : sBl (t.1 513) b ≤ sBl (t.1 513) p
        · simp only [hq, Int32.not_lt.mpr hq, and_true, and_false, true_and, false_and, decide_true, decide_false, ↓reduceIte, not_true_eq_false, not_false_eq_true, Bool.false_eq_true, Bool.true_eq_false, Bool.and_true, Bool.and_false, Bool.true_and, Bool.false_and, Bool.or_true, Bool.or_false, Bool.true_or, Bool.false_or, Bool.not_true, Bool.not_false]
        · simp only [hq, Int32.not_le.mp hq, and_true, and_false, true_and, false_and, decide_true, decide_false, ↓reduceIte, not_true_eq_false, not_false_eq_true, Bool.false_eq_true, Bool.true_eq_false, Bool.and_true, Bool.and_false, Bool.true_and, Bool.false_and, Bool.or_true, Bool.or_false, Bool.true_or, Bool.false_or, Bool.not_true, Bool.not_false]
/-- what the reference may change beside its row; who is aborted is marked -/
def MA (t t' : mS) (f f' : Nat → Int32) : Prop := t'.1 513 = f' ∧ (∀ b, b ≠ 512 → b ≠ 513 → b ≠ 520 → t'.1 b = t.1 b) ∧ (∀ j, j ≠ 18 → t'.1 512 j = t.1 512 j) ∧ t'.2 = t.2 ∧
  (∀ j, bt (t'.1 512 18) j = (bt (t.1 512 18) j || (decide (j < 8) && (sR f j && !(sR f' j))))) ∧ (∀ j, j < 8 → sR f' j = true → sR f j = true)
theorem MA_r {t : mS} : MA t t (t.1 513) (t.1 513) := by
  refine ⟨rfl, fun _ _ _ _ => rfl, fun _ _ => rfl, rfl, fun j => ?_, fun _ _ h => h⟩
  cases sR (t.1 513) j <;> simp only [and_true, and_false, true_and, false_and, decide_true, decide_false, ↓reduceIte, not_true_eq_false, not_false_eq_true, Bool.false_eq_true, Bool.true_eq_false, Bool.and_true, Bool.and_false, Bool.true_and, Bool.false_and, Bool.or_true, Bool.or_false, Bool.true_or, Bool.false_or, Bool.not_true, Bool.not_false]
theorem MA_t {t t' t'' : mS} {f f' f'' : Nat → Int32} (h : MA t t' f f') (h2 : MA t' t'' f' f'') : MA t t'' f f'' := by
  obtain ⟨a1, a2, a3, a4, a5, a6⟩ := h
  obtain ⟨b1, b2, b3, b4, b5, b6⟩ := h2
  refine ⟨b1, fun b x y z => (b2 b x y z).trans (a2 b x y z), fun j hj => (b3 j hj).trans (a3 j hj), b4.trans a4, fun j => ?_, fun j hj h => a6 j hj (b6 j hj h)⟩
  rw [b5 j, a5 j]
  by_cases hj : j < 8
  · have q1 := a6 j hj
    have q2 := b6 j hj
    cases e1 : sR f j <;> cases e2 : sR f' j <;> cases e3 : sR f'' j <;> rw [e1, e2] at q1 <;> rw [e2, e3] at q2 <;> simp_all
  · simp only [hj, and_true, and_false, true_and, false_and, decide_true, decide_false, ↓reduceIte, not_true_eq_false, not_false_eq_true, Bool.false_eq_true, Bool.true_eq_false, Bool.and_true, Bool.and_false, Bool.true_and, Bool.false_and, Bool.or_true, Bool.or_false, Bool.true_or, Bool.false_or, Bool.not_true, Bool.not_false]
theorem MA_520 {t t' : mS} (h : F1 520 t t') : MA t t' (t.1 513) (t.1 513) := by
  refine ⟨h.1 513 (by omega), fun b _ _ x => h.1 b x, fun j _ => by rw [h.1 512 (by omega)], h.2, fun j => ?_, fun _ _ h => h⟩
  rw [h.1 512 (by omega)]
  cases sR (t.1 513) j <;> simp only [and_true, and_false, true_and, false_and, decide_true, decide_false, ↓reduceIte, not_true_eq_false, not_false_eq_true, Bool.false_eq_true, Bool.true_eq_false, Bool.and_true, Bool.and_false, Bool.true_and, Bool.false_and, Bool.or_true, Bool.or_false, Bool.true_or, Bool.false_or, Bool.not_true, Bool.not_false]
theorem MA_ab {t : mS} (hw : IW (t.1 513)) {i : Nat} (hi : i < 8) (hr : sR (t.1 513) i = true) {w : Int32} : MA t (wr (sI t 512 18 (t.1 512 18 ||| shlI (nI 1) (nI i))) (mAbort (t.1 513) i w)) (t.1 513) (mAbort (t.1 513) i w) := by
  have h2 := (hw i hi).2
  refine ⟨wr_1, fun b x y z => by rw [wr_n y, sI_fn x], fun j hj => by rw [wr_n (by omega), sI_sm, ud_n hj], Eq.trans rfl rfl, fun j => ?_, fun j hj h => ?_⟩
  · rw [wr_n (by omega), sI_sm, ud_e rfl, bt_or1 (by omega)]
    by_cases hj : j < 8
    · rw [sR_ab h2 hj]
      by_cases e : j = i
      · subst e; simp only [hr, hj, and_true, and_false, true_and, false_and, decide_true, decide_false, ↓reduceIte, not_true_eq_false, not_false_eq_true, Bool.false_eq_true, Bool.true_eq_false, Bool.and_true, Bool.and_false, Bool.true_and, Bool.false_and, Bool.or_true, Bool.or_false, Bool.true_or, Bool.false_or, Bool.not_true, Bool.not_false]
      · cases sR (t.1 513) j <;> simp only [e, and_true, and_false, true_and, false_and, decide_true, decide_false, ↓reduceIte, not_true_eq_false, not_false_eq_true, Bool.false_eq_true, Bool.true_eq_false, Bool.and_true, Bool.and_false, Bool.true_and, Bool.false_and, Bool.or_true, Bool.or_false, Bool.true_or, Bool.false_or, Bool.not_true, Bool.not_false]
    · have : j ≠ i := by omega
      simp only [hj, this, and_true, and_false, true_and, false_and, decide_true, decide_false, ↓reduceIte, not_true_eq_false, not_false_eq_true, Bool.false_eq_true, Bool.true_eq_false, Bool.and_true, Bool.and_false, Bool.true_and, Bool.false_and, Bool.or_true, Bool.or_false, Bool.true_or, Bool.false_or, Bool.not_true, Bool.not_false]
  · rw [sR_ab h2 hj, Bool.and_eq_true] at h; exact h.1
/-- how many run -/
def cR (f : Nat → Int32) : Nat → Nat
  | 0 => 0
  | n + 1 => cR f n + (if sR f n = true then 1 else 0)
theorem cR_le {f : Nat → Int32} : ∀ n, cR f n ≤ n
  | 0 => Nat.le_refl _
  | n + 1 => by
    have := cR_le (f := f) n
    rw [cR]
    split <;> omega
theorem cR_ab {f : Nat → Int32} {i : Nat} {w : Int32} (hw : wh f i < 5) (hr : sR f i = true) : ∀ n, n ≤ 8 → cR (mAbort f i w) n + (if i < n then 1 else 0) = cR f n
  | 0, _ => by rw [if_neg (by omega)]; rfl
  | n + 1, h => by
    have ih := cR_ab hw hr (w := w) n (by omega)
    rw [cR, cR, sR_ab hw (by omega)]
    by_cases e : n = i
    · subst e
      rw [hr]
      simp only [and_true, and_false, true_and, false_and, decide_true, decide_false, ↓reduceIte, not_true_eq_false, not_false_eq_true, Bool.false_eq_true, Bool.true_eq_false, Bool.and_true, Bool.and_false, Bool.true_and, Bool.false_and, Bool.or_true, Bool.or_false, Bool.true_or, Bool.false_or, Bool.not_true, Bool.not_false]
      rw [if_neg (by omega)] at ih
      rw [if_pos (by omega)]
      omega
    · simp only [e, and_true, and_false, true_and, false_and, decide_true, decide_false, ↓reduceIte, not_true_eq_false, not_false_eq_true, Bool.false_eq_true, Bool.true_eq_false, Bool.and_true, Bool.and_false, Bool.true_and, Bool.false_and, Bool.or_true, Bool.or_false, Bool.true_or, Bool.false_or, Bool.not_true, Bool.not_false]
      have e2 : (if i < n + 1 then (1 : Nat) else 0) = (if i < n then 1 else 0) := by
        by_cases hl : i < n
        · rw [if_pos hl, if_pos (by omega)]
        · rw [if_neg hl, if_neg (by omega)]
      rw [e2]
      omega
theorem cR_0 {f : Nat → Int32} : ∀ n, cR f n = 0 → ∀ j, j < n → sR f j = false
  | 0, _, j, h => by omega
  | n + 1, h, j, hj => by
    rw [cR] at h
    by_cases e : j = n
    · subst e
      cases q : sR f j with
      | false => rfl
      | true => rw [q, if_pos rfl] at h; omega
    · exact cR_0 n (by omega) j (by omega)
theorem m257_i {t : mS} (hw : IW (t.1 513)) : ∀ m p n0, p + m = 8 → (fs (fun i => (sAh (t.1 513) i).isSome) m p = none → q257_2 (m + 1 + n0) (nI p) t = ru t) ∧
    (∀ j, fs (fun i => (sAh (t.1 513) i).isSome) m p = some j → ∃ k, n0 ≤ k ∧ q257_2 (m + 1 + n0) (nI p) t = bN (q256 (nI j) (mAh (sAh (t.1 513) j)) t) fun x4 s3 => bM (q254 x4 (nI 3) s3) fun s5 => q257_2 k (nI 0) s5) := by
  intro m
  induction m with
  | zero =>
    intro p n0 hp
    have : p = 8 := by omega
    subst this
    refine ⟨fun _ => ?_, fun j h => by cases h⟩
    rw [show 0 + 1 + n0 = n0 + 1 by omega, q257_2]
    simp (disch := omega) only [nI_lit, nI_add, pk_mul, nI_clp, nI_eqv, nI_lev, nI_ltv, nI_neg, nI_neg', nI_subv, Nat.add_zero, Nat.zero_add, Nat.mul_zero, Nat.reduceAdd, bN_rv, bM_ru, bV_rv, bV_rx, bU_ru, bU_rx, bN_ite, bM_ite, bV_ite, bU_ite, ↓bx_e, ↓sp_e, gA_ok, gZ_n, gB_0, gB_1, gB_i, and_true, and_false, true_and, false_and, decide_true, decide_false, ↓reduceIte, not_true_eq_false, not_false_eq_true, Bool.false_eq_true, Bool.true_eq_false, Bool.and_true, Bool.and_false, Bool.true_and, Bool.false_and, Bool.or_true, Bool.or_false, Bool.true_or, Bool.false_or, Bool.not_true, Bool.not_false, le_f, le_t, lt_f, lt_t, eq_f, ↓reduceIte, not_true_eq_false, not_false_eq_true, ite_10, bt_0, bt_1]
  | succ m ih =>
    intro p n0 hp
    obtain ⟨i1, i2⟩ := ih (p + 1) n0 (by omega)
    have st : sAh (t.1 513) p = none → q257_2 (m + 1 + 1 + n0) (nI p) t = q257_2 (m + 1 + n0) (nI (p + 1)) t := by
      intro e
      rw [show m + 1 + 1 + n0 = (m + 1 + n0) + 1 by omega, q257_2]
      simp (disch := omega) only [m255 hw, e, mAh, q257_38, nI_lit, nI_add, pk_mul, nI_clp, nI_eqv, nI_lev, nI_ltv, nI_neg, nI_neg', nI_subv, Nat.add_zero, Nat.zero_add, Nat.mul_zero, Nat.reduceAdd, bN_rv, bM_ru, bV_rv, bV_rx, bU_ru, bU_rx, bN_ite, bM_ite, bV_ite, bU_ite, ↓bx_e, ↓sp_e, gA_ok, gZ_n, gB_0, gB_1, gB_i, and_true, and_false, true_and, false_and, decide_true, decide_false, ↓reduceIte, not_true_eq_false, not_false_eq_true, Bool.false_eq_true, Bool.true_eq_false, Bool.and_true, Bool.and_false, Bool.true_and, Bool.false_and, Bool.or_true, Bool.or_false, Bool.true_or, Bool.false_or, Bool.not_true, Bool.not_false, le_f, le_t, lt_f, lt_t, eq_f, ↓reduceIte, not_true_eq_false, not_false_eq_true, ite_10, bt_0, bt_1]
    rw [fs]
    cases e : sAh (t.1 513) p with
    | none =>
      rw [if_neg (by simp), st e]
      exact ⟨i1, i2⟩
    | some o =>
      rw [if_pos (by simp)]
      refine ⟨fun h => by (cases h), fun j h => ?_⟩
      cases h
      refine ⟨m + 1 + n0, by omega, ?_⟩
      have hne : (mAh (some o) = -nI 1) = False := by
        rcases sAh_sh e with ⟨q, -⟩ | ⟨z, q, hz, -⟩ <;> subst q
        · exact nI_neg (by omega)
        · exact nI_neg (by omega)
      rw [show m + 1 + 1 + n0 = (m + 1 + n0) + 1 by omega, q257_2]
      simp (disch := omega) only [m255 hw, e, hne, q257_38, nI_lit, nI_add, pk_mul, nI_clp, nI_eqv, nI_lev, nI_ltv, nI_neg, nI_neg', nI_subv, Nat.add_zero, Nat.zero_add, Nat.mul_zero, Nat.reduceAdd, bN_rv, bM_ru, bV_rv, bV_rx, bU_ru, bU_rx, bN_ite, bM_ite, bV_ite, bU_ite, ↓bx_e, ↓sp_e, gA_ok, gZ_n, gB_0, gB_1, gB_i, and_true, and_false, true_and, false_and, decide_true, decide_false, ↓reduceIte, not_true_eq_false, not_false_eq_true, Bool.false_eq_true, Bool.true_eq_false, Bool.and_true, Bool.and_false, Bool.true_and, Bool.false_and, Bool.or_true, Bool.or_false, Bool.true_or, Bool.false_or, Bool.not_true, Bool.not_false, le_f, le_t, lt_f, lt_t, eq_f, ↓reduceIte, not_true_eq_false, not_false_eq_true, ite_10, bt_0, bt_1]
theorem m257_N {T : Nat} : ∀ N (t : mS) n, IM T (t.1 513) → cR (t.1 513) 8 ≤ N → 9 * (N + 1) ≤ n → ∃ t', q257_2 n (nI 0) t = ru t' ∧ MA t t' (t.1 513) (mMet N (t.1 513)) ∧ IM T (mMet N (t.1 513)) := by
  intro N
  induction N with
  | zero =>
    intro t n hm hc hn
    have hnone : sDg (t.1 513) = none := by
      cases e : sDg (t.1 513) with
      | none => rfl
      | some p =>
        obtain ⟨-, h2, h3⟩ := sDg_R e
        rw [cR_0 8 (by omega) _ h2] at h3
        cases h3
    have := (m257_i hm.1.1 8 0 (n - 9) (by omega)).1 hnone
    rw [show 8 + 1 + (n - 9) = n by omega] at this
    exact ⟨t, this, MA_r, hm⟩
  | succ N ih =>
    intro t n hm hc hn
    have hI := m257_i hm.1.1 8 0 (n - 9) (by omega)
    rw [show 8 + 1 + (n - 9) = n by omega] at hI
    rw [mMet]
    cases e : sDg (t.1 513) with
    | none => exact ⟨t, hI.1 e, MA_r, hm⟩
    | some p =>
      obtain ⟨k, hk, h1⟩ := hI.2 p e
      obtain ⟨hp, hv, hr⟩ := sDg_R e
      cases eo : sAh (t.1 513) p with
      | none =>
        have := (fs_some e).2.2.1
        rw [eo] at this
        cases this
      | some o =>
        rw [eo] at h1
        rw [sVp_e eo] at hv hr
        dsimp only
        rw [sVp_e eo]
        obtain ⟨t1, j1, j2⟩ := m256 hm.1 hm.2.1 hm.2.2.1 hp eo
        have e513 : t1.1 513 = t.1 513 := j2.1 513 (by omega)
        have hw1 : IW (t1.1 513) := by rw [e513]; exact hm.1.1
        have hab := MA_ab hw1 hv (by rw [e513]; exact hr) (w := nI 3)
        have M1 := MA_520 j2
        rw [e513] at hab
        have M2 := MA_t M1 hab
        generalize ht2 : wr (sI t1 512 18 (t1.1 512 18 ||| shlI (nI 1) (nI (sVi (t.1 513) p o)))) (mAbort (t.1 513) (sVi (t.1 513) p o) (nI 3)) = t2 at M2 hab
        have e2 : t2.1 513 = mAbort (t.1 513) (sVi (t.1 513) p o) (nI 3) := M2.1
        have hcr := cR_ab (hm.1.1 _ hv).2 hr (w := nI 3) 8 (by omega)
        rw [if_pos hv] at hcr
        obtain ⟨t3, k1, k2, k3⟩ := ih t2 k (by rw [e2]; exact IM_ab hm hv (sR_U hr)) (by rw [e2]; omega) (by omega)
        rw [e2] at k2 k3
        refine ⟨t3, ?_, MA_t M2 k2, k3⟩
        rw [h1, j1]
        simp only [bN_rv]
        rw [m254 hw1 hv, e513, ht2]
        simp only [bM_ru]
        exact k1
theorem m257 {t : mS} {T : Nat} (hm : IM T (t.1 513)) : ∃ t', q257 t = ru t' ∧ MA t t' (t.1 513) (mMet 8 (t.1 513)) ∧ IM T (mMet 8 (t.1 513)) := by
  unfold q257
  rw [nI_lit]
  exact m257_N 8 t 10000 hm (cR_le 8) (by omega)
theorem p120_2 {a T : Nat} (ha : 10 ≤ a) : ∀ m i n (s : mS) (f : Nat → Int32), i + m = 8 → RW s a f → RLw s f → IM T f → m < n → ∃ s', q120_2 (q120_21 a) (q120_48 a) a n (nI i) s = q120_48 a s' ∧ RW s' a (mMet m f) ∧ RLw s' (mMet m f) ∧ Fw a s s' := by
  intro m
  induction m with
  | zero =>
    intro i n s f hi h hL hm hn
    cases n with
    | zero => omega
    | succ n =>
      have : i = 8 := by omega
      subst this
      refine ⟨s, ?_, h, hL, Fw_r⟩
      rw [q120_2]
      simp (disch := omega) only [nI_lit, nI_add, pk_mul, nI_clp, nI_eqv, nI_lev, nI_ltv, nI_neg, nI_neg', nI_subv, Nat.add_zero, Nat.zero_add, Nat.mul_zero, Nat.reduceAdd, bN_rv, bM_ru, bV_rv, bV_rx, bU_ru, bU_rx, bN_ite, bM_ite, bV_ite, bU_ite, ↓bx_e, ↓sp_e, gA_ok, gZ_n, gB_0, gB_1, gB_i, and_true, and_false, true_and, false_and, decide_true, decide_false, ↓reduceIte, not_true_eq_false, not_false_eq_true, Bool.false_eq_true, Bool.true_eq_false, Bool.and_true, Bool.and_false, Bool.true_and, Bool.false_and, Bool.or_true, Bool.or_false, Bool.true_or, Bool.false_or, Bool.not_true, Bool.not_false, le_f, le_t, lt_f, lt_t, eq_f, ↓reduceIte, not_true_eq_false, not_false_eq_true, ite_10, bt_0, bt_1]
  | succ m ih =>
    intro i n s f hi h hL hm hn
    cases n with
    | zero => omega
    | succ n =>
      rw [mMet, q120_2]
      simp (disch := omega) only [p86 h.1 hm.1, nI_lit, nI_add, pk_mul, nI_clp, nI_eqv, nI_lev, nI_ltv, nI_neg, nI_neg', nI_subv, Nat.add_zero, Nat.zero_add, Nat.mul_zero, Nat.reduceAdd, bN_rv, bM_ru, bV_rv, bV_rx, bU_ru, bU_rx, bN_ite, bM_ite, bV_ite, bU_ite, ↓bx_e, ↓sp_e, gA_ok, gZ_n, gB_0, gB_1, gB_i, and_true, and_false, true_and, false_and, decide_true, decide_false, ↓reduceIte, not_true_eq_false, not_false_eq_true, Bool.false_eq_true, Bool.true_eq_false, Bool.and_true, Bool.and_false, Bool.true_and, Bool.false_and, Bool.or_true, Bool.or_false, Bool.true_or, Bool.false_or, Bool.not_true, Bool.not_false, le_f, le_t, lt_f, lt_t, eq_f, ↓reduceIte, not_true_eq_false, not_false_eq_true, ite_10, bt_0, bt_1]
      cases e : sDg f with
      | none =>
        refine ⟨s, ?_, h, hL, Fw_r⟩
        unfold sDg at e
        simp only [e, oI_n, q120_21, and_true, and_false, true_and, false_and, decide_true, decide_false, ↓reduceIte, not_true_eq_false, not_false_eq_true, Bool.false_eq_true, Bool.true_eq_false, Bool.and_true, Bool.and_false, Bool.true_and, Bool.false_and, Bool.or_true, Bool.or_false, Bool.true_or, Bool.false_or, Bool.not_true, Bool.not_false]
      | some p =>
        obtain ⟨hp, hv, hr⟩ := sDg_R e
        have hu : sU f p = true := by
          have h3 := (fs_some e).2.2.1
          cases q : sU f p with
          | true => rfl
          | false =>
            have : sAh f p = none := by unfold sAh; rw [q]; rfl
            rw [this] at h3; cases h3
        cases eo : sAh f p with
        | none =>
          have := (fs_some e).2.2.1
          rw [eo] at this
          cases this
        | some o =>
          rw [sVp_e eo] at hv hr
          dsimp only
          rw [sVp_e eo]
          obtain ⟨s1, j1, j2⟩ := p121 h hL hm ha hp eo
          obtain ⟨s2, k1, k2, k3, k4⟩ := p119 (RW_q h hm.1.1 ha j2) (RLw_q hL hm.2.2.1 j2) hm ha hv (sR_U hr) (w := nI 3)
          obtain ⟨s3, l1, l2, l3, l4⟩ := ih (i + 1) n s2 _ (by omega) k2 k3 (IM_ab hm hv (sR_U hr)) (by omega)
          refine ⟨s3, ?_, l2, l3, Fw_t (Fw_q j2) (Fw_t k4 l4)⟩
          unfold sDg at e
          rw [← l1]
          simp (disch := omega) only [e, oI_s, p87 h.1 hm.1 hp hu, eo, j1, k1, nI_lit, nI_add, pk_mul, nI_clp, nI_eqv, nI_lev, nI_ltv, nI_neg, nI_neg', nI_subv, Nat.add_zero, Nat.zero_add, Nat.mul_zero, Nat.reduceAdd, bN_rv, bM_ru, bV_rv, bV_rx, bU_ru, bU_rx, bN_ite, bM_ite, bV_ite, bU_ite, ↓bx_e, ↓sp_e, gA_ok, gZ_n, gB_0, gB_1, gB_i, and_true, and_false, true_and, false_and, decide_true, decide_false, ↓reduceIte, not_true_eq_false, not_false_eq_true, Bool.false_eq_true, Bool.true_eq_false, Bool.and_true, Bool.and_false, Bool.true_and, Bool.false_and, Bool.or_true, Bool.or_false, Bool.true_or, Bool.false_or, Bool.not_true, Bool.not_false, le_f, le_t, lt_f, lt_t, eq_f, ↓reduceIte, not_true_eq_false, not_false_eq_true, ite_10, bt_0, bt_1]
