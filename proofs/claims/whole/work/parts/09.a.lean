/-! READ -/
theorem RW_rs {s s' : mS} {a : Nat} {f g : Nat → Int32} (h : RW s a f) (hR : RS s' (a + 6) g) (hc : ∀ b, b < a + 6 ∨ a + 18 ≤ b → s'.1 b = s.1 b) (hg : ∀ j, j < 74 ∨ 242 ≤ j → g j = f j) : RW s' a g := by
  obtain ⟨h1, h2, h3, h4, h5, h6, h7, h8, h9, h10⟩ := h
  refine ⟨hR, RC_c h2 (fun b x y => hc b (by omega)) (hg _ (by omega)) (fun j x y => hg _ (by omega)), RK_c h3 (fun b x y => hc b (by omega)) (fun j x y => hg _ (by omega)), RLg_c h4 (fun b x y => hc b (by omega)) (hg _ (by omega)) (fun j x y => hg _ (by omega)), RH_c h5 (fun b x y => hc b (by omega)) (hg _ (by omega)) (fun j x y => hg _ (by omega)), ?_, ?_, ?_, ?_, ?_⟩ <;> rw [hc a (by omega), hg _ (by omega)] <;> assumption
theorem IM_rs {T : Nat} {f g : Nat → Int32} (h : IM T f) (hs : IS g) (ht : IT T g) (hg : ∀ j, j < 74 ∨ 242 ≤ j → g j = f j) (hu : ∀ j, j < 8 → sU g j = sU f j) (hw : ∀ j, j < 8 → wh g j = wh f j) : IM T g := by
  obtain ⟨-, ⟨n, hn, a0, a1, a2, a3, a4⟩, h3, -, k, hk, h5⟩ := h
  refine ⟨hs, ⟨n, hn, ?_, fun c hc => ?_, fun c w' hc hc5 hw' => ?_, fun c j hc hj => ?_, fun j hj hv => ?_⟩, WLw_c (hg _ (by omega)) (fun j a b => hg _ (by omega)) h3, ht, k, hk, ?_⟩
  · rw [hg _ (by omega)]; exact a0
  · rw [hg _ (by omega)]; exact a1 c hc
  · rw [hg _ (by omega)]; exact a2 c w' hc hc5 hw'
  · rw [hg _ (by omega), hg _ (by omega)]; exact a3 c j hc hj
  · rw [hw j hj]; exact a4 j hj (by rw [← hu j hj]; exact hv)
  · rw [hg _ (by omega)]; exact h5
theorem RLw_rs {s s' : mS} {a : Nat} {f g : Nat → Int32} (h : RLw s f) (hw : WLw f) (ha : 10 ≤ a) (hc : ∀ b, b < a + 6 ∨ a + 18 ≤ b → s'.1 b = s.1 b) (hg : ∀ j, j < 74 ∨ 242 ≤ j → g j = f j) : RLw s' g := RLw_c hw (hg _ (by omega)) (fun j x y => hg _ (by omega)) (fun b x y => hc b (by omega)) h
theorem IM_u {T : Nat} {f : Nat → Int32} (h : IM T f) {i w : Nat} (hi : i < 8) (hu : sU f i = true) (hw : w = 4 ∨ w = 5 ∨ w = 9) (x : Int32) : IM T (upd f (74 + 21 * i + w) x) := by
  refine IM_rs h (IS_u h.1 hi hu (by omega) x) ?_ (fun j hj => ud_n (by omega)) (fun j hj => sU_u (by omega)) (fun j hj => wh_u (by omega))
  obtain ⟨t0, t3, t⟩ := h.2.2.2.1
  refine ⟨t0, by rw [ud_n (by omega)]; exact t3, fun l hl => ?_⟩
  rw [ud_n (by omega), ud_n (by omega), ud_n (by omega)]; exact t l hl
theorem al_fs {p : Nat → Bool} : ∀ m i, al (fun k => !(p k)) m i = (fs p m i).isNone := by
  intro m
  induction m with
  | zero => intro i; rfl
  | succ m ih =>
    intro i
    rw [al, fs, ih]
    cases e : p i <;> simp
theorem p68 {s : mS} {z : Nat} {f : Nat → Int32} (h : RS s z f) (hs : IS f) {i : Nat} (hi : i < 8) (hu : sU f i = true) : q68 z (nI i) s = rv (b2 (sSafe f i)) s := by
  have hw : ∀ o, o < 8 → bt (s.1 z 0 &&& (s.1 z 2 ^^^ -nI 1)) o = (sR f o && !(sOn f o)) := by
    intro o ho
    rw [b_and, bt_no (by omega), h.1 o, h.2.2.1 o]
    cases e : sR f o
    · simp only [and_true, and_false, true_and, false_and, decide_true, decide_false, ↓reduceIte, not_true_eq_false, not_false_eq_true, Bool.false_eq_true, Bool.true_eq_false, Bool.and_true, Bool.and_false, Bool.true_and, Bool.false_and, Bool.or_true, Bool.or_false, Bool.true_or, Bool.false_or, Bool.not_true, Bool.not_false]
    · rw [sR_U e]; simp only [ho, and_true, and_false, true_and, false_and, decide_true, decide_false, ↓reduceIte, not_true_eq_false, not_false_eq_true, Bool.false_eq_true, Bool.true_eq_false, Bool.and_true, Bool.and_false, Bool.true_and, Bool.false_and, Bool.or_true, Bool.or_false, Bool.true_or, Bool.false_or, Bool.not_true, Bool.not_false]
  have hb : bt (s.1 z 0 &&& s.1 z 2 &&& (s.1 z 3 ^^^ -nI 1)) i = (sR f i && sOn f i && decide (f (74 + 21 * i + 10) = nI 0)) := by
    rw [b_and, b_and, bt_no (by omega), h.1 i, h.2.2.1 i, h.2.2.2.1 i, hu]
    rcases hs.2.2.2.2.1 i hi with e | e <;> rw [e]
    · simp only [hi, show (nI 0 = nI 1) = False from by decide, and_true, and_false, true_and, false_and, decide_true, decide_false, ↓reduceIte, not_true_eq_false, not_false_eq_true, Bool.false_eq_true, Bool.true_eq_false, Bool.and_true, Bool.and_false, Bool.true_and, Bool.false_and, Bool.or_true, Bool.or_false, Bool.true_or, Bool.false_or, Bool.not_true, Bool.not_false]
    · simp only [hi, show (nI 1 = nI 0) = False from by decide, and_true, and_false, true_and, false_and, decide_true, decide_false, ↓reduceIte, not_true_eq_false, not_false_eq_true, Bool.false_eq_true, Bool.true_eq_false, Bool.and_true, Bool.and_false, Bool.true_and, Bool.false_and, Bool.or_true, Bool.or_false, Bool.true_or, Bool.false_or, Bool.not_true, Bool.not_false]
  unfold q68 sSafe
  simp (disch := omega) only [bt_and1, hb, nI_lit, nI_add, pk_mul, nI_clp, nI_eqv, nI_lev, nI_ltv, nI_neg, nI_neg', nI_subv, Nat.add_zero, Nat.zero_add, Nat.mul_zero, Nat.reduceAdd, bN_rv, bM_ru, bV_rv, bV_rx, bU_ru, bU_rx, bN_ite, bM_ite, bV_ite, bU_ite, ↓bx_e, ↓sp_e, gA_ok, gZ_n, gB_0, gB_1, gB_i, and_true, and_false, true_and, false_and, decide_true, decide_false, ↓reduceIte, not_true_eq_false, not_false_eq_true, Bool.false_eq_true, Bool.true_eq_false, Bool.and_true, Bool.and_false, Bool.true_and, Bool.false_and, Bool.or_true, Bool.or_false, Bool.true_or, Bool.false_or, Bool.not_true, Bool.not_false, le_f, le_t, lt_f, lt_t, eq_f, ↓reduceIte, not_true_eq_false, not_false_eq_true, ite_10, bt_0, bt_1]
  have L := lp_fs (Q := fun n o => q68_39 z n (nI i) (s.1 z 0 &&& (s.1 z 2 ^^^ -nI 1)) o s) (p := fun o => sR f o && !(sOn f o) && decide (f (74 + 21 * o + 2) < f (74 + 21 * i + 2))) (e := 8) (no := rv (nI 1) s) (yes := fun _ => rv (nI 0) s) (fun n => ?_) (fun n o ho => ?_) 8 0 10000 (by omega) (by omega)
  · cases e : (sR f i && sOn f i && decide (f (74 + 21 * i + 10) = nI 0))
    · simp only [b2_f, and_true, and_false, true_and, false_and, decide_true, decide_false, ↓reduceIte, not_true_eq_false, not_false_eq_true, Bool.false_eq_true, Bool.true_eq_false, Bool.and_true, Bool.and_false, Bool.true_and, Bool.false_and, Bool.or_true, Bool.or_false, Bool.true_or, Bool.false_or, Bool.not_true, Bool.not_false]
    · simp only [and_true, and_false, true_and, false_and, decide_true, decide_false, ↓reduceIte, not_true_eq_false, not_false_eq_true, Bool.false_eq_true, Bool.true_eq_false, Bool.and_true, Bool.and_false, Bool.true_and, Bool.false_and, Bool.or_true, Bool.or_false, Bool.true_or, Bool.false_or, Bool.not_true, Bool.not_false]
      rw [L, al_fs]
      cases fs (fun o => sR f o && !(sOn f o) && decide (f (74 + 21 * o + 2) < f (74 + 21 * i + 2))) 8 0
      · exact congrArg (fun q => rv q s) b2_t.symm
      · exact congrArg (fun q => rv q s) b2_f.symm
  · simp (disch := omega) only [q68_39, nI_lit, nI_add, pk_mul, nI_clp, nI_eqv, nI_lev, nI_ltv, nI_neg, nI_neg', nI_subv, Nat.add_zero, Nat.zero_add, Nat.mul_zero, Nat.reduceAdd, bN_rv, bM_ru, bV_rv, bV_rx, bU_ru, bU_rx, bN_ite, bM_ite, bV_ite, bU_ite, ↓bx_e, ↓sp_e, gA_ok, gZ_n, gB_0, gB_1, gB_i, and_true, and_false, true_and, false_and, decide_true, decide_false, ↓reduceIte, not_true_eq_false, not_false_eq_true, Bool.false_eq_true, Bool.true_eq_false, Bool.and_true, Bool.and_false, Bool.true_and, Bool.false_and, Bool.or_true, Bool.or_false, Bool.true_or, Bool.false_or, Bool.not_true, Bool.not_false, le_f, le_t, lt_f, lt_t, eq_f, ↓reduceIte, not_true_eq_false, not_false_eq_true, ite_10, bt_0, bt_1]
  · simp (disch := omega) only [q68_39, q68_70, hw o ho, nI_lit, nI_add, pk_mul, nI_clp, nI_eqv, nI_lev, nI_ltv, nI_neg, nI_neg', nI_subv, Nat.add_zero, Nat.zero_add, Nat.mul_zero, Nat.reduceAdd, bN_rv, bM_ru, bV_rv, bV_rx, bU_ru, bU_rx, bN_ite, bM_ite, bV_ite, bU_ite, ↓bx_e, ↓sp_e, gA_ok, gZ_n, gB_0, gB_1, gB_i, and_true, and_false, true_and, false_and, decide_true, decide_false, ↓reduceIte, not_true_eq_false, not_false_eq_true, Bool.false_eq_true, Bool.true_eq_false, Bool.and_true, Bool.and_false, Bool.true_and, Bool.false_and, Bool.or_true, Bool.or_false, Bool.true_or, Bool.false_or, Bool.not_true, Bool.not_false, le_f, le_t, lt_f, lt_t, eq_f, ↓reduceIte, not_true_eq_false, not_false_eq_true, ite_10, bt_0, bt_1]
    cases e1 : sR f o
    · simp only [and_true, and_false, true_and, false_and, decide_true, decide_false, ↓reduceIte, not_true_eq_false, not_false_eq_true, Bool.false_eq_true, Bool.true_eq_false, Bool.and_true, Bool.and_false, Bool.true_and, Bool.false_and, Bool.or_true, Bool.or_false, Bool.true_or, Bool.false_or, Bool.not_true, Bool.not_false]
    · cases e2 : sOn f o
      · rw [h.2.2.2.2.2.1 i hi hu, h.2.2.2.2.2.1 o ho (sR_U e1)]
        by_cases q : f (74 + 21 * o + 2) < f (74 + 21 * i + 2)
        · simp only [q, Int32.not_le.mpr q, and_true, and_false, true_and, false_and, decide_true, decide_false, ↓reduceIte, not_true_eq_false, not_false_eq_true, Bool.false_eq_true, Bool.true_eq_false, Bool.and_true, Bool.and_false, Bool.true_and, Bool.false_and, Bool.or_true, Bool.or_false, Bool.true_or, Bool.false_or, Bool.not_true, Bool.not_false]
        · simp only [q, Int32.not_lt.mp q, and_true, and_false, true_and, false_and, decide_true, decide_false, ↓reduceIte, not_true_eq_false, not_false_eq_true, Bool.false_eq_true, Bool.true_eq_false, Bool.and_true, Bool.and_false, Bool.true_and, Bool.false_and, Bool.or_true, Bool.or_false, Bool.true_or, Bool.false_or, Bool.not_true, Bool.not_false]
      · simp only [and_true, and_false, true_and, false_and, decide_true, decide_false, ↓reduceIte, not_true_eq_false, not_false_eq_true, Bool.false_eq_true, Bool.true_eq_false, Bool.and_true, Bool.and_false, Bool.true_and, Bool.false_and, Bool.or_true, Bool.or_false, Bool.true_or, Bool.false_or, Bool.not_true, Bool.not_false]
/-- the last part of a read, and a read -/
def mRdE (f : Nat → Int32) (i k : Nat) : Nat → Int32 := if f (9 + 4 * k + 2) ≤ f (74 + 21 * i + 2) then mSt f else
  if (decide (f (9 + 4 * k + 3) ≤ nI 0) || (sOn f i && decide (f (74 + 21 * i + 2) ≤ f (9 + 4 * k + 3)))) = true then mSt (upd f (74 + 21 * i + 8) (f (74 + 21 * i + 2) + nI 1)) else mSt (mAbort (upd f (74 + 21 * i + 8) (f (74 + 21 * i + 2) + nI 1)) i (nI 1))
def mRd1 (f : Nat → Int32) (i k : Nat) : Nat → Int32 := upd f (74 + 21 * i + 4) (f (74 + 21 * i + 4) ||| shlI (nI 1) (nI k))
def mRd2 (f : Nat → Int32) (i k : Nat) : Nat → Int32 := mLw (upd f (74 + 21 * i + 5) (f (74 + 21 * i + 5) ||| shlI (nI 1) (nI k))) i k
def mRead (f : Nat → Int32) (i k : Nat) : Nat → Int32 := if (bt (f (74 + 21 * i + 6)) k || sSafe (mRd1 f i k) i) = true then mRd1 f i k else mRdE (mRd2 (mRd1 f i k) i k) i k
theorem IM_lw {T : Nat} {f : Nat → Int32} (h : IM T f) {i k : Nat} (hi : i < 8) (hs : IS (mLw f i k)) : IM T (mLw f i k) := by
  refine IM_rs h hs ?_ (fun j hj => mLw_n (by omega)) (fun j hj => sU_c (mLw_n (by omega))) (fun j hj => wh_c (mLw_n (by omega)))
  obtain ⟨t0, t3, t⟩ := h.2.2.2.1
  refine ⟨t0, by rw [mLw_n (by omega)]; exact t3, fun l hl => ?_⟩
  rw [mLw_n (by omega), mLw_n (by omega), mLw_n (by omega)]; exact t l hl
theorem IM_8 {T : Nat} {f : Nat → Int32} (h : IM T f) {i : Nat} (hi : i < 8) (hu : sU f i = true) : IM T (upd f (74 + 21 * i + 8) (f (74 + 21 * i + 2) + nI 1)) := by
  refine IM_rs h (IS_u h.1 hi hu (by omega) _) ?_ (fun j hj => ud_n (by omega)) (fun j hj => sU_u (by omega)) (fun j hj => wh_u (by omega))
  obtain ⟨t0, t3, t⟩ := h.2.2.2.1
  refine ⟨t0, by rw [ud_n (by omega)]; exact t3, fun l hl => ?_⟩
  rw [ud_n (by omega), ud_n (by omega)]
  refine ⟨(t l hl).1, (t l hl).2.1, ?_⟩
  by_cases e : l = i
  · subst e
    obtain ⟨b, hb, hb2⟩ := (t l hl).1
    rw [ud_e rfl, hb2, nI_add]
    exact ⟨b + 1, by omega, rfl⟩
  · rw [ud_n (by omega)]; exact (t l hl).2.2
theorem p116E {s : mS} {a T : Nat} {f : Nat → Int32} (h : RW s a f) (hL : RLw s f) (hm : IM T f) (ha : 10 ≤ a) {i k : Nat} (hi : i < 8) (hk : k < 10) (hr : sR f i = true) :
    ∃ s', (gA 10 (nI k) <| gA 8 (nI i) <| if (s.1 (a + 30) k) ≤ (s.1 ((a + 6) + 2) i) then (q116_159 a s) else (gA 8 (nI i) <| gA 8 (nI i) <| sp (sI s ((a + 6) + 7) i ((s.1 ((a + 6) + 2) i) + (nI 1))) fun s9 => bN (q66 (a + 6) (nI i) s9) fun x11 s10 => if x11 = nI 0 then (q116_132 a (nI i) (nI k) s10) else (gA 10 (nI k) <| gA 8 (nI i) <| if (s10.1 ((a + 6) + 2) i) ≤ (s10.1 (a + 31) k) then (q116_137 a (nI i) (nI k) (nI 0) s10) else (q116_132 a (nI i) (nI k) s10)))) = ru s' ∧ RW s' a (mRdE f i k) ∧ RLw s' (mRdE f i k) ∧ IM T (mRdE f i k) ∧ Fw a s s' := by
  have hu := sR_U hr
  obtain ⟨k0, k1, k2, k3⟩ := h.2.2.1 k hk
  have e2 := h.1.2.2.2.2.2.1 i hi hu
  unfold mRdE
  by_cases hq : f (9 + 4 * k + 2) ≤ f (74 + 21 * i + 2)
  · obtain ⟨s1, j1, j2, j3, j4, j5⟩ := p120 h hL hm ha
    refine ⟨s1, ?_, ?_⟩
    · simp (disch := omega) only [k2, e2, hq, q116_159, j1, nI_lit, nI_add, pk_mul, nI_clp, nI_eqv, nI_lev, nI_ltv, nI_neg, nI_neg', nI_subv, Nat.add_zero, Nat.zero_add, Nat.mul_zero, Nat.reduceAdd, bN_rv, bM_ru, bV_rv, bV_rx, bU_ru, bU_rx, bN_ite, bM_ite, bV_ite, bU_ite, ↓bx_e, ↓sp_e, gA_ok, gZ_n, gB_0, gB_1, gB_i, and_true, and_false, true_and, false_and, decide_true, decide_false, ↓reduceIte, not_true_eq_false, not_false_eq_true, Bool.false_eq_true, Bool.true_eq_false, Bool.and_true, Bool.and_false, Bool.true_and, Bool.false_and, Bool.or_true, Bool.or_false, Bool.true_or, Bool.false_or, Bool.not_true, Bool.not_false, le_f, le_t, lt_f, lt_t, eq_f, ↓reduceIte, not_true_eq_false, not_false_eq_true, ite_10, bt_0, bt_1]
    · simp only [hq, ↓reduceIte]; exact ⟨j2, j3, j4, j5⟩
  · have R1 := RS_7 h.1 hm.1.1 hi (f (74 + 21 * i + 2) + nI 1)
    have c1 : ∀ b, b < a + 6 ∨ a + 18 ≤ b → (sI s (a + 6 + 7) i (f (74 + 21 * i + 2) + nI 1)).1 b = s.1 b := fun b hb => sI_fn (by omega)
    have g1 : ∀ j, j < 74 ∨ 242 ≤ j → upd f (74 + 21 * i + 8) (f (74 + 21 * i + 2) + nI 1) j = f j := fun j hj => ud_n (by omega)
    have W1 := RW_rs h R1 c1 g1
    have L1 := RLw_rs hL hm.2.2.1 ha c1 g1
    have M1 := IM_8 hm hi hu
    have F1 : Fw a s (sI s (a + 6 + 7) i (f (74 + 21 * i + 2) + nI 1)) := Fw_I (by omega) (by omega)
    have hu1 : sU (upd f (74 + 21 * i + 8) (f (74 + 21 * i + 2) + nI 1)) i = true := by rw [sU_u (by omega)]; exact hu
    have ho1 : sOn (upd f (74 + 21 * i + 8) (f (74 + 21 * i + 2) + nI 1)) i = sOn f i := by
      have := (hm.1.1 i hi).2
      exact sOn_u (by omega) (by omega)
    have k3' := (W1.2.2.1 k hk).2.2.2
    rw [ud_n (by omega)] at k3'
    have e2' := W1.1.2.2.2.2.2.1 i hi hu1
    rw [ud_n (by omega)] at e2'
    obtain ⟨s2, l1, l2, l3, l4, l5⟩ := p120 W1 L1 M1 ha
    obtain ⟨s3, n1, n2, n3, n4⟩ := p119 W1 L1 M1 ha hi hu1 (w := nI 1)
    obtain ⟨s4, o1, o2, o3, o4, o5⟩ := p120 n2 n3 (IM_ab M1 hi hu1) ha
    by_cases q3 : f (9 + 4 * k + 3) ≤ nI 0
    · refine ⟨s2, ?_, ?_⟩
      · simp (disch := omega) only [k2, e2, hq, p66 W1.1 hi hu1, ho1, b2_0, k3', e2', q3, q116_132, q116_137, q116_159, l1, ite_self, nI_lit, nI_add, pk_mul, nI_clp, nI_eqv, nI_lev, nI_ltv, nI_neg, nI_neg', nI_subv, Nat.add_zero, Nat.zero_add, Nat.mul_zero, Nat.reduceAdd, bN_rv, bM_ru, bV_rv, bV_rx, bU_ru, bU_rx, bN_ite, bM_ite, bV_ite, bU_ite, ↓bx_e, ↓sp_e, gA_ok, gZ_n, gB_0, gB_1, gB_i, and_true, and_false, true_and, false_and, decide_true, decide_false, ↓reduceIte, not_true_eq_false, not_false_eq_true, Bool.false_eq_true, Bool.true_eq_false, Bool.and_true, Bool.and_false, Bool.true_and, Bool.false_and, Bool.or_true, Bool.or_false, Bool.true_or, Bool.false_or, Bool.not_true, Bool.not_false, le_f, le_t, lt_f, lt_t, eq_f, ↓reduceIte, not_true_eq_false, not_false_eq_true, ite_10, bt_0, bt_1]
      · simp only [hq, q3, and_true, and_false, true_and, false_and, decide_true, decide_false, ↓reduceIte, not_true_eq_false, not_false_eq_true, Bool.false_eq_true, Bool.true_eq_false, Bool.and_true, Bool.and_false, Bool.true_and, Bool.false_and, Bool.or_true, Bool.or_false, Bool.true_or, Bool.false_or, Bool.not_true, Bool.not_false]; exact ⟨l2, l3, l4, Fw_t F1 l5⟩
    · cases eo : sOn f i
      · refine ⟨s4, ?_, ?_⟩
        · simp (disch := omega) only [k2, e2, hq, p66 W1.1 hi hu1, ho1, eo, b2_f, k3', e2', q3, q116_132, q116_137, q116_159, n1, o1, nI_lit, nI_add, pk_mul, nI_clp, nI_eqv, nI_lev, nI_ltv, nI_neg, nI_neg', nI_subv, Nat.add_zero, Nat.zero_add, Nat.mul_zero, Nat.reduceAdd, bN_rv, bM_ru, bV_rv, bV_rx, bU_ru, bU_rx, bN_ite, bM_ite, bV_ite, bU_ite, ↓bx_e, ↓sp_e, gA_ok, gZ_n, gB_0, gB_1, gB_i, and_true, and_false, true_and, false_and, decide_true, decide_false, ↓reduceIte, not_true_eq_false, not_false_eq_true, Bool.false_eq_true, Bool.true_eq_false, Bool.and_true, Bool.and_false, Bool.true_and, Bool.false_and, Bool.or_true, Bool.or_false, Bool.true_or, Bool.false_or, Bool.not_true, Bool.not_false, le_f, le_t, lt_f, lt_t, eq_f, ↓reduceIte, not_true_eq_false, not_false_eq_true, ite_10, bt_0, bt_1]
        · simp only [hq, q3, and_true, and_false, true_and, false_and, decide_true, decide_false, ↓reduceIte, not_true_eq_false, not_false_eq_true, Bool.false_eq_true, Bool.true_eq_false, Bool.and_true, Bool.and_false, Bool.true_and, Bool.false_and, Bool.or_true, Bool.or_false, Bool.true_or, Bool.false_or, Bool.not_true, Bool.not_false]; exact ⟨o2, o3, o4, Fw_t F1 (Fw_t n4 o5)⟩
      · by_cases q4 : f (74 + 21 * i + 2) ≤ f (9 + 4 * k + 3)
        · refine ⟨s2, ?_, ?_⟩
          · simp (disch := omega) only [k2, e2, hq, p66 W1.1 hi hu1, ho1, eo, b2_t, k3', e2', q3, q4, q116_132, q116_137, q116_159, l1, nI_lit, nI_add, pk_mul, nI_clp, nI_eqv, nI_lev, nI_ltv, nI_neg, nI_neg', nI_subv, Nat.add_zero, Nat.zero_add, Nat.mul_zero, Nat.reduceAdd, bN_rv, bM_ru, bV_rv, bV_rx, bU_ru, bU_rx, bN_ite, bM_ite, bV_ite, bU_ite, ↓bx_e, ↓sp_e, gA_ok, gZ_n, gB_0, gB_1, gB_i, and_true, and_false, true_and, false_and, decide_true, decide_false, ↓reduceIte, not_true_eq_false, not_false_eq_true, Bool.false_eq_true, Bool.true_eq_false, Bool.and_true, Bool.and_false, Bool.true_and, Bool.false_and, Bool.or_true, Bool.or_false, Bool.true_or, Bool.false_or, Bool.not_true, Bool.not_false, le_f, le_t, lt_f, lt_t, eq_f, ↓reduceIte, not_true_eq_false, not_false_eq_true, ite_10, bt_0, bt_1]
          · simp only [hq, q3, q4, and_true, and_false, true_and, false_and, decide_true, decide_false, ↓reduceIte, not_true_eq_false, not_false_eq_true, Bool.false_eq_true, Bool.true_eq_false, Bool.and_true, Bool.and_false, Bool.true_and, Bool.false_and, Bool.or_true, Bool.or_false, Bool.true_or, Bool.false_or, Bool.not_true, Bool.not_false]; exact ⟨l2, l3, l4, Fw_t F1 l5⟩
        · refine ⟨s4, ?_, ?_⟩
          · simp (disch := omega) only [k2, e2, hq, p66 W1.1 hi hu1, ho1, eo, b2_t, k3', e2', q3, q4, q116_132, q116_137, q116_159, n1, o1, nI_lit, nI_add, pk_mul, nI_clp, nI_eqv, nI_lev, nI_ltv, nI_neg, nI_neg', nI_subv, Nat.add_zero, Nat.zero_add, Nat.mul_zero, Nat.reduceAdd, bN_rv, bM_ru, bV_rv, bV_rx, bU_ru, bU_rx, bN_ite, bM_ite, bV_ite, bU_ite, ↓bx_e, ↓sp_e, gA_ok, gZ_n, gB_0, gB_1, gB_i, and_true, and_false, true_and, false_and, decide_true, decide_false, ↓reduceIte, not_true_eq_false, not_false_eq_true, Bool.false_eq_true, Bool.true_eq_false, Bool.and_true, Bool.and_false, Bool.true_and, Bool.false_and, Bool.or_true, Bool.or_false, Bool.true_or, Bool.false_or, Bool.not_true, Bool.not_false, le_f, le_t, lt_f, lt_t, eq_f, ↓reduceIte, not_true_eq_false, not_false_eq_true, ite_10, bt_0, bt_1]
          · simp only [hq, q3, q4, and_true, and_false, true_and, false_and, decide_true, decide_false, ↓reduceIte, not_true_eq_false, not_false_eq_true, Bool.false_eq_true, Bool.true_eq_false, Bool.and_true, Bool.and_false, Bool.true_and, Bool.false_and, Bool.or_true, Bool.or_false, Bool.true_or, Bool.false_or, Bool.not_true, Bool.not_false]; exact ⟨o2, o3, o4, Fw_t F1 (Fw_t n4 o5)⟩
theorem p116 {s : mS} {a T : Nat} {f : Nat → Int32} (h : RW s a f) (hL : RLw s f) (hm : IM T f) (ha : 10 ≤ a) {i k : Nat} (hi : i < 8) (hk : k < 10) (hr : sR f i = true) : ∃ s', q116 a (nI i) (nI k) s = ru s' ∧ RW s' a (mRead f i k) ∧ RLw s' (mRead f i k) ∧ IM T (mRead f i k) ∧ Fw a s s' := by
  have hu := sR_U hr
  have e4 := h.1.2.2.2.2.2.2.2.1 i hi hu
  have R1 : RS (sI s (a + 6 + 4) i (f (74 + 21 * i + 4) ||| shlI (nI 1) (nI k))) (a + 6) (mRd1 f i k) := RS_4 h.1 hm.1.1 hi (f (74 + 21 * i + 4) ||| shlI (nI 1) (nI k))
  have c1 : ∀ b, b < a + 6 ∨ a + 18 ≤ b → (sI s (a + 6 + 4) i (f (74 + 21 * i + 4) ||| shlI (nI 1) (nI k))).1 b = s.1 b := fun b hb => sI_fn (by omega)
  have g1 : ∀ j, j < 74 ∨ 242 ≤ j → mRd1 f i k j = f j := fun j hj => ud_n (by omega)
  have W1 := RW_rs h R1 c1 g1
  have L1 := RLw_rs hL hm.2.2.1 ha c1 g1
  have M1 : IM T (mRd1 f i k) := IM_u hm hi hu (by omega) _
  have F1 : Fw a s (sI s (a + 6 + 4) i (f (74 + 21 * i + 4) ||| shlI (nI 1) (nI k))) := Fw_I (by omega) (by omega)
  have hr1 : sR (mRd1 f i k) i = true := by unfold mRd1; rw [sR_u (by omega)]; exact hr
  have hu1 := sR_U hr1
  have e6 : mRd1 f i k (74 + 21 * i + 6) = f (74 + 21 * i + 6) := ud_n (by omega)
  have w6 := W1.1.2.2.2.2.2.2.2.2.2.1 i hi hu1
  rw [e6] at w6
  have w5 := W1.1.2.2.2.2.2.2.2.2.1 i hi hu1
  have S1 := p68 W1.1 M1.1 hi hu1
  unfold q116 mRead
  simp (disch := omega) only [e4, nI_lit, nI_add, pk_mul, nI_clp, nI_eqv, nI_lev, nI_ltv, nI_neg, nI_neg', nI_subv, Nat.add_zero, Nat.zero_add, Nat.mul_zero, Nat.reduceAdd, bN_rv, bM_ru, bV_rv, bV_rx, bU_ru, bU_rx, bN_ite, bM_ite, bV_ite, bU_ite, ↓bx_e, ↓sp_e, gA_ok, gZ_n, gB_0, gB_1, gB_i, and_true, and_false, true_and, false_and, decide_true, decide_false, ↓reduceIte, not_true_eq_false, not_false_eq_true, Bool.false_eq_true, Bool.true_eq_false, Bool.and_true, Bool.and_false, Bool.true_and, Bool.false_and, Bool.or_true, Bool.or_false, Bool.true_or, Bool.false_or, Bool.not_true, Bool.not_false, le_f, le_t, lt_f, lt_t, eq_f, ↓reduceIte, not_true_eq_false, not_false_eq_true, ite_10, bt_0, bt_1]
  generalize hs1 : sI s (a + 6 + 4) i (f (74 + 21 * i + 4) ||| shlI (nI 1) (nI k)) = s1 at *
  simp (disch := omega) only [w6, bt_and1, S1, nI_lit, nI_add, pk_mul, nI_clp, nI_eqv, nI_lev, nI_ltv, nI_neg, nI_neg', nI_subv, Nat.add_zero, Nat.zero_add, Nat.mul_zero, Nat.reduceAdd, bN_rv, bM_ru, bV_rv, bV_rx, bU_ru, bU_rx, bN_ite, bM_ite, bV_ite, bU_ite, ↓bx_e, ↓sp_e, gA_ok, gZ_n, gB_0, gB_1, gB_i, and_true, and_false, true_and, false_and, decide_true, decide_false, ↓reduceIte, not_true_eq_false, not_false_eq_true, Bool.false_eq_true, Bool.true_eq_false, Bool.and_true, Bool.and_false, Bool.true_and, Bool.false_and, Bool.or_true, Bool.or_false, Bool.true_or, Bool.false_or, Bool.not_true, Bool.not_false, le_f, le_t, lt_f, lt_t, eq_f, ↓reduceIte, not_true_eq_false, not_false_eq_true, ite_10, bt_0, bt_1]
  cases eb : bt (f (74 + 21 * i + 6)) k
  · cases es : sSafe (mRd1 f i k) i
    · simp (disch := omega) only [b2_f, w5, nI_lit, nI_add, pk_mul, nI_clp, nI_eqv, nI_lev, nI_ltv, nI_neg, nI_neg', nI_subv, Nat.add_zero, Nat.zero_add, Nat.mul_zero, Nat.reduceAdd, bN_rv, bM_ru, bV_rv, bV_rx, bU_ru, bU_rx, bN_ite, bM_ite, bV_ite, bU_ite, ↓bx_e, ↓sp_e, gA_ok, gZ_n, gB_0, gB_1, gB_i, and_true, and_false, true_and, false_and, decide_true, decide_false, ↓reduceIte, not_true_eq_false, not_false_eq_true, Bool.false_eq_true, Bool.true_eq_false, Bool.and_true, Bool.and_false, Bool.true_and, Bool.false_and, Bool.or_true, Bool.or_false, Bool.true_or, Bool.false_or, Bool.not_true, Bool.not_false, le_f, le_t, lt_f, lt_t, eq_f, ↓reduceIte, not_true_eq_false, not_false_eq_true, ite_10, bt_0, bt_1]
      have R2 := RS_5 W1.1 M1.1.1 hi (mRd1 f i k (74 + 21 * i + 5) ||| shlI (nI 1) (nI k))
      have c2 : ∀ b, b < a + 6 ∨ a + 18 ≤ b → (sI s1 (a + 6 + 5) i (mRd1 f i k (74 + 21 * i + 5) ||| shlI (nI 1) (nI k))).1 b = s1.1 b := fun b hb => sI_fn (by omega)
      have g2 : ∀ j, j < 74 ∨ 242 ≤ j → upd (mRd1 f i k) (74 + 21 * i + 5) (mRd1 f i k (74 + 21 * i + 5) ||| shlI (nI 1) (nI k)) j = mRd1 f i k j := fun j hj => ud_n (by omega)
      have W2 := RW_rs W1 R2 c2 g2
      have L2 := RLw_rs L1 M1.2.2.1 ha c2 g2
      have M2 : IM T (upd (mRd1 f i k) (74 + 21 * i + 5) (mRd1 f i k (74 + 21 * i + 5) ||| shlI (nI 1) (nI k))) := IM_u M1 hi hu1 (by omega) _
      have F2 : Fw a s1 (sI s1 (a + 6 + 5) i (mRd1 f i k (74 + 21 * i + 5) ||| shlI (nI 1) (nI k))) := Fw_I (by omega) (by omega)
      have hr2 : sR (upd (mRd1 f i k) (74 + 21 * i + 5) (mRd1 f i k (74 + 21 * i + 5) ||| shlI (nI 1) (nI k))) i = true := by rw [sR_u (by omega)]; exact hr1
      obtain ⟨s3, j1, j2, j3, j4⟩ := p83 W2.1 M2.1 hi hk (sR_U hr2)
      have c3 : ∀ b, b < a + 6 ∨ a + 18 ≤ b → s3.1 b = (sI s1 (a + 6 + 5) i (mRd1 f i k (74 + 21 * i + 5) ||| shlI (nI 1) (nI k))).1 b := fun b hb => j4.1 b (by omega)
      have g3 : ∀ j, j < 74 ∨ 242 ≤ j → mRd2 (mRd1 f i k) i k j = upd (mRd1 f i k) (74 + 21 * i + 5) (mRd1 f i k (74 + 21 * i + 5) ||| shlI (nI 1) (nI k)) j := fun j hj => mLw_n (by omega)
      have W3 := RW_rs W2 j2 c3 g3
      have L3 := RLw_rs L2 M2.2.2.1 ha c3 g3
      have M3 := IM_lw M2 hi j3
      have hr3 : sR (mRd2 (mRd1 f i k) i k) i = true := by unfold mRd2; rw [sR_c (mLw_n (by omega))]; exact hr2
      obtain ⟨s4, k1, k2⟩ := p116E W3 L3 M3 ha hi hk hr3
      refine ⟨s4, ?_, k2.1, k2.2.1, k2.2.2.1, Fw_t F1 (Fw_t F2 (Fw_t (Fw_z j4 (by omega) (by omega)) k2.2.2.2))⟩
      rw [← k1, j1]
      simp (disch := omega) only [nI_lit, nI_add, pk_mul, nI_clp, nI_eqv, nI_lev, nI_ltv, nI_neg, nI_neg', nI_subv, Nat.add_zero, Nat.zero_add, Nat.mul_zero, Nat.reduceAdd, bN_rv, bM_ru, bV_rv, bV_rx, bU_ru, bU_rx, bN_ite, bM_ite, bV_ite, bU_ite, ↓bx_e, ↓sp_e, gA_ok, gZ_n, gB_0, gB_1, gB_i, and_true, and_false, true_and, false_and, decide_true, decide_false, ↓reduceIte, not_true_eq_false, not_false_eq_true, Bool.false_eq_true, Bool.true_eq_false, Bool.and_true, Bool.and_false, Bool.true_and, Bool.false_and, Bool.or_true, Bool.or_false, Bool.true_or, Bool.false_or, Bool.not_true, Bool.not_false, le_f, le_t, lt_f, lt_t, eq_f, ↓reduceIte, not_true_eq_false, not_false_eq_true, ite_10, bt_0, bt_1]
    · refine ⟨s1, ?_, ?_⟩
      · simp (disch := omega) only [b2_t, nI_lit, nI_add, pk_mul, nI_clp, nI_eqv, nI_lev, nI_ltv, nI_neg, nI_neg', nI_subv, Nat.add_zero, Nat.zero_add, Nat.mul_zero, Nat.reduceAdd, bN_rv, bM_ru, bV_rv, bV_rx, bU_ru, bU_rx, bN_ite, bM_ite, bV_ite, bU_ite, ↓bx_e, ↓sp_e, gA_ok, gZ_n, gB_0, gB_1, gB_i, and_true, and_false, true_and, false_and, decide_true, decide_false, ↓reduceIte, not_true_eq_false, not_false_eq_true, Bool.false_eq_true, Bool.true_eq_false, Bool.and_true, Bool.and_false, Bool.true_and, Bool.false_and, Bool.or_true, Bool.or_false, Bool.true_or, Bool.false_or, Bool.not_true, Bool.not_false, le_f, le_t, lt_f, lt_t, eq_f, ↓reduceIte, not_true_eq_false, not_false_eq_true, ite_10, bt_0, bt_1]
      · simp only [and_true, and_false, true_and, false_and, decide_true, decide_false, ↓reduceIte, not_true_eq_false, not_false_eq_true, Bool.false_eq_true, Bool.true_eq_false, Bool.and_true, Bool.and_false, Bool.true_and, Bool.false_and, Bool.or_true, Bool.or_false, Bool.true_or, Bool.false_or, Bool.not_true, Bool.not_false]; exact ⟨W1, L1, M1, F1⟩
  · refine ⟨s1, ?_, ?_⟩
    · simp (disch := omega) only [nI_lit, nI_add, pk_mul, nI_clp, nI_eqv, nI_lev, nI_ltv, nI_neg, nI_neg', nI_subv, Nat.add_zero, Nat.zero_add, Nat.mul_zero, Nat.reduceAdd, bN_rv, bM_ru, bV_rv, bV_rx, bU_ru, bU_rx, bN_ite, bM_ite, bV_ite, bU_ite, ↓bx_e, ↓sp_e, gA_ok, gZ_n, gB_0, gB_1, gB_i, and_true, and_false, true_and, false_and, decide_true, decide_false, ↓reduceIte, not_true_eq_false, not_false_eq_true, Bool.false_eq_true, Bool.true_eq_false, Bool.and_true, Bool.and_false, Bool.true_and, Bool.false_and, Bool.or_true, Bool.or_false, Bool.true_or, Bool.false_or, Bool.not_true, Bool.not_false, le_f, le_t, lt_f, lt_t, eq_f, ↓reduceIte, not_true_eq_false, not_false_eq_true, ite_10, bt_0, bt_1]
    · simp only [and_true, and_false, true_and, false_and, decide_true, decide_false, ↓reduceIte, not_true_eq_false, not_false_eq_true, Bool.false_eq_true, Bool.true_eq_false, Bool.and_true, Bool.and_false, Bool.true_and, Bool.false_and, Bool.or_true, Bool.or_false, Bool.true_or, Bool.false_or, Bool.not_true, Bool.not_false]; exact ⟨W1, L1, M1, F1⟩
