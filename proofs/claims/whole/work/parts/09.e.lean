/-! COMMIT: PARTS -/
theorem RW_f9 {s : mS} {a : Nat} {f : Nat → Int32} (h : RW s a f) (hw : IW f) (v : Int32) : RW (sI s a 9 v) a (upd f 3 v) := by
  obtain ⟨h1, h2, h3, h4, h5, h6, h7, h8, h9, h10⟩ := h
  refine ⟨RS_c h1 hw (fun b x y => sI_fn (by omega)) (fun j x y => ud_n (by omega)) (fun c hc => ud_n (by omega)), RC_c h2 (fun b x y => sI_fn (by omega)) (ud_n (by omega)) (fun j x y => ud_n (by omega)), RK_c h3 (fun b x y => sI_fn (by omega)) (fun j x y => ud_n (by omega)), RLg_c h4 (fun b x y => sI_fn (by omega)) (ud_n (by omega)) (fun j x y => ud_n (by omega)), RH_c h5 (fun b x y => sI_fn (by omega)) (ud_n (by omega)) (fun j x y => ud_n (by omega)), ?_, ?_, ?_, ?_, ?_⟩
  · rw [sI_sm, ud_e rfl, ud_e rfl]
  · rw [sI_sm, ud_n (by omega), ud_n (by omega)]; exact h7
  · rw [sI_sm, ud_n (by omega), ud_n (by omega)]; exact h8
  · rw [sI_sm, ud_n (by omega), ud_n (by omega)]; exact h9
  · rw [sI_sm, ud_n (by omega), ud_n (by omega)]; exact h10
theorem RW_f10 {s : mS} {a : Nat} {f : Nat → Int32} (h : RW s a f) (hw : IW f) (v : Int32) : RW (sI s a 10 v) a (upd f 4 v) := by
  obtain ⟨h1, h2, h3, h4, h5, h6, h7, h8, h9, h10⟩ := h
  refine ⟨RS_c h1 hw (fun b x y => sI_fn (by omega)) (fun j x y => ud_n (by omega)) (fun c hc => ud_n (by omega)), RC_c h2 (fun b x y => sI_fn (by omega)) (ud_n (by omega)) (fun j x y => ud_n (by omega)), RK_c h3 (fun b x y => sI_fn (by omega)) (fun j x y => ud_n (by omega)), RLg_c h4 (fun b x y => sI_fn (by omega)) (ud_n (by omega)) (fun j x y => ud_n (by omega)), RH_c h5 (fun b x y => sI_fn (by omega)) (ud_n (by omega)) (fun j x y => ud_n (by omega)), ?_, ?_, ?_, ?_, ?_⟩
  · rw [sI_sm, ud_n (by omega), ud_n (by omega)]; exact h6
  · rw [sI_sm, ud_e rfl, ud_e rfl]
  · rw [sI_sm, ud_n (by omega), ud_n (by omega)]; exact h8
  · rw [sI_sm, ud_n (by omega), ud_n (by omega)]; exact h9
  · rw [sI_sm, ud_n (by omega), ud_n (by omega)]; exact h10
theorem RW_f11 {s : mS} {a : Nat} {f : Nat → Int32} (h : RW s a f) (hw : IW f) (v : Int32) : RW (sI s a 11 v) a (upd f 5 v) := by
  obtain ⟨h1, h2, h3, h4, h5, h6, h7, h8, h9, h10⟩ := h
  refine ⟨RS_c h1 hw (fun b x y => sI_fn (by omega)) (fun j x y => ud_n (by omega)) (fun c hc => ud_n (by omega)), RC_c h2 (fun b x y => sI_fn (by omega)) (ud_n (by omega)) (fun j x y => ud_n (by omega)), RK_c h3 (fun b x y => sI_fn (by omega)) (fun j x y => ud_n (by omega)), RLg_c h4 (fun b x y => sI_fn (by omega)) (ud_n (by omega)) (fun j x y => ud_n (by omega)), RH_c h5 (fun b x y => sI_fn (by omega)) (ud_n (by omega)) (fun j x y => ud_n (by omega)), ?_, ?_, ?_, ?_, ?_⟩
  · rw [sI_sm, ud_n (by omega), ud_n (by omega)]; exact h6
  · rw [sI_sm, ud_n (by omega), ud_n (by omega)]; exact h7
  · rw [sI_sm, ud_e rfl, ud_e rfl]
  · rw [sI_sm, ud_n (by omega), ud_n (by omega)]; exact h9
  · rw [sI_sm, ud_n (by omega), ud_n (by omega)]; exact h10
theorem RW_f12 {s : mS} {a : Nat} {f : Nat → Int32} (h : RW s a f) (hw : IW f) (v : Int32) : RW (sI s a 12 v) a (upd f 8 v) := by
  obtain ⟨h1, h2, h3, h4, h5, h6, h7, h8, h9, h10⟩ := h
  refine ⟨RS_c h1 hw (fun b x y => sI_fn (by omega)) (fun j x y => ud_n (by omega)) (fun c hc => ud_n (by omega)), RC_c h2 (fun b x y => sI_fn (by omega)) (ud_n (by omega)) (fun j x y => ud_n (by omega)), RK_c h3 (fun b x y => sI_fn (by omega)) (fun j x y => ud_n (by omega)), RLg_c h4 (fun b x y => sI_fn (by omega)) (ud_n (by omega)) (fun j x y => ud_n (by omega)), RH_c h5 (fun b x y => sI_fn (by omega)) (ud_n (by omega)) (fun j x y => ud_n (by omega)), ?_, ?_, ?_, ?_, ?_⟩
  · rw [sI_sm, ud_n (by omega), ud_n (by omega)]; exact h6
  · rw [sI_sm, ud_n (by omega), ud_n (by omega)]; exact h7
  · rw [sI_sm, ud_n (by omega), ud_n (by omega)]; exact h8
  · rw [sI_sm, ud_e rfl, ud_e rfl]
  · rw [sI_sm, ud_n (by omega), ud_n (by omega)]; exact h10
theorem RW_f13 {s : mS} {a : Nat} {f : Nat → Int32} (h : RW s a f) (hw : IW f) (v : Int32) : RW (sI s a 13 v) a (upd f 1 v) := by
  obtain ⟨h1, h2, h3, h4, h5, h6, h7, h8, h9, h10⟩ := h
  refine ⟨RS_c h1 hw (fun b x y => sI_fn (by omega)) (fun j x y => ud_n (by omega)) (fun c hc => ud_n (by omega)), RC_c h2 (fun b x y => sI_fn (by omega)) (ud_n (by omega)) (fun j x y => ud_n (by omega)), RK_c h3 (fun b x y => sI_fn (by omega)) (fun j x y => ud_n (by omega)), RLg_c h4 (fun b x y => sI_fn (by omega)) (ud_n (by omega)) (fun j x y => ud_n (by omega)), RH_c h5 (fun b x y => sI_fn (by omega)) (ud_n (by omega)) (fun j x y => ud_n (by omega)), ?_, ?_, ?_, ?_, ?_⟩
  · rw [sI_sm, ud_n (by omega), ud_n (by omega)]; exact h6
  · rw [sI_sm, ud_n (by omega), ud_n (by omega)]; exact h7
  · rw [sI_sm, ud_n (by omega), ud_n (by omega)]; exact h8
  · rw [sI_sm, ud_n (by omega), ud_n (by omega)]; exact h9
  · rw [sI_sm, ud_e rfl, ud_e rfl]
theorem IM_c {T : Nat} {f g : Nat → Int32} (h : IM T f) (hg : ∀ j, j = 0 ∨ j = 2 ∨ j = 3 ∨ j = 4 ∨ (49 ≤ j ∧ j < 242) ∨ 770 ≤ j → g j = f j) : IM T g := by
  obtain ⟨h1, ⟨n, hn, a0, a1, a2, a3, a4⟩, h3, ⟨t0, t3, t⟩, k, hk, h5⟩ := h
  refine ⟨IS_c h1 (fun j x y => hg _ (by omega)), ⟨n, hn, ?_, fun c hc => ?_, fun c w' hc hc5 hw' => ?_, fun c j hc hj => ?_, fun j hj hv => ?_⟩, WLw_c (hg _ (by omega)) (fun j a b => hg _ (by omega)) h3, ⟨t0, by rw [hg _ (by omega)]; exact t3, fun l hl => ?_⟩, k, hk, ?_⟩
  · rw [hg _ (by omega)]; exact a0
  · rw [hg _ (by omega)]; exact a1 c hc
  · rw [hg _ (by omega)]; exact a2 c w' hc hc5 hw'
  · rw [hg _ (by omega), hg _ (by omega)]; exact a3 c j hc hj
  · rw [wh_c (hg _ (by omega))]; exact a4 j hj (by rw [← sU_c (f := f) (hg _ (by omega))]; exact hv)
  · rw [hg _ (by omega), hg _ (by omega), hg _ (by omega)]; exact t l hl
  · rw [hg _ (by omega)]; exact h5
theorem IM_st {T : Nat} {f : Nat → Int32} (h : IM T f) (hT : T + 1 < 1000000000) : IM (T + 1) (upd f 3 (f 3 + nI 1)) := by
  obtain ⟨h1, ⟨n, hn, a0, a1, a2, a3, a4⟩, h3, ⟨t0, t3, t⟩, k, hk, h5⟩ := h
  refine ⟨IS_c h1 (fun j x y => ud_n (by omega)), ⟨n, hn, ?_, fun c hc => ?_, fun c w' hc hc5 hw' => ?_, fun c j hc hj => ?_, fun j hj hv => ?_⟩, WLw_c (ud_n (by omega)) (fun j a b => ud_n (by omega)) h3, ⟨hT, by rw [ud_e rfl, t3, nI_add], fun l hl => ?_⟩, k, hk, ?_⟩
  · rw [ud_n (by omega)]; exact a0
  · rw [ud_n (by omega)]; exact a1 c hc
  · rw [ud_n (by omega)]; exact a2 c w' hc hc5 hw'
  · rw [ud_n (by omega), ud_n (by omega)]; exact a3 c j hc hj
  · rw [wh_u (by omega)]; exact a4 j hj (by rw [sU_u (by omega)] at hv; exact hv)
  · rw [ud_n (by omega), ud_n (by omega), ud_n (by omega)]
    obtain ⟨⟨x, hx, ex⟩, ⟨y, hy, ey⟩, ⟨z, hz, ez⟩⟩ := t l hl
    exact ⟨⟨x, by omega, ex⟩, ⟨y, by omega, ey⟩, ⟨z, by omega, ez⟩⟩
  · rw [ud_n (by omega)]; exact h5
theorem IM_cl {T : Nat} {f : Nat → Int32} (h : IM T f) {i : Nat} (hi : i < 8) (hr : sR f i = true) (hs : IS (mClose f i (f 3))) : IM T (mClose f i (f 3)) := by
  have hu := sR_U hr
  refine IM_rs h hs ?_ (fun j hj => mClose_n (by omega) (by omega)) (fun j hj => sU_cl hu) (fun j hj => wh_c (mClose_n (by omega) (by omega)))
  obtain ⟨t0, t3, t⟩ := h.2.2.2.1
  refine ⟨t0, by rw [mClose_n (by omega) (by omega)]; exact t3, fun l hl => ?_⟩
  rw [mClose_n (j := 74 + 21 * l + 2) (by omega) (by omega), mClose_n (j := 74 + 21 * l + 8) (by omega) (by omega)]
  refine ⟨(t l hl).1, ?_, (t l hl).2.2⟩
  by_cases e : l = i
  · subst e; rw [mClose_3]; exact ⟨T, by omega, t3⟩
  · rw [mClose_n (by omega) (by omega)]; exact (t l hl).2.1
/-- versions -/
def IV (f : Nat → Int32) : Prop := ∀ k, k < 10 → ∃ v, v ≤ 9999 ∧ f (9 + 4 * k) = nI v
def mVeG (i k : Nat) (g : Nat → Int32) : Nat → Int32 := if bt (g (74 + 21 * i + 6)) k = true then upd g (9 + 4 * k) (mnI (nI 9999) (g (9 + 4 * k) + nI 1)) else g
def mVer (f : Nat → Int32) (i : Nat) : Nat → Int32 := fo (fun k g => mVeG i k g) 10 0 f
theorem mVer_n {f : Nat → Int32} {i j : Nat} (h : ∀ k, k < 10 → j ≠ 9 + 4 * k) : mVer f i j = f j := by
  unfold mVer
  refine fo_pres (P := fun (g : Nat → Int32) => g j = f j) (fun k b _ hk hb => ?_) rfl
  unfold mVeG
  split
  · rw [ud_n (h k (by omega))]; exact hb
  · exact hb
theorem IV_ver {f : Nat → Int32} (h : IV f) {i : Nat} : IV (mVer f i) := by
  unfold mVer
  refine fo_pres (P := fun (g : Nat → Int32) => IV g) (fun k b _ hk hb => ?_) h
  unfold mVeG
  split
  · intro l hl
    by_cases e : l = k
    · subst e
      obtain ⟨v, hv, ev⟩ := hb l hl
      rw [ud_e rfl, ev, nI_add, mn_nI (by omega) (by omega)]
      exact ⟨min 9999 (v + 1), by omega, rfl⟩
    · rw [ud_n (by omega)]; exact hb l hl
  · exact hb
theorem m268_57 {K : Int32 → Int32 → Int32 → Int32 → mS → Option mQ} {t : mS} {f : Nat → Int32} {i : Nat} {v2 v3 v4 : Int32} (hi : i < 8) : q268_57 K 10000 (nI i) v2 v3 v4 (nI 0) (wr t f) = K (nI i) v2 v3 v4 (wr t (mVer f i)) := by
  unfold mVer
  refine lp_fo (Q := fun n f k => q268_57 K n (nI i) v2 v3 v4 k (wr t f)) (out := fun f => K (nI i) v2 v3 v4 (wr t f)) (fun n b => ?_) (fun n k b hk => ?_) f 10000 (by omega)
  · simp (disch := omega) only [q268_57, nI_lit, nI_add, pk_mul, nI_clp, nI_eqv, nI_lev, nI_ltv, nI_neg, nI_neg', nI_subv, Nat.add_zero, Nat.zero_add, Nat.mul_zero, Nat.reduceAdd, bN_rv, bM_ru, bV_rv, bV_rx, bU_ru, bU_rx, bN_ite, bM_ite, bV_ite, bU_ite, ↓bx_e, ↓sp_e, gA_ok, gZ_n, gB_0, gB_1, gB_i, and_true, and_false, true_and, false_and, decide_true, decide_false, ↓reduceIte, not_true_eq_false, not_false_eq_true, Bool.false_eq_true, Bool.true_eq_false, Bool.and_true, Bool.and_false, Bool.true_and, Bool.false_and, Bool.or_true, Bool.or_false, Bool.true_or, Bool.false_or, Bool.not_true, Bool.not_false, le_f, le_t, lt_f, lt_t, eq_f, ↓reduceIte, not_true_eq_false, not_false_eq_true, ite_10, bt_0, bt_1]
  · unfold mVeG
    simp (disch := omega) only [q268_57, q268_105, wr_1, sI_wr, nI_lit, nI_add, pk_mul, nI_clp, nI_eqv, nI_lev, nI_ltv, nI_neg, nI_neg', nI_subv, Nat.add_zero, Nat.zero_add, Nat.mul_zero, Nat.reduceAdd, bN_rv, bM_ru, bV_rv, bV_rx, bU_ru, bU_rx, bN_ite, bM_ite, bV_ite, bU_ite, ↓bx_e, ↓sp_e, gA_ok, gZ_n, gB_0, gB_1, gB_i, and_true, and_false, true_and, false_and, decide_true, decide_false, ↓reduceIte, not_true_eq_false, not_false_eq_true, Bool.false_eq_true, Bool.true_eq_false, Bool.and_true, Bool.and_false, Bool.true_and, Bool.false_and, Bool.or_true, Bool.or_false, Bool.true_or, Bool.false_or, Bool.not_true, Bool.not_false, le_f, le_t, lt_f, lt_t, eq_f, ↓reduceIte, not_true_eq_false, not_false_eq_true, ite_10, bt_0, bt_1, q198, q199, q200, q201, q202, q203, q204, m190, m205, m206, b2_0, q189, q187]
    cases bt (b (74 + 21 * i + 6)) k <;> simp only [and_true, and_false, true_and, false_and, decide_true, decide_false, ↓reduceIte, not_true_eq_false, not_false_eq_true, Bool.false_eq_true, Bool.true_eq_false, Bool.and_true, Bool.and_false, Bool.true_and, Bool.false_and, Bool.or_true, Bool.or_false, Bool.true_or, Bool.false_or, Bool.not_true, Bool.not_false]
theorem p118_33 {K : Int32 → Int32 → Int32 → mS → Option mQ} {s : mS} {a : Nat} {f : Nat → Int32} (hK : RK s a f) (hv : IV f) {i : Nat} (hi : i < 8) (h6 : s.1 (a + 6 + 6) i = f (74 + 21 * i + 6)) {v2 v3 : Int32} : ∃ s', q118_33 K a 10000 (nI i) v2 v3 (nI 0) s = K (nI i) v2 v3 s' ∧ RK s' a (mVer f i) ∧ (∀ c, c ≠ a + 28 → s'.1 c = s.1 c) ∧ s'.2 = s.2 := by
  unfold mVer
  have H := lp_sim (Q := fun n b k => q118_33 K a n (nI i) v2 v3 k b) (e := 10) (out := fun b => K (nI i) v2 v3 b) (J := fun _ b g => RK b a g ∧ IV g ∧ g (74 + 21 * i + 6) = f (74 + 21 * i + 6) ∧ (∀ c, c ≠ a + 28 → b.1 c = s.1 c) ∧ b.2 = s.2)
    (g := fun k g => mVeG i k g) (fun n b g _ => ?_) (fun n k b g hk hJ => ?_) 10 0 s f 10000 (by omega) ⟨hK, hv, rfl, fun _ _ => rfl, rfl⟩ (by omega)
  · obtain ⟨s', h1, h2, -, -, h3, h4⟩ := H
    exact ⟨s', h1, h2, h3, h4⟩
  · simp (disch := omega) only [q118_33, nI_lit, nI_add, pk_mul, nI_clp, nI_eqv, nI_lev, nI_ltv, nI_neg, nI_neg', nI_subv, Nat.add_zero, Nat.zero_add, Nat.mul_zero, Nat.reduceAdd, bN_rv, bM_ru, bV_rv, bV_rx, bU_ru, bU_rx, bN_ite, bM_ite, bV_ite, bU_ite, ↓bx_e, ↓sp_e, gA_ok, gZ_n, gB_0, gB_1, gB_i, and_true, and_false, true_and, false_and, decide_true, decide_false, ↓reduceIte, not_true_eq_false, not_false_eq_true, Bool.false_eq_true, Bool.true_eq_false, Bool.and_true, Bool.and_false, Bool.true_and, Bool.false_and, Bool.or_true, Bool.or_false, Bool.true_or, Bool.false_or, Bool.not_true, Bool.not_false, le_f, le_t, lt_f, lt_t, eq_f, ↓reduceIte, not_true_eq_false, not_false_eq_true, ite_10, bt_0, bt_1]
  · obtain ⟨k1, k2, k3, k4, k5⟩ := hJ
    have e6 : b.1 (a + 6 + 6) i = f (74 + 21 * i + 6) := by rw [k4 _ (by omega)]; exact h6
    obtain ⟨v, hv1, hv2⟩ := k2 k hk
    have q0 := (k1 k hk).1
    refine ⟨sI b (a + 28) k (mnI (nI 9999) (g (9 + 4 * k) + (if bt (f (74 + 21 * i + 6)) k = true then nI 1 else nI 0))), ?_, ?_⟩
    · simp (disch := omega) only [q118_33, e6, bt_b, q0, nI_lit, nI_add, pk_mul, nI_clp, nI_eqv, nI_lev, nI_ltv, nI_neg, nI_neg', nI_subv, Nat.add_zero, Nat.zero_add, Nat.mul_zero, Nat.reduceAdd, bN_rv, bM_ru, bV_rv, bV_rx, bU_ru, bU_rx, bN_ite, bM_ite, bV_ite, bU_ite, ↓bx_e, ↓sp_e, gA_ok, gZ_n, gB_0, gB_1, gB_i, and_true, and_false, true_and, false_and, decide_true, decide_false, ↓reduceIte, not_true_eq_false, not_false_eq_true, Bool.false_eq_true, Bool.true_eq_false, Bool.and_true, Bool.and_false, Bool.true_and, Bool.false_and, Bool.or_true, Bool.or_false, Bool.true_or, Bool.false_or, Bool.not_true, Bool.not_false, le_f, le_t, lt_f, lt_t, eq_f, ↓reduceIte, not_true_eq_false, not_false_eq_true, ite_10, bt_0, bt_1]
    · unfold mVeG
      rw [k3]
      cases eb : bt (f (74 + 21 * i + 6)) k with
      | true =>
        rw [if_pos rfl, if_pos rfl]
        refine ⟨RK_0 k1 hk _, fun l hl => ?_, by rw [ud_n (by omega)]; exact k3, fun c hc => by rw [sI_fn hc]; exact k4 c hc, k5⟩
        by_cases e : l = k
        · subst e
          rw [ud_e rfl, hv2, nI_add, mn_nI (by omega) (by omega)]
          exact ⟨min 9999 (v + 1), by omega, rfl⟩
        · rw [ud_n (by omega)]; exact k2 l hl
      | false =>
        rw [if_neg (by decide), if_neg (by decide)]
        have e0 : mnI (nI 9999) (g (9 + 4 * k) + nI 0) = g (9 + 4 * k) := by
          rw [hv2, nI_add, mn_nI (by omega) (by omega), show min 9999 (v + 0) = v by omega]
        rw [e0]
        have := RK_0 k1 hk (g (9 + 4 * k))
        rw [ud_id] at this
        exact ⟨this, k2, k3, fun c hc => by rw [sI_fn hc]; exact k4 c hc, k5⟩
theorem sFst_nn {T : Nat} {f : Nat → Int32} (h : IT T f) {i : Nat} (hi : i < 8) : ∃ x, x ≤ T + 1 ∧ sFst f i = nI x := by
  obtain ⟨t0, t3, t⟩ := h
  unfold sFst
  refine fo_pres (P := fun (b : Int32) => ∃ x, x ≤ T + 1 ∧ b = nI x) (fun k b _ hk hb => ?_) (t i hi).2.2
  obtain ⟨e, he, hee⟩ := (t k (by omega)).2.1
  obtain ⟨x, hx, hxx⟩ := hb
  split
  · split
    · exact ⟨e, by omega, hee⟩
    · rw [hee, hxx, mn_nI (by omega) (by omega)]; exact ⟨min x e, by omega, rfl⟩
  · exact ⟨x, hx, hxx⟩
theorem mSpo_n {f : Nat → Int32} {i j : Nat} (h : ∀ o, o < 8 → j ≠ 74 + 21 * o + 10) : mSpo f i j = f j := by
  unfold mSpo
  split
  · rfl
  · split
    · rfl
    · exact mSp_n h
theorem IM_spo {T : Nat} {f : Nat → Int32} (h : IM T f) {i : Nat} (hs : IS (mSpo f i)) : IM T (mSpo f i) := by
  refine IM_rs h hs ?_ (fun j hj => mSpo_n (fun o ho => by omega)) (fun j hj => sU_c (mSpo_n (fun o ho => by omega))) (fun j hj => wh_c (mSpo_n (fun o ho => by omega)))
  obtain ⟨t0, t3, t⟩ := h.2.2.2.1
  refine ⟨t0, by rw [mSpo_n (fun o ho => by omega)]; exact t3, fun l hl => ?_⟩
  rw [mSpo_n (fun o ho => by omega), mSpo_n (fun o ho => by omega), mSpo_n (fun o ho => by omega)]; exact t l hl
theorem IS_spo2 {f : Nat → Int32} (h : IS f) {i : Nat} : IS (mSpo f i) := by
  unfold mSpo
  split
  · exact h
  · split
    · exact h
    · unfold mSp
      refine fo_pres (P := fun (g : Nat → Int32) => IS g) (fun o b _ ho hb => ?_) h
      unfold mSpG
      split
      · rename_i hq
        rw [Bool.and_eq_true, Bool.and_eq_true, Bool.and_eq_true] at hq
        exact IS_spo hb (by omega) (sR_U hq.1.1.1)
      · exact hb
