/-! EDGES -/
def sCo (f : Nat → Int32) (s o : Nat) : Bool := !(decide (s = o)) && (sR f o || (sF f o && !(decide (f (74 + 21 * o + 3) ≤ f (74 + 21 * s + 2)))))
theorem m250 {t : mS} {s o : Nat} (hs : s < 8) (ho : o < 8) : q250 (nI s) (nI o) t = rv (b2 (sCo (t.1 513) s o)) t := by
  unfold q250 sCo
  simp (disch := omega) only [q250_36, nI_lit, nI_add, pk_mul, nI_clp, nI_eqv, nI_lev, nI_ltv, nI_neg, nI_neg', nI_subv, Nat.add_zero, Nat.zero_add, Nat.mul_zero, bN_rv, bM_ru, bV_rv, bV_rx, bU_ru, bU_rx, bN_ite, bM_ite, bV_ite, bU_ite, bx_e, sp_e, gA_ok, gZ_n, gB_0, gB_1, gB_i, and_true, and_false, true_and, false_and, decide_true, decide_false, ↓reduceIte, not_true_eq_false, not_false_eq_true, Bool.false_eq_true, Bool.true_eq_false, Bool.and_true, Bool.and_false, Bool.true_and, Bool.false_and, Bool.or_true, Bool.or_false, Bool.true_or, Bool.false_or, Bool.not_true, Bool.not_false, le_f, le_t, lt_f, lt_t, eq_f, ↓reduceIte, not_true_eq_false, not_false_eq_true, ite_10, bt_0, bt_1, q198, q199, q200, q201, q202, q203, q204, m190, m205, m206, b2_0, q189, q187]
  by_cases e : s = o <;> cases sR (t.1 513) o <;> cases sF (t.1 513) o <;> by_cases h : t.1 513 (74 + 21 * o + 3) ≤ t.1 513 (74 + 21 * s + 2) <;> simp only [e, h, b2_t, b2_f, and_true, and_false, true_and, false_and, decide_true, decide_false, ↓reduceIte, not_true_eq_false, not_false_eq_true, Bool.false_eq_true, Bool.true_eq_false, Bool.and_true, Bool.and_false, Bool.true_and, Bool.false_and, Bool.or_true, Bool.or_false, Bool.true_or, Bool.false_or, Bool.not_true, Bool.not_false]
def Fz (z : Nat) (s s' : mS) : Prop := (∀ b, (b < z ∨ z + 12 ≤ b) → s'.1 b = s.1 b) ∧ s'.2 = s.2
theorem Fz_r {z : Nat} {s : mS} : Fz z s s := ⟨fun _ _ => rfl, rfl⟩
theorem Fz_t {z : Nat} {s s' s'' : mS} (h : Fz z s s') (h2 : Fz z s' s'') : Fz z s s'' := ⟨fun b hb => (h2.1 b hb).trans (h.1 b hb), h2.2.trans h.2⟩
theorem sI_fn {s : mS} {a k b : Nat} {x : Int32} (h : b ≠ a) : (sI s a k x).1 b = s.1 b := if_neg h
theorem Fz_I {z : Nat} {s : mS} {a k : Nat} {x : Int32} (h1 : z ≤ a) (h2 : a < z + 12) : Fz z s (sI s a k x) := ⟨fun b hb => sI_fn (by omega), Eq.trans rfl rfl⟩
theorem Fz_free {z i : Nat} {s : mS} : Fz z s (cFree s z i) := by
  refine ⟨fun b hb => ?_, Eq.trans rfl rfl⟩
  funext j
  rw [cFree_at, if_neg (by omega), if_neg (by omega)]
theorem p82 {s : mS} {z : Nat} {f : Nat → Int32} (h : RS s z f) {i o : Nat} (hi : i < 8) (ho : o < 8) (hu : sU f i = true) : q82 z (nI o) (nI i) s = rv (b2 (sCo f i o)) s := by
  unfold q82 sCo
  simp (disch := omega) only [q82_42, h.1 o, h.2.1 o, nI_lit, nI_add, pk_mul, nI_clp, nI_eqv, nI_lev, nI_ltv, nI_neg, nI_neg', nI_subv, Nat.add_zero, Nat.zero_add, Nat.mul_zero, bN_rv, bM_ru, bV_rv, bV_rx, bU_ru, bU_rx, bN_ite, bM_ite, bV_ite, bU_ite, bx_e, sp_e, gA_ok, gZ_n, gB_0, gB_1, gB_i, and_true, and_false, true_and, false_and, decide_true, decide_false, ↓reduceIte, not_true_eq_false, not_false_eq_true, Bool.false_eq_true, Bool.true_eq_false, Bool.and_true, Bool.and_false, Bool.true_and, Bool.false_and, Bool.or_true, Bool.or_false, Bool.true_or, Bool.false_or, Bool.not_true, Bool.not_false, le_f, le_t, lt_f, lt_t, eq_f, ↓reduceIte, not_true_eq_false, not_false_eq_true, ite_10, bt_0, bt_1]
  by_cases e : i = o
  · subst e; simp only [b2_f, and_true, and_false, true_and, false_and, decide_true, decide_false, ↓reduceIte, not_true_eq_false, not_false_eq_true, Bool.false_eq_true, Bool.true_eq_false, Bool.and_true, Bool.and_false, Bool.true_and, Bool.false_and, Bool.or_true, Bool.or_false, Bool.true_or, Bool.false_or, Bool.not_true, Bool.not_false]
  · have e' : ¬ o = i := fun q => e q.symm
    cases e1 : sR f o
    · cases e2 : sF f o
      · simp only [e, e', b2_f, and_true, and_false, true_and, false_and, decide_true, decide_false, ↓reduceIte, not_true_eq_false, not_false_eq_true, Bool.false_eq_true, Bool.true_eq_false, Bool.and_true, Bool.and_false, Bool.true_and, Bool.false_and, Bool.or_true, Bool.or_false, Bool.true_or, Bool.false_or, Bool.not_true, Bool.not_false]
      · rw [h.2.2.2.2.2.1 i hi hu, h.2.2.2.2.2.2.1 o ho (sF_U e2)]
        by_cases h3 : f (74 + 21 * o + 3) ≤ f (74 + 21 * i + 2) <;> simp only [e, e', h3, b2_t, b2_f, and_true, and_false, true_and, false_and, decide_true, decide_false, ↓reduceIte, not_true_eq_false, not_false_eq_true, Bool.false_eq_true, Bool.true_eq_false, Bool.and_true, Bool.and_false, Bool.true_and, Bool.false_and, Bool.or_true, Bool.or_false, Bool.true_or, Bool.false_or, Bool.not_true, Bool.not_false]
    · simp only [e, e', b2_t, and_true, and_false, true_and, false_and, decide_true, decide_false, ↓reduceIte, not_true_eq_false, not_false_eq_true, Bool.false_eq_true, Bool.true_eq_false, Bool.and_true, Bool.and_false, Bool.true_and, Bool.false_and, Bool.or_true, Bool.or_false, Bool.true_or, Bool.false_or, Bool.not_true, Bool.not_false]
/-- an edge from i to j -/
theorem bt_or1 {x : Int32} {i j : Nat} (hi : i < 32) : bt (x ||| shlI (nI 1) (nI i)) j = (bt x j || decide (j = i)) := by
  rw [b_or, bt_sh hi]
theorem sIn_ed {f : Nat → Int32} {i j k : Nat} (hi : i < 8) (hj : j < 8) (hk : k < 8) : sIn (upd f (74 + 21 * i + 7) (f (74 + 21 * i + 7) ||| shlI (nI 1) (nI j))) k = if k = j then sIn f k ||| shlI (nI 1) (nI i) else sIn f k := by
  apply b_ext
  intro l hl
  rw [bt_sIn]
  by_cases el : l = i
  · subst el
    rw [ud_e rfl, bt_or1 (by omega)]
    by_cases ek : k = j
    · rw [if_pos ek, bt_or1 (by omega), bt_sIn]; simp only [ek, hi, and_true, and_false, true_and, false_and, decide_true, decide_false, ↓reduceIte, not_true_eq_false, not_false_eq_true, Bool.false_eq_true, Bool.true_eq_false, Bool.and_true, Bool.and_false, Bool.true_and, Bool.false_and, Bool.or_true, Bool.or_false, Bool.true_or, Bool.false_or, Bool.not_true, Bool.not_false]
    · rw [if_neg ek, bt_sIn]; simp only [ek, and_true, and_false, true_and, false_and, decide_true, decide_false, ↓reduceIte, not_true_eq_false, not_false_eq_true, Bool.false_eq_true, Bool.true_eq_false, Bool.and_true, Bool.and_false, Bool.true_and, Bool.false_and, Bool.or_true, Bool.or_false, Bool.true_or, Bool.false_or, Bool.not_true, Bool.not_false]
  · rw [ud_n (by omega)]
    by_cases ek : k = j
    · rw [if_pos ek, bt_or1 (by omega), bt_sIn]; simp only [el, and_true, and_false, true_and, false_and, decide_true, decide_false, ↓reduceIte, not_true_eq_false, not_false_eq_true, Bool.false_eq_true, Bool.true_eq_false, Bool.and_true, Bool.and_false, Bool.true_and, Bool.false_and, Bool.or_true, Bool.or_false, Bool.true_or, Bool.false_or, Bool.not_true, Bool.not_false]
    · rw [if_neg ek, bt_sIn]
theorem RS_edge {s : mS} {z : Nat} {f : Nat → Int32} (h : RS s z f) (hw : IW f) {i j : Nat} (hi : i < 8) (hj : j < 8) : RS (sI (sI s (z + 9) i (s.1 (z + 9) i ||| shlI (nI 1) (nI j))) (z + 10) j ((sI s (z + 9) i (s.1 (z + 9) i ||| shlI (nI 1) (nI j))).1 (z + 10) j ||| shlI (nI 1) (nI i))) z (upd f (74 + 21 * i + 7) (f (74 + 21 * i + 7) ||| shlI (nI 1) (nI j))) := by
  obtain ⟨a0, a1, a2, a3, a4, a5, a6, a7, a8, a9, a10, a11, a12, a13, a14⟩ := h
  refine ⟨fun k => ?_, fun k => ?_, fun k => ?_, fun k => ?_, fun k hk hu => ?_, fun k hk hu => ?_, fun k hk hu => ?_, fun k hk hu => ?_, fun k hk hu => ?_, fun k hk hu => ?_, fun k hk hu => ?_, fun k hk hu => ?_, fun k hk => ?_, fun k hk => ?_, fun k hk hu l hl => ?_⟩
  · simp (disch := omega) only [sI_at, eq_f, ↓reduceIte, sR_u]; exact a0 k
  · simp (disch := omega) only [sI_at, eq_f, ↓reduceIte, sF_u]; exact a1 k
  · simp (disch := omega) only [sI_at, eq_f, ↓reduceIte]
    rw [a2 k]
    by_cases hk : k < 8
    · have := (hw k hk).2
      rw [sU_u (by omega), sOn_u (by omega) (by omega)]
    · simp only [hk, and_true, and_false, true_and, false_and, decide_true, decide_false, ↓reduceIte, not_true_eq_false, not_false_eq_true, Bool.false_eq_true, Bool.true_eq_false, Bool.and_true, Bool.and_false, Bool.true_and, Bool.false_and, Bool.or_true, Bool.or_false, Bool.true_or, Bool.false_or, Bool.not_true, Bool.not_false]
  · simp (disch := omega) only [sI_at, eq_f, ↓reduceIte, ud_n]; exact a3 k
  · rw [sU_u (by omega)] at hu; simp (disch := omega) only [sI_at, eq_f, ↓reduceIte, ud_n]; exact a4 k hk hu
  · rw [sU_u (by omega)] at hu; simp (disch := omega) only [sI_at, eq_f, ↓reduceIte, ud_n]; exact a5 k hk hu
  · rw [sU_u (by omega)] at hu; simp (disch := omega) only [sI_at, eq_f, ↓reduceIte, ud_n]; exact a6 k hk hu
  · rw [sU_u (by omega)] at hu; simp (disch := omega) only [sI_at, eq_f, ↓reduceIte, ud_n]; exact a7 k hk hu
  · rw [sU_u (by omega)] at hu; simp (disch := omega) only [sI_at, eq_f, ↓reduceIte, ud_n]; exact a8 k hk hu
  · rw [sU_u (by omega)] at hu; simp (disch := omega) only [sI_at, eq_f, ↓reduceIte, ud_n]; exact a9 k hk hu
  · rw [sU_u (by omega)] at hu; simp (disch := omega) only [sI_at, eq_f, ↓reduceIte, ud_n]; exact a10 k hk hu
  · rw [sU_u (by omega)] at hu; simp (disch := omega) only [sI_at, eq_f, ↓reduceIte, ud_n]; exact a11 k hk hu
  · by_cases e : k = i
    · subst e; simp (disch := omega) only [sI_at, eq_f, ↓reduceIte, ud_e]; rw [a12 k hk]
    · simp (disch := omega) only [sI_at, eq_f, e, ↓reduceIte, ud_n]; exact a12 k hk
  · rw [sIn_ed hi hj hk]
    by_cases e : k = j
    · subst e; simp (disch := omega) only [sI_at, eq_f, ↓reduceIte]; rw [a13 k hk]
    · simp (disch := omega) only [sI_at, eq_f, e, ↓reduceIte]; exact a13 k hk
  · rw [sU_u (by omega)] at hu; simp (disch := omega) only [sI_at, eq_f, ↓reduceIte, ud_n]; exact a14 k hk hu l hl
theorem IS_edge {f : Nat → Int32} (h : IS f) {i j : Nat} (hi : i < 8) (hj : j < 8) (hu : sU f i = true) (hv : sU f j = true) : IS (upd f (74 + 21 * i + 7) (f (74 + 21 * i + 7) ||| shlI (nI 1) (nI j))) := by
  obtain ⟨i0, i1, i2, i3, i4, i5, i6⟩ := h
  refine ⟨IW_c i0 (fun j hj => ud_n (by omega)), fun k hk => ?_, fun k hk hz w' hw' => ?_, fun k l hk hb => ?_, fun k hk => ?_, fun k l hk hl ha hb hc => ?_, fun k l q hk hl hq ha hb hc hd => ?_⟩
  · rw [ud_n (by omega)]; exact i1 k hk
  · rw [ud_n (by omega)] at hz
    have hji : k ≠ i := by
      intro e; subst e
      unfold sU at hu
      rw [hz] at hu
      exact absurd hu (by decide)
    rw [ud_n (by omega)]; exact i2 k hk hz w' hw'
  · have hq : sU (upd f (74 + 21 * i + 7) (f (74 + 21 * i + 7) ||| shlI (nI 1) (nI j))) l = sU f l := sU_u (by omega)
    rw [hq]
    by_cases e : k = i
    · subst e
      rw [ud_e rfl, bt_or1 (by omega), Bool.or_eq_true] at hb
      rcases hb with hb | hb
      · exact i3 k l hk hb
      · rw [of_decide_eq_true hb]; exact ⟨hj, hv⟩
    · rw [ud_n (by omega)] at hb; exact i3 k l hk hb
  · rw [ud_n (by omega)]; exact i4 k hk
  · rw [sR_u (by omega)] at ha hb
    rw [ud_n (by omega), ud_n (by omega)] at hc
    exact i5 k l hk hl ha hb hc
  · rw [sR_u (by omega)] at ha hb
    rw [ud_n (by omega)] at hc hd
    exact i6 k l q hk hl hq ha hb hc hd
theorem fo_pres {σ : Type} {g : Nat → σ → σ} {P : σ → Prop} : ∀ {m i : Nat} {b : σ}, (∀ k b, i ≤ k → k < i + m → P b → P (g k b)) → P b → P (fo g m i b) := by
  intro m
  induction m with
  | zero => intro i b _ h; exact h
  | succ m ih => intro i b hg h; rw [fo_s]; exact ih (fun k b h1 h2 => hg k b (by omega) (by omega)) (hg i b (Nat.le_refl _) (by omega) h)
theorem sCo_U {f : Nat → Int32} {s o : Nat} (h : sCo f s o = true) : sU f o = true := by
  unfold sCo at h
  rw [Bool.and_eq_true] at h
  cases e : sR f o with
  | true => exact sR_U e
  | false =>
    rw [e, Bool.false_or, Bool.and_eq_true] at h
    exact sF_U h.2.1
/-- edges of a reader, to those that wrote; of a writer, from those that read -/
def mLw (f : Nat → Int32) (i k : Nat) : Nat → Int32 := fo (fun o f => if (sCo f i o && bt (f (74 + 21 * o + 6)) k) = true then upd f (74 + 21 * i + 7) (f (74 + 21 * i + 7) ||| shlI (nI 1) (nI o)) else f) 8 0 f
def mLr (f : Nat → Int32) (i k : Nat) : Nat → Int32 := fo (fun o f => if (sCo f i o && bt (f (74 + 21 * o + 5)) k) = true then upd f (74 + 21 * o + 7) (f (74 + 21 * o + 7) ||| shlI (nI 1) (nI i)) else f) 8 0 f
theorem mLw_n {f : Nat → Int32} {i k j : Nat} (h : j ≠ 74 + 21 * i + 7) : mLw f i k j = f j := by
  unfold mLw
  refine fo_pres (P := fun (g : Nat → Int32) => g j = f j) (fun o b _ _ hb => ?_) rfl
  split
  · rw [ud_n h]; exact hb
  · exact hb
theorem mLr_n {f : Nat → Int32} {i k j : Nat} (h : ∀ o, o < 8 → j ≠ 74 + 21 * o + 7) : mLr f i k j = f j := by
  unfold mLr
  refine fo_pres (P := fun (g : Nat → Int32) => g j = f j) (fun o b _ ho hb => ?_) rfl
  split
  · rw [ud_n (h o (by omega))]; exact hb
  · exact hb
theorem m263_57 {K : Int32 → Int32 → mS → Option mQ} {t : mS} {f : Nat → Int32} {i k : Nat} (hi : i < 8) (hk : k < 10) : q263_57 K 10000 (nI i) (nI k) (nI 0) (wr t f) = K (nI i) (nI k) (wr t (mLw f i k)) := by
  unfold mLw
  refine lp_fo (Q := fun n f o => q263_57 K n (nI i) (nI k) o (wr t f)) (out := fun f => K (nI i) (nI k) (wr t f)) (fun n b => ?_) (fun n o b ho => ?_) f 10000 (by omega)
  · simp (disch := omega) only [q263_57, nI_lit, nI_add, pk_mul, nI_clp, nI_eqv, nI_lev, nI_ltv, nI_neg, nI_neg', nI_subv, Nat.add_zero, Nat.zero_add, Nat.mul_zero, bN_rv, bM_ru, bV_rv, bV_rx, bU_ru, bU_rx, bN_ite, bM_ite, bV_ite, bU_ite, bx_e, sp_e, gA_ok, gZ_n, gB_0, gB_1, gB_i, and_true, and_false, true_and, false_and, decide_true, decide_false, ↓reduceIte, not_true_eq_false, not_false_eq_true, Bool.false_eq_true, Bool.true_eq_false, Bool.and_true, Bool.and_false, Bool.true_and, Bool.false_and, Bool.or_true, Bool.or_false, Bool.true_or, Bool.false_or, Bool.not_true, Bool.not_false, le_f, le_t, lt_f, lt_t, eq_f, ↓reduceIte, not_true_eq_false, not_false_eq_true, ite_10, bt_0, bt_1]
  · simp (disch := omega) only [q263_57, q263_103, m250, wr_1, sI_wr, nI_lit, nI_add, pk_mul, nI_clp, nI_eqv, nI_lev, nI_ltv, nI_neg, nI_neg', nI_subv, Nat.add_zero, Nat.zero_add, Nat.mul_zero, bN_rv, bM_ru, bV_rv, bV_rx, bU_ru, bU_rx, bN_ite, bM_ite, bV_ite, bU_ite, bx_e, sp_e, gA_ok, gZ_n, gB_0, gB_1, gB_i, and_true, and_false, true_and, false_and, decide_true, decide_false, ↓reduceIte, not_true_eq_false, not_false_eq_true, Bool.false_eq_true, Bool.true_eq_false, Bool.and_true, Bool.and_false, Bool.true_and, Bool.false_and, Bool.or_true, Bool.or_false, Bool.true_or, Bool.false_or, Bool.not_true, Bool.not_false, le_f, le_t, lt_f, lt_t, eq_f, ↓reduceIte, not_true_eq_false, not_false_eq_true, ite_10, bt_0, bt_1, q198, q199, q200, q201, q202, q203, q204, m190, m205, m206, b2_0, q189, q187]
    cases sCo b i o <;> cases bt (b (74 + 21 * o + 6)) k <;> simp only [and_true, and_false, true_and, false_and, decide_true, decide_false, ↓reduceIte, not_true_eq_false, not_false_eq_true, Bool.false_eq_true, Bool.true_eq_false, Bool.and_true, Bool.and_false, Bool.true_and, Bool.false_and, Bool.or_true, Bool.or_false, Bool.true_or, Bool.false_or, Bool.not_true, Bool.not_false]
theorem m265_37 {K : Int32 → Int32 → mS → Option mQ} {t : mS} {f : Nat → Int32} {i k : Nat} (hi : i < 8) (hk : k < 10) : q265_37 K 10000 (nI i) (nI k) (nI 0) (wr t f) = K (nI i) (nI k) (wr t (mLr f i k)) := by
  unfold mLr
  refine lp_fo (Q := fun n f o => q265_37 K n (nI i) (nI k) o (wr t f)) (out := fun f => K (nI i) (nI k) (wr t f)) (fun n b => ?_) (fun n o b ho => ?_) f 10000 (by omega)
  · simp (disch := omega) only [q265_37, nI_lit, nI_add, pk_mul, nI_clp, nI_eqv, nI_lev, nI_ltv, nI_neg, nI_neg', nI_subv, Nat.add_zero, Nat.zero_add, Nat.mul_zero, bN_rv, bM_ru, bV_rv, bV_rx, bU_ru, bU_rx, bN_ite, bM_ite, bV_ite, bU_ite, bx_e, sp_e, gA_ok, gZ_n, gB_0, gB_1, gB_i, and_true, and_false, true_and, false_and, decide_true, decide_false, ↓reduceIte, not_true_eq_false, not_false_eq_true, Bool.false_eq_true, Bool.true_eq_false, Bool.and_true, Bool.and_false, Bool.true_and, Bool.false_and, Bool.or_true, Bool.or_false, Bool.true_or, Bool.false_or, Bool.not_true, Bool.not_false, le_f, le_t, lt_f, lt_t, eq_f, ↓reduceIte, not_true_eq_false, not_false_eq_true, ite_10, bt_0, bt_1]
  · simp (disch := omega) only [q265_37, q265_82, m250, wr_1, sI_wr, nI_lit, nI_add, pk_mul, nI_clp, nI_eqv, nI_lev, nI_ltv, nI_neg, nI_neg', nI_subv, Nat.add_zero, Nat.zero_add, Nat.mul_zero, bN_rv, bM_ru, bV_rv, bV_rx, bU_ru, bU_rx, bN_ite, bM_ite, bV_ite, bU_ite, bx_e, sp_e, gA_ok, gZ_n, gB_0, gB_1, gB_i, and_true, and_false, true_and, false_and, decide_true, decide_false, ↓reduceIte, not_true_eq_false, not_false_eq_true, Bool.false_eq_true, Bool.true_eq_false, Bool.and_true, Bool.and_false, Bool.true_and, Bool.false_and, Bool.or_true, Bool.or_false, Bool.true_or, Bool.false_or, Bool.not_true, Bool.not_false, le_f, le_t, lt_f, lt_t, eq_f, ↓reduceIte, not_true_eq_false, not_false_eq_true, ite_10, bt_0, bt_1, q198, q199, q200, q201, q202, q203, q204, m190, m205, m206, b2_0, q189, q187]
    cases sCo b i o <;> cases bt (b (74 + 21 * o + 5)) k <;> simp only [and_true, and_false, true_and, false_and, decide_true, decide_false, ↓reduceIte, not_true_eq_false, not_false_eq_true, Bool.false_eq_true, Bool.true_eq_false, Bool.and_true, Bool.and_false, Bool.true_and, Bool.false_and, Bool.or_true, Bool.or_false, Bool.true_or, Bool.false_or, Bool.not_true, Bool.not_false]
theorem p83 {s : mS} {z : Nat} {f : Nat → Int32} (h : RS s z f) (hs : IS f) {i k : Nat} (hi : i < 8) (hk : k < 10) (hu : sU f i = true) : ∃ s', q83 z (nI i) (shlI (nI 1) (nI k)) s = ru s' ∧ RS s' z (mLw f i k) ∧ IS (mLw f i k) ∧ Fz z s s' := by
  unfold q83 mLw
  rw [nI_lit]
  have H := lp_sim (Q := fun n b o => q83_2 z n (nI i) (shlI (nI 1) (nI k)) o b) (e := 8) (out := fun b => ru b) (J := fun _ b f => RS b z f ∧ IS f ∧ sU f i = true ∧ Fz z s b)
    (g := fun o f => if (sCo f i o && bt (f (74 + 21 * o + 6)) k) = true then upd f (74 + 21 * i + 7) (f (74 + 21 * i + 7) ||| shlI (nI 1) (nI o)) else f)
    (fun n b f _ => ?_) (fun n o b f ho hJ => ?_) 8 0 s f 10000 (by omega) ⟨h, hs, hu, Fz_r⟩ (by omega)
  · obtain ⟨s', h1, h2, h3, h4, h5⟩ := H
    exact ⟨s', h1, h2, h3, h5⟩
  · simp (disch := omega) only [q83_2, nI_lit, nI_add, pk_mul, nI_clp, nI_eqv, nI_lev, nI_ltv, nI_neg, nI_neg', nI_subv, Nat.add_zero, Nat.zero_add, Nat.mul_zero, bN_rv, bM_ru, bV_rv, bV_rx, bU_ru, bU_rx, bN_ite, bM_ite, bV_ite, bU_ite, bx_e, sp_e, gA_ok, gZ_n, gB_0, gB_1, gB_i, and_true, and_false, true_and, false_and, decide_true, decide_false, ↓reduceIte, not_true_eq_false, not_false_eq_true, Bool.false_eq_true, Bool.true_eq_false, Bool.and_true, Bool.and_false, Bool.true_and, Bool.false_and, Bool.or_true, Bool.or_false, Bool.true_or, Bool.false_or, Bool.not_true, Bool.not_false, le_f, le_t, lt_f, lt_t, eq_f, ↓reduceIte, not_true_eq_false, not_false_eq_true, ite_10, bt_0, bt_1]
  · obtain ⟨hR, hS, hu, hF⟩ := hJ
    cases e : sCo f i o with
    | false =>
      refine ⟨b, ?_, ?_⟩
      · simp (disch := omega) only [q83_2, q83_52, p82 hR hi ho hu, e, b2_f, ite_self, nI_lit, nI_add, pk_mul, nI_clp, nI_eqv, nI_lev, nI_ltv, nI_neg, nI_neg', nI_subv, Nat.add_zero, Nat.zero_add, Nat.mul_zero, bN_rv, bM_ru, bV_rv, bV_rx, bU_ru, bU_rx, bN_ite, bM_ite, bV_ite, bU_ite, bx_e, sp_e, gA_ok, gZ_n, gB_0, gB_1, gB_i, and_true, and_false, true_and, false_and, decide_true, decide_false, ↓reduceIte, not_true_eq_false, not_false_eq_true, Bool.false_eq_true, Bool.true_eq_false, Bool.and_true, Bool.and_false, Bool.true_and, Bool.false_and, Bool.or_true, Bool.or_false, Bool.true_or, Bool.false_or, Bool.not_true, Bool.not_false, le_f, le_t, lt_f, lt_t, eq_f, ↓reduceIte, not_true_eq_false, not_false_eq_true, ite_10, bt_0, bt_1]
      · rw [Bool.false_and, if_neg (by decide)]; exact ⟨hR, hS, hu, hF⟩
    | true =>
      have hv := sCo_U e
      have hw6 := hR.2.2.2.2.2.2.2.2.2.1 o ho hv
      cases e2 : bt (f (74 + 21 * o + 6)) k with
      | false =>
        refine ⟨b, ?_, ?_⟩
        · simp (disch := omega) only [q83_2, q83_52, hw6, bt_and1, e2, nI_lit, nI_add, pk_mul, nI_clp, nI_eqv, nI_lev, nI_ltv, nI_neg, nI_neg', nI_subv, Nat.add_zero, Nat.zero_add, Nat.mul_zero, bN_rv, bM_ru, bV_rv, bV_rx, bU_ru, bU_rx, bN_ite, bM_ite, bV_ite, bU_ite, bx_e, sp_e, gA_ok, gZ_n, gB_0, gB_1, gB_i, and_true, and_false, true_and, false_and, decide_true, decide_false, ↓reduceIte, not_true_eq_false, not_false_eq_true, Bool.false_eq_true, Bool.true_eq_false, Bool.and_true, Bool.and_false, Bool.true_and, Bool.false_and, Bool.or_true, Bool.or_false, Bool.true_or, Bool.false_or, Bool.not_true, Bool.not_false, le_f, le_t, lt_f, lt_t, eq_f, ↓reduceIte, not_true_eq_false, not_false_eq_true, ite_10, bt_0, bt_1]
        · rw [Bool.and_false, if_neg (by decide)]; exact ⟨hR, hS, hu, hF⟩
      | true =>
        refine ⟨?w, ?x, ?y⟩
        case x =>
          simp (disch := omega) only [q83_2, q83_52, p82 hR hi ho hu, e, b2_t, hw6, bt_and1, e2, nI_lit, nI_add, pk_mul, nI_clp, nI_eqv, nI_lev, nI_ltv, nI_neg, nI_neg', nI_subv, Nat.add_zero, Nat.zero_add, Nat.mul_zero, bN_rv, bM_ru, bV_rv, bV_rx, bU_ru, bU_rx, bN_ite, bM_ite, bV_ite, bU_ite, bx_e, sp_e, gA_ok, gZ_n, gB_0, gB_1, gB_i, and_true, and_false, true_and, false_and, decide_true, decide_false, ↓reduceIte, not_true_eq_false, not_false_eq_true, Bool.false_eq_true, Bool.true_eq_false, Bool.and_true, Bool.and_false, Bool.true_and, Bool.false_and, Bool.or_true, Bool.or_false, Bool.true_or, Bool.false_or, Bool.not_true, Bool.not_false, le_f, le_t, lt_f, lt_t, eq_f, ↓reduceIte, not_true_eq_false, not_false_eq_true, ite_10, bt_0, bt_1]
          rfl
        case y =>
          rw [Bool.and_true, if_pos rfl]
          refine ⟨RS_edge hR hS.1 hi ho, IS_edge hS hi ho hu hv, ?_, ?_⟩
          · rw [sU_u (by omega)]; exact hu
          · exact Fz_t hF (Fz_t (Fz_I (by omega) (by omega)) (Fz_I (by omega) (by omega)))
theorem p84 {s : mS} {z : Nat} {f : Nat → Int32} (h : RS s z f) (hs : IS f) {i k : Nat} (hi : i < 8) (hk : k < 10) (hu : sU f i = true) : ∃ s', q84 z (nI i) (shlI (nI 1) (nI k)) s = ru s' ∧ RS s' z (mLr f i k) ∧ IS (mLr f i k) ∧ Fz z s s' := by
  unfold q84 mLr
  rw [nI_lit]
  have H := lp_sim (Q := fun n b o => q84_2 z n (nI i) (shlI (nI 1) (nI k)) o b) (e := 8) (out := fun b => ru b) (J := fun _ b f => RS b z f ∧ IS f ∧ sU f i = true ∧ Fz z s b)
    (g := fun o f => if (sCo f i o && bt (f (74 + 21 * o + 5)) k) = true then upd f (74 + 21 * o + 7) (f (74 + 21 * o + 7) ||| shlI (nI 1) (nI i)) else f)
    (fun n b f _ => ?_) (fun n o b f ho hJ => ?_) 8 0 s f 10000 (by omega) ⟨h, hs, hu, Fz_r⟩ (by omega)
  · obtain ⟨s', h1, h2, h3, h4, h5⟩ := H
    exact ⟨s', h1, h2, h3, h5⟩
  · simp (disch := omega) only [q84_2, nI_lit, nI_add, pk_mul, nI_clp, nI_eqv, nI_lev, nI_ltv, nI_neg, nI_neg', nI_subv, Nat.add_zero, Nat.zero_add, Nat.mul_zero, bN_rv, bM_ru, bV_rv, bV_rx, bU_ru, bU_rx, bN_ite, bM_ite, bV_ite, bU_ite, bx_e, sp_e, gA_ok, gZ_n, gB_0, gB_1, gB_i, and_true, and_false, true_and, false_and, decide_true, decide_false, ↓reduceIte, not_true_eq_false, not_false_eq_true, Bool.false_eq_true, Bool.true_eq_false, Bool.and_true, Bool.and_false, Bool.true_and, Bool.false_and, Bool.or_true, Bool.or_false, Bool.true_or, Bool.false_or, Bool.not_true, Bool.not_false, le_f, le_t, lt_f, lt_t, eq_f, ↓reduceIte, not_true_eq_false, not_false_eq_true, ite_10, bt_0, bt_1]
  · obtain ⟨hR, hS, hu, hF⟩ := hJ
    cases e : sCo f i o with
    | false =>
      refine ⟨b, ?_, ?_⟩
      · simp (disch := omega) only [q84_2, q84_52, p82 hR hi ho hu, e, b2_f, ite_self, nI_lit, nI_add, pk_mul, nI_clp, nI_eqv, nI_lev, nI_ltv, nI_neg, nI_neg', nI_subv, Nat.add_zero, Nat.zero_add, Nat.mul_zero, bN_rv, bM_ru, bV_rv, bV_rx, bU_ru, bU_rx, bN_ite, bM_ite, bV_ite, bU_ite, bx_e, sp_e, gA_ok, gZ_n, gB_0, gB_1, gB_i, and_true, and_false, true_and, false_and, decide_true, decide_false, ↓reduceIte, not_true_eq_false, not_false_eq_true, Bool.false_eq_true, Bool.true_eq_false, Bool.and_true, Bool.and_false, Bool.true_and, Bool.false_and, Bool.or_true, Bool.or_false, Bool.true_or, Bool.false_or, Bool.not_true, Bool.not_false, le_f, le_t, lt_f, lt_t, eq_f, ↓reduceIte, not_true_eq_false, not_false_eq_true, ite_10, bt_0, bt_1]
      · rw [Bool.false_and, if_neg (by decide)]; exact ⟨hR, hS, hu, hF⟩
    | true =>
      have hv := sCo_U e
      have hw6 := hR.2.2.2.2.2.2.2.2.1 o ho hv
      cases e2 : bt (f (74 + 21 * o + 5)) k with
      | false =>
        refine ⟨b, ?_, ?_⟩
        · simp (disch := omega) only [q84_2, q84_52, hw6, bt_and1, e2, nI_lit, nI_add, pk_mul, nI_clp, nI_eqv, nI_lev, nI_ltv, nI_neg, nI_neg', nI_subv, Nat.add_zero, Nat.zero_add, Nat.mul_zero, bN_rv, bM_ru, bV_rv, bV_rx, bU_ru, bU_rx, bN_ite, bM_ite, bV_ite, bU_ite, bx_e, sp_e, gA_ok, gZ_n, gB_0, gB_1, gB_i, and_true, and_false, true_and, false_and, decide_true, decide_false, ↓reduceIte, not_true_eq_false, not_false_eq_true, Bool.false_eq_true, Bool.true_eq_false, Bool.and_true, Bool.and_false, Bool.true_and, Bool.false_and, Bool.or_true, Bool.or_false, Bool.true_or, Bool.false_or, Bool.not_true, Bool.not_false, le_f, le_t, lt_f, lt_t, eq_f, ↓reduceIte, not_true_eq_false, not_false_eq_true, ite_10, bt_0, bt_1]
        · rw [Bool.and_false, if_neg (by decide)]; exact ⟨hR, hS, hu, hF⟩
      | true =>
        refine ⟨?w, ?x, ?y⟩
        case x =>
          simp (disch := omega) only [q84_2, q84_52, p82 hR hi ho hu, e, b2_t, hw6, bt_and1, e2, nI_lit, nI_add, pk_mul, nI_clp, nI_eqv, nI_lev, nI_ltv, nI_neg, nI_neg', nI_subv, Nat.add_zero, Nat.zero_add, Nat.mul_zero, bN_rv, bM_ru, bV_rv, bV_rx, bU_ru, bU_rx, bN_ite, bM_ite, bV_ite, bU_ite, bx_e, sp_e, gA_ok, gZ_n, gB_0, gB_1, gB_i, and_true, and_false, true_and, false_and, decide_true, decide_false, ↓reduceIte, not_true_eq_false, not_false_eq_true, Bool.false_eq_true, Bool.true_eq_false, Bool.and_true, Bool.and_false, Bool.true_and, Bool.false_and, Bool.or_true, Bool.or_false, Bool.true_or, Bool.false_or, Bool.not_true, Bool.not_false, le_f, le_t, lt_f, lt_t, eq_f, ↓reduceIte, not_true_eq_false, not_false_eq_true, ite_10, bt_0, bt_1]
          rfl
        case y =>
          rw [Bool.and_true, if_pos rfl]
          refine ⟨RS_edge hR hS.1 ho hi, IS_edge hS ho hi hv hu, ?_, ?_⟩
          · rw [sU_u (by omega)]; exact hu
          · exact Fz_t hF (Fz_t (Fz_I (by omega) (by omega)) (Fz_I (by omega) (by omega)))
