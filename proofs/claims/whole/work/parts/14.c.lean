/-! THE STORE'S TEXT: lines, on both sides -/
section ST3
variable {b : Nat → Nat} {L : Nat}
theorem tl_0 : tln 0 = 6 := by decide
theorem tl_4 : tln 4 = 7 := by decide
theorem tl_5 : tln 5 = 4 := by decide
theorem tl_6 : tln 6 = 5 := by decide
theorem tl_3 : tln 3 = 4 := by decide
theorem cN_e {f : Nat → Int32} {n : Nat} (h0 : f 0 = nI n) (hn : n ≤ 5) : cN f = n := by unfold cN; rw [h0, nI_clp (by omega)]
/-- a line ends behind it, and keeps what holds -/
def SRk (b : Nat → Nat) (L T B p : Nat) (r : SR) : Prop := match r with
  | .inl f => p ≤ f ∧ f ≤ L
  | .inr (p', g) => p ≤ p' ∧ p' ≤ L ∧ sk b L p' = p' ∧ IB T B g
theorem SRk_up {T B p q : Nat} {r : SR} (h : SRk b L T B p r) (hq : q ≤ p) : SRk b L T B q r := by
  cases r with
  | inl f => exact ⟨by have := h.1; omega, h.2⟩
  | inr x => exact ⟨by have := h.1; omega, h.2⟩
theorem num_k {T B hi at_ p : Nat} {f : Nat → Int32} (h : IB T B f) (ha : (at_ = 4 ∧ hi ≤ 6) ∨ at_ = 5) (hpL : p ≤ L) : SRk b L T B p (numT b L hi at_ p f) := by
  unfold numT
  cases en : nm b L hi p with
  | none => exact ⟨Nat.le_refl _, hpL⟩
  | some v =>
    have hv := nm_p en
    obtain ⟨d1, d2, -, -⟩ := dg_p (b := b) hpL
    obtain ⟨r1, r2, r3, r4⟩ := sk_p (b := b) d2
    exact ⟨by omega, r2, r4, IB_num h (by omega)⟩
theorem ver_k {T B p : Nat} {f : Nat → Int32} (h : IB T B f) (hpL : p ≤ L) : SRk b L T B p (verT b L p f) := by
  unfold verT
  cases en : nm b L 9 p with
  | none => exact ⟨Nat.le_refl _, hpL⟩
  | some k =>
    have hk := nm_p en
    obtain ⟨d1, d2, -, -⟩ := dg_p (b := b) hpL
    obtain ⟨r1, r2, r3, r4⟩ := sk_p (b := b) d2
    dsimp only
    by_cases e : sWri f k = none
    · rw [if_pos e]
      cases e2 : nm b L 999 (sk b L (dg b L p)) with
      | none => exact ⟨by omega, r2⟩
      | some v =>
        have hv := nm_p e2
        obtain ⟨u1, u2, -, -⟩ := dg_p (b := b) r2
        obtain ⟨w1, w2, w3, w4⟩ := sk_p (b := b) u2
        exact ⟨by omega, w2, w4, IB_ver h (by omega) (by omega)⟩
    · rw [if_neg e]; exact ⟨Nat.le_refl _, hpL⟩
theorem cl_k {T B n p : Nat} {f : Nat → Int32} (h : IB T B f) (h0 : f 0 = nI n) (hn : n < 5) (hpL : p ≤ L) (hs : sk b L p = p) : SRk b L T B p (clT b L n p f) := by
  unfold clT
  have k1 := keysW_k (b := b) (L := L) (tx := 1) (by omega) (by omega) (by omega) hpL hs
  cases e1 : keysW b L 1 p with
  | inl q => rw [e1] at k1; exact ⟨k1.1, k1.2.1⟩
  | inr x =>
    rw [e1] at k1
    obtain ⟨x1, x2, x3, x4⟩ := k1
    have k2 := keysW_k (b := b) (L := L) (tx := 2) (by omega) (by omega) (by omega) x2 x3
    dsimp only
    cases e2 : keysW b L 2 x.1 with
    | inl q => rw [e2] at k2; exact ⟨by have := k2.1; omega, k2.2.1⟩
    | inr y =>
      rw [e2] at k2
      obtain ⟨y1, y2, y3, y4⟩ := k2
      dsimp only
      cases e3 : wd b L 3 y.1 with
      | false =>
        rw [if_neg (show ¬ (false = true) by decide)]
        exact ⟨by omega, y2, y3, IB_add h h0 hn x4 y4 (by omega)⟩
      | true =>
        rw [if_pos rfl]
        have hq := wd_p y2 e3
        obtain ⟨r1, r2, r3, r4⟩ := sk_p (b := b) hq.1
        by_cases e : y.2 = nI 0
        · rw [if_pos e]; exact ⟨by omega, r2, r4, IB_add h h0 hn x4 y4 (by omega)⟩
        · rw [if_neg e]; exact ⟨by omega, y2⟩
theorem stL_k {T B p : Nat} {f : Nat → Int32} (h : IB T B f) (hpL : p ≤ L) (hs : sk b L p = p) : SRk b L T B p (stL b L p f) := by
  obtain ⟨n, hn, h0, -⟩ := h.1.1.2.1
  unfold stL
  cases e0 : wd b L 0 p with
  | true =>
    rw [if_pos rfl]
    have hq := wd_p hpL e0
    obtain ⟨r1, r2, r3, r4⟩ := sk_p (b := b) hq.1
    by_cases e5 : f 0 = nI 5
    · rw [if_pos e5]; exact ⟨Nat.le_refl _, hpL⟩
    · rw [if_neg e5, cN_e h0 hn]
      have : n ≠ 5 := fun q => e5 (by rw [h0, q])
      exact SRk_up (cl_k h h0 (by omega) r2 r4) (by omega)
  | false =>
  rw [if_neg (show ¬ (false = true) by decide)]
  cases e4 : wd b L 4 p with
  | true =>
    rw [if_pos rfl]
    have hq := wd_p hpL e4
    obtain ⟨r1, r2, r3, r4⟩ := sk_p (b := b) hq.1
    exact SRk_up (ver_k h r2) (by omega)
  | false =>
  rw [if_neg (show ¬ (false = true) by decide)]
  cases e5 : wd b L 5 p with
  | true =>
    rw [if_pos rfl]
    have hq := wd_p hpL e5
    obtain ⟨r1, r2, r3, r4⟩ := sk_p (b := b) hq.1
    exact SRk_up (num_k h (by omega) r2) (by omega)
  | false =>
  rw [if_neg (show ¬ (false = true) by decide)]
  cases e6 : wd b L 6 p with
  | true =>
    rw [if_pos rfl]
    have hq := wd_p hpL e6
    obtain ⟨r1, r2, r3, r4⟩ := sk_p (b := b) hq.1
    exact SRk_up (num_k h (by omega) r2) (by omega)
  | false =>
    rw [if_neg (show ¬ (false = true) by decide)]
    exact ⟨Nat.le_refl _, hpL⟩
/-! the class -/
def FS (s s' : mS) : Prop := (∀ c, c ≠ 1 → ¬ (58 ≤ c ∧ c < 90) → s'.1 c = s.1 c) ∧ (∀ j, j ≠ 2 → s'.1 1 j = s.1 1 j) ∧ s'.2 = s.2
theorem FS_t {s s' s'' : mS} (h : FS s s') (h2 : FS s' s'') : FS s s'' := ⟨fun c x y => (h2.1 c x y).trans (h.1 c x y), fun j x => (h2.2.1 j x).trans (h.2.1 j x), h2.2.2.trans h.2.2⟩
theorem FS_A {s : mS} {p : Nat} : FS s (cAt s p) := ⟨fun c x _ => cAt_n x, fun j hj => by unfold cAt; rw [sI_sm, ud_n hj], Eq.trans rfl rfl⟩
theorem FS_I {s : mS} {a k : Nat} {x : Int32} (h : 58 ≤ a ∧ a < 90) : FS s (sI s a k x) := ⟨fun c _ y => sI_fn (by omega), fun j _ => by rw [sI_fn (by omega)], Eq.trans rfl rfl⟩
theorem CP_S {s s' : mS} (h : CP b L s) (hf : FS s s') : CP b L s' := ⟨h.1, h.2.1, by rw [hf.2.1 1 (by omega)]; exact h.2.2.1, fun i hi => by rw [hf.1 2 (by omega) (by omega)]; exact h.2.2.2 i hi⟩
theorem RW_A {s : mS} {f : Nat → Int32} {p : Nat} (h : RW s 58 f) (hw : IW f) : RW (cAt s p) 58 f := RW_s h hw (fun c x y => cAt_n (by omega))
theorem RW_num {s : mS} {f : Nat → Int32} {w at_ : Nat} {v : Int32} (h : RW s 58 f) (hw : IW f) (ha : (w = 10 ∧ at_ = 4) ∨ (w = 11 ∧ at_ = 5)) : RW (sI s 58 w v) 58 (upd f at_ v) := by
  obtain ⟨h1, h2, h3, h4, h5, h6, h7, h8, h9, h10⟩ := h
  have c : ∀ b, b ≠ 58 → (sI s 58 w v).1 b = s.1 b := fun b hb => sI_fn hb
  have g : ∀ j, j ≠ at_ → upd f at_ v j = f j := fun j hj => ud_n hj
  refine ⟨RS_c h1 hw (fun b x y => c b (by omega)) (fun j x y => g j (by omega)) (fun j x => g _ (by omega)), RC_c h2 (fun b x y => c b (by omega)) (g 0 (by omega)) (fun j x y => g j (by omega)), RK_c h3 (fun b x y => c b (by omega)) (fun j x y => g j (by omega)), RLg_c h4 (fun b x y => c b (by omega)) (g 6 (by omega)) (fun j x y => g j (by omega)), RH_c h5 (fun b x y => c b (by omega)) (g 7 (by omega)) (fun j x y => g j (by omega)), ?_, ?_, ?_, ?_, ?_⟩
  · rw [sI_sm, ud_n (by omega), g 3 (by omega)]; exact h6
  · rcases ha with ⟨e1, e2⟩ | ⟨e1, e2⟩ <;> subst e1 <;> subst e2
    · rw [sI_sm, ud_e rfl, ud_e rfl]
    · rw [sI_sm, ud_n (by omega), g 4 (by omega)]; exact h7
  · rcases ha with ⟨e1, e2⟩ | ⟨e1, e2⟩ <;> subst e1 <;> subst e2
    · rw [sI_sm, ud_n (by omega), g 5 (by omega)]; exact h8
    · rw [sI_sm, ud_e rfl, ud_e rfl]
  · rw [sI_sm, ud_n (by omega), g 8 (by omega)]; exact h9
  · rw [sI_sm, ud_n (by omega), g 1 (by omega)]; exact h10
theorem RW_ver {s : mS} {f : Nat → Int32} {k : Nat} {v : Int32} (h : RW s 58 f) (hw : IW f) (hk : k < 10) : RW (sI s 86 k v) 58 (upd f (9 + 4 * k) v) := by
  obtain ⟨h1, h2, h3, h4, h5, h6, h7, h8, h9, h10⟩ := h
  have c : ∀ b, b ≠ 86 → (sI s 86 k v).1 b = s.1 b := fun b hb => sI_fn hb
  have g : ∀ j, j ≠ 9 + 4 * k → upd f (9 + 4 * k) v j = f j := fun j hj => ud_n hj
  refine ⟨RS_c h1 hw (fun b x y => c b (by omega)) (fun j x y => g j (by omega)) (fun j x => g _ (by omega)), RC_c h2 (fun b x y => c b (by omega)) (g 0 (by omega)) (fun j x y => g j (by omega)), fun k' hk' => ?_, RLg_c h4 (fun b x y => c b (by omega)) (g 6 (by omega)) (fun j x y => g j (by omega)), RH_c h5 (fun b x y => c b (by omega)) (g 7 (by omega)) (fun j x y => g j (by omega)), ?_, ?_, ?_, ?_, ?_⟩
  · obtain ⟨q1, q2, q3, q4⟩ := h3 k' hk'
    refine ⟨?_, by rw [c _ (by omega), g _ (by omega)]; exact q2, by rw [c _ (by omega), g _ (by omega)]; exact q3, by rw [c _ (by omega), g _ (by omega)]; exact q4⟩
    by_cases e : k' = k
    · subst e; rw [show (58 + 28 : Nat) = 86 from rfl, sI_sm, ud_e rfl, ud_e rfl]
    · rw [show (58 + 28 : Nat) = 86 from rfl, sI_sm, ud_n e, g _ (by omega)]; exact q1
  all_goals rw [c 58 (by omega), g _ (by omega)]; assumption
def clA (s : mS) (n : Nat) (rd wr : Int32) : mS := sI (sI s 60 n rd) 61 n wr
def clB2 (s : mS) (n o : Nat) : mS := if o = 0 then s else sI s 59 1 (s.1 59 1 ||| shlI (nI 1) (nI n))
theorem p2 {s : mS} {n o : Nat} {rd wr : Int32} (h : s.1 59 0 = nI n) (hn : n < 5) (ho : o ≤ 1) : q2 59 rd wr (nI o) s = ru (sI (clB2 (clA s n rd wr) n o) 59 0 (nI (n + 1))) := by
  have e1 : (sI s 60 n rd).1 59 0 = nI n := by rw [sI_fn (by omega)]; exact h
  have e2 : (sI (sI s 60 n rd) 61 n wr).1 59 0 = nI n := by rw [sI_fn (by omega)]; exact e1
  have e3 : ∀ x, (sI (sI (sI s 60 n rd) 61 n wr) 59 1 x).1 59 0 = nI n := fun x => by rw [sI_sm, ud_n (by omega)]; exact e2
  unfold q2 q2_48 clB2 clA
  have : o = 0 ∨ o = 1 := by omega
  rcases this with e | e <;> subst e
  · rw [if_pos rfl]
    simp (disch := omega) only [h, e1, e2, Nat.reduceAdd, nI_lit, nI_add, pk_mul, nI_clp, nI_eqv, nI_lev, nI_ltv, nI_neg, nI_neg', nI_subv, Nat.add_zero, Nat.zero_add, Nat.mul_zero, Nat.reduceAdd, bN_rv, bM_ru, bV_rv, bV_rx, bU_ru, bU_rx, bN_ite, bM_ite, bV_ite, bU_ite, ↓bx_e, ↓sp_e, gA_ok, gZ_n, gB_0, gB_1, gB_i, and_true, and_false, true_and, false_and, decide_true, decide_false, ↓reduceIte, not_true_eq_false, not_false_eq_true, Bool.false_eq_true, Bool.true_eq_false, Bool.and_true, Bool.and_false, Bool.true_and, Bool.false_and, Bool.or_true, Bool.or_false, Bool.true_or, Bool.false_or, Bool.not_true, Bool.not_false, le_f, le_t, lt_f, lt_t, eq_f, ↓reduceIte, not_true_eq_false, not_false_eq_true, ite_10, bt_0, bt_1]
  · rw [if_neg (show ¬ (1 : Nat) = 0 by omega)]
    simp (disch := omega) only [h, e1, e2, e3, Nat.reduceAdd, nI_lit, nI_add, pk_mul, nI_clp, nI_eqv, nI_lev, nI_ltv, nI_neg, nI_neg', nI_subv, Nat.add_zero, Nat.zero_add, Nat.mul_zero, Nat.reduceAdd, bN_rv, bM_ru, bV_rv, bV_rx, bU_ru, bU_rx, bN_ite, bM_ite, bV_ite, bU_ite, ↓bx_e, ↓sp_e, gA_ok, gZ_n, gB_0, gB_1, gB_i, and_true, and_false, true_and, false_and, decide_true, decide_false, ↓reduceIte, not_true_eq_false, not_false_eq_true, Bool.false_eq_true, Bool.true_eq_false, Bool.and_true, Bool.and_false, Bool.true_and, Bool.false_and, Bool.or_true, Bool.or_false, Bool.true_or, Bool.false_or, Bool.not_true, Bool.not_false, le_f, le_t, lt_f, lt_t, eq_f, ↓reduceIte, not_true_eq_false, not_false_eq_true, ite_10, bt_0, bt_1]
theorem RW_add {s : mS} {f : Nat → Int32} {n o T : Nat} {rd wr : Int32} (h : RW s 58 f) (hM : IM T f) (h0 : f 0 = nI n) (hn : n < 5) (ho : o ≤ 1) : RW (sI (clB2 (clA s n rd wr) n o) 59 0 (nI (n + 1))) 58 (adC f n rd wr (nI o)) := by
  obtain ⟨hs, ⟨n', hn', a0, a1, a2, a3, a4⟩, -⟩ := hM
  have en : n' = n := by
    rw [h0] at a0
    exact ((nI_eqv (by omega) (by omega)).mp a0).symm
  subst en
  obtain ⟨h1, ⟨n2, hn2, b0, b1, b2', b3, b4, b5, b6⟩, h3, h4, h5, h6, h7, h8, h9, h10⟩ := h
  have g : ∀ j, j ≠ 0 → (j < 49 + 5 * n' ∨ 49 + 5 * n' + 5 ≤ j) → adC f n' rd wr (nI o) j = f j := fun j x y => adC_n x y
  have c : ∀ b, b ≠ 59 → b ≠ 60 → b ≠ 61 → (sI (clB2 (clA s n' rd wr) n' o) 59 0 (nI (n' + 1))).1 b = s.1 b := fun b x y z => by
    rw [sI_fn x]
    unfold clB2 clA
    split
    · rw [sI_fn z, sI_fn y]
    · rw [sI_fn x, sI_fn z, sI_fn y]
  refine ⟨RS_d h1 (fun b x y => c b (by omega) (by omega) (by omega)) (fun j x y => g j (by omega) (by omega)) (fun j hj hu => ?_), ⟨n' + 1, by omega, adC_0, ?_, fun j => ?_, fun q hq => ?_, fun q hq => ?_, fun q hq => ?_, fun q hq => ?_⟩, RK_c h3 (fun b x y => c b (by omega) (by omega) (by omega)) (fun j x y => g j (by omega) (by omega)), RLg_c h4 (fun b x y => c b (by omega) (by omega) (by omega)) (g 6 (by omega) (by omega)) (fun j x y => g j (by omega) (by omega)), RH_c h5 (fun b x y => c b (by omega) (by omega) (by omega)) (g 7 (by omega) (by omega)) (fun j x y => g j (by omega) (by omega)), ?_, ?_, ?_, ?_, ?_⟩
  · have hl := a4 j hj hu
    exact sOn_c (g _ (by omega) (by omega)) (g _ (by omega) (by omega))
  · rw [show (58 + 1 : Nat) = 59 from rfl, sI_sm, ud_e rfl]
  · rw [show (58 + 1 : Nat) = 59 from rfl, sI_sm, ud_n (by omega)]
    have hz := a2 n' 2 (Nat.le_refl _) hn (by omega)
    have hb := b2' j
    rw [show (58 + 1 : Nat) = 59 from rfl] at hb
    unfold clB2 clA
    have : o = 0 ∨ o = 1 := by omega
    rcases this with e | e <;> subst e
    · rw [if_pos rfl, sI_fn (by omega), sI_fn (by omega), hb]
      by_cases e : j = n'
      · subst e; rw [adC_o, hz]
      · by_cases hj : j < 5
        · rw [g _ (by omega) (by omega)]
        · rw [decide_eq_false hj, Bool.false_and, Bool.false_and]
    · rw [if_neg (by omega), sI_sm, ud_e rfl, b_or, bt_sh (by omega), sI_fn (by omega), sI_fn (by omega), hb]
      by_cases e : j = n'
      · subst e; rw [adC_o, decide_eq_true rfl, decide_eq_true hn, decide_eq_true rfl, Bool.or_true]; rfl
      · rw [decide_eq_false e, Bool.or_false]
        by_cases hj : j < 5
        · rw [g _ (by omega) (by omega)]
        · rw [decide_eq_false hj, Bool.false_and, Bool.false_and]
  · rw [show (58 + 1 + 1 : Nat) = 60 from rfl, sI_fn (by omega)]
    have eC : (clB2 (clA s n' rd wr) n' o).1 60 = upd (s.1 60) n' rd := by
      unfold clB2 clA
      split
      · rw [sI_fn (by omega), sI_sm]
      · rw [sI_fn (by omega), sI_fn (by omega), sI_sm]
    rw [eC]
    by_cases e : q = n'
    · subst e; rw [ud_e rfl, adC_r]
    · rw [ud_n e, g _ (by omega) (by omega)]; exact b3 q hq
  · rw [show (58 + 1 + 2 : Nat) = 61 from rfl, sI_fn (by omega)]
    have eC : (clB2 (clA s n' rd wr) n' o).1 61 = upd (s.1 61) n' wr := by
      unfold clB2 clA
      split
      · rw [sI_sm, sI_fn (by omega)]
      · rw [sI_fn (by omega), sI_sm, sI_fn (by omega)]
    rw [eC]
    by_cases e : q = n'
    · subst e; rw [ud_e rfl, adC_w]
    · rw [ud_n e, g _ (by omega) (by omega)]; exact b4 q hq
  · rw [c _ (by omega) (by omega) (by omega)]
    by_cases e : q = n'
    · subst e; rw [adC_3, b5 q hq, a2 q 3 (Nat.le_refl _) hn (by omega)]
    · rw [g _ (by omega) (by omega)]; exact b5 q hq
  · rw [c _ (by omega) (by omega) (by omega)]
    by_cases e : q = n'
    · subst e; rw [adC_4, b6 q hq, a2 q 4 (Nat.le_refl _) hn (by omega)]
    · rw [g _ (by omega) (by omega)]; exact b6 q hq
  all_goals rw [c 58 (by omega) (by omega) (by omega), g _ (by omega) (by omega)]; assumption
end ST3
