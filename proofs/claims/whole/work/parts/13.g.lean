/-! THE LAW'S TEXT: the class reads sums and atoms -/
def FE (s s' : mS) : Prop := (∀ x, x ≠ 1 → x ≠ 17 → x ≠ 18 → x ≠ 22 → x ≠ 25 → s'.1 x = s.1 x) ∧ (∀ j, j ≠ 2 → s'.1 1 j = s.1 1 j) ∧ (∀ j, j ≠ 3 → j ≠ 4 → s'.1 17 j = s.1 17 j) ∧ (∀ j, j ≠ 1 → s'.1 18 j = s.1 18 j) ∧ s'.2 = s.2
theorem FE_r {s : mS} : FE s s := ⟨fun _ _ _ _ _ _ => rfl, fun _ _ => rfl, fun _ _ _ => rfl, fun _ _ => rfl, rfl⟩
theorem FE_t {s s' s'' : mS} (h : FE s s') (h2 : FE s' s'') : FE s s'' := ⟨fun x a b c d e => (h2.1 x a b c d e).trans (h.1 x a b c d e), fun j a => (h2.2.1 j a).trans (h.2.1 j a), fun j a b => (h2.2.2.1 j a b).trans (h.2.2.1 j a b), fun j a => (h2.2.2.2.1 j a).trans (h.2.2.2.1 j a), h2.2.2.2.2.trans h.2.2.2.2⟩
theorem FE_A {s : mS} {p : Nat} : FE s (cAt s p) := ⟨fun x a _ _ _ _ => cAt_n a, fun j a => by unfold cAt; rw [sI_sm, ud_n a], fun j _ _ => by rw [cAt_n (by omega)], fun j _ => by rw [cAt_n (by omega)], Eq.trans rfl rfl⟩
def DC (s : mS) : Nat → List (Nat × Nat) → Prop
  | _, [] => True
  | c, x :: l => s.1 22 c = cEnc x.1 (nI x.2) ∧ DC s (c + 1) l
theorem DC_c {s s' : mS} : ∀ {l : List (Nat × Nat)} {c : Nat}, DC s c l → (∀ j, j < c + l.length → s'.1 22 j = s.1 22 j) → DC s' c l := by
  intro l
  induction l with
  | nil => intro c _ _; trivial
  | cons x l ih =>
    intro c h hc
    rw [List.length_cons] at hc
    exact ⟨by rw [hc _ (by omega)]; exact h.1, ih h.2 (fun j hj => hc j (by omega))⟩
theorem DC_a {s : mS} : ∀ {l : List (Nat × Nat)} {c : Nat} {r : List (Nat × Nat)}, DC s c l → DC s (c + l.length) r → DC s c (l ++ r) := by
  intro l
  induction l with
  | nil => intro c r _ h; exact h
  | cons x l ih =>
    intro c r h hr
    rw [List.length_cons] at hr
    exact ⟨h.1, ih h.2 (by rw [show c + 1 + l.length = c + (l.length + 1) by omega]; exact hr)⟩
section CL
variable {b : Nat → Nat} {L : Nat}
theorem CP_E {s s' : mS} (h : CP b L s) (hf : FE s s') : CP b L s' := ⟨h.1, h.2.1, by rw [hf.2.1 1 (by omega)]; exact h.2.2.1, fun i hi => by rw [hf.1 2 (by omega) (by omega) (by omega) (by omega) (by omega)]; exact h.2.2.2 i hi⟩
/-- code was added, the tape read on; what waits stayed -/
def SM (s s' : mS) (c : Nat) (l : List (Nat × Nat)) (p' : Nat) : Prop := FE s s' ∧ s'.1 1 2 = nI p' ∧ s'.1 18 1 = nI (c + l.length) ∧ DC s' c l ∧ (∀ j, j < c → s'.1 22 j = s.1 22 j) ∧ s'.1 17 = s.1 17 ∧ s'.1 25 = s.1 25
def QC (s : mS) (c : Nat) (q : Option mQ) (r : LR) : Prop := match r with
  | .inl f => ∃ s', q = rv (nI 0) s' ∧ FE s s' ∧ s'.1 1 2 = nI f
  | .inr (p', l) => ∃ s', q = rv (nI 1) s' ∧ SM s s' c l p'
theorem SM_t {s s1 s2 : mS} {c p1 p2 : Nat} {l1 l2 : List (Nat × Nat)} (h : SM s s1 c l1 p1) (h2 : SM s1 s2 (c + l1.length) l2 p2) : SM s s2 c (l1 ++ l2) p2 := by
  obtain ⟨a1, a2, a3, a4, a5, a6, a7⟩ := h
  obtain ⟨d1, d2, d3, d4, d5, d6, d7⟩ := h2
  exact ⟨FE_t a1 d1, d2, by rw [d3, List.length_append, Nat.add_assoc], DC_a (DC_c a4 (fun j hj => d5 j (by omega))) d4, fun j hj => by rw [d5 j (by omega), a5 j hj], d6.trans a6, d7.trans a7⟩
theorem SM_A {s : mS} {p c : Nat} (h : s.1 18 1 = nI c) : SM s (cAt s p) c [] p := ⟨FE_A, cAt_p, by rw [cAt_n (by omega)]; exact h, trivial, fun j _ => by rw [cAt_n (by omega)], cAt_n (by omega), cAt_n (by omega)⟩
theorem SM_m {s s1 : mS} {c p q : Nat} {l : List (Nat × Nat)} (h : SM s s1 c l p) : SM s (cAt s1 q) c l q := by
  have := SM_t h (SM_A (p := q) h.2.2.1)
  rw [List.append_nil] at this
  exact this
def adS (s : mS) (c : Nat) (x : Int32) : mS := sI (sI s 22 c x) 18 1 (nI (c + 1))
theorem p23 {s : mS} {c : Nat} {x : Int32} (h : s.1 18 1 = nI c) (hc : c < 400) : q23 18 x s = ru (adS s c x) := by
  have e1 : (sI s 22 c x).1 18 1 = nI c := by rw [sI_fn (by omega)]; exact h
  unfold q23 adS
  simp (disch := omega) only [h, e1, Nat.reduceAdd, nI_lit, nI_add, pk_mul, nI_clp, nI_eqv, nI_lev, nI_ltv, nI_neg, nI_neg', nI_subv, Nat.add_zero, Nat.zero_add, Nat.mul_zero, Nat.reduceAdd, bN_rv, bM_ru, bV_rv, bV_rx, bU_ru, bU_rx, bN_ite, bM_ite, bV_ite, bU_ite, ↓bx_e, ↓sp_e, gA_ok, gZ_n, gB_0, gB_1, gB_i, and_true, and_false, true_and, false_and, decide_true, decide_false, ↓reduceIte, not_true_eq_false, not_false_eq_true, Bool.false_eq_true, Bool.true_eq_false, Bool.and_true, Bool.and_false, Bool.true_and, Bool.false_and, Bool.or_true, Bool.or_false, Bool.true_or, Bool.false_or, Bool.not_true, Bool.not_false, le_f, le_t, lt_f, lt_t, eq_f, ↓reduceIte, not_true_eq_false, not_false_eq_true, ite_10, bt_0, bt_1]
theorem SM_d {s : mS} {c p o v : Nat} {x : Int32} (hp : s.1 1 2 = nI p) (hx : x = cEnc o (nI v)) : SM s (adS s c x) c [(o, v)] p := by
  subst hx
  unfold adS
  refine ⟨⟨fun y _ _ a b _ => by rw [sI_fn a, sI_fn b], fun j _ => by rw [sI_fn (by omega), sI_fn (by omega)], fun j _ _ => by rw [sI_fn (by omega), sI_fn (by omega)], fun j hj => by rw [sI_sm, ud_n hj, sI_fn (by omega)], Eq.trans rfl rfl⟩, by rw [sI_fn (by omega), sI_fn (by omega)]; exact hp, by rw [sI_sm, ud_e rfl]; rfl, ⟨by rw [sI_fn (by omega), sI_sm, ud_e rfl], trivial⟩, fun j hj => by rw [sI_fn (by omega), sI_sm, ud_n (by omega)], by rw [sI_fn (by omega), sI_fn (by omega)], by rw [sI_fn (by omega), sI_fn (by omega)]⟩
theorem SM_e {s s1 : mS} {c p o v : Nat} {x : Int32} {l : List (Nat × Nat)} (h : SM s s1 c l p) (hx : x = cEnc o (nI v)) : SM s (adS s1 (c + l.length) x) c (l ++ [(o, v)]) p := SM_t h (SM_d h.2.1 hx)
def ofF (o : Option Nat) : Int32 := match o with
  | none => -nI 1
  | some k => nI (1000 + k)
def atF (b : Nat → Nat) (L p : Nat) (o : Option Nat) : Nat := match o with
  | none => p
  | some _ => sk b L (lw b L p)
theorem p40 {s : mS} {p : Nat} (h : CP b L s) (hp : s.1 1 2 = nI p) (hpL : p ≤ L) : q40 s = rv (ofF (factS b L p)) (cAt s (atF b L p (factS b L p))) := by
  have k : ∀ tx, tx < 22 → tx ≠ 7 → tx ≠ 8 → q105 tx s = rv (b2 (wd b L tx p)) (cAt s (if wd b L tx p = true then sk b L (lw b L p) else p)) := fun tx a1 a2 a3 => by
    have := p105 (tx := tx) h hp hpL a1 a2 a3
    rw [this]
    cases e : wd b L tx p with
    | false => rfl
    | true => rw [if_pos rfl, if_pos rfl, wd_l e]
  have cs : cAt s p = s := cAt_i hp
  have k16 := k 16 (by omega) (by omega) (by omega)
  have k0 := k 0 (by omega) (by omega) (by omega)
  have k17 := k 17 (by omega) (by omega) (by omega)
  have k1 := k 1 (by omega) (by omega) (by omega)
  have k2 := k 2 (by omega) (by omega) (by omega)
  have k18 := k 18 (by omega) (by omega) (by omega)
  have k19 := k 19 (by omega) (by omega) (by omega)
  unfold q40 factS
  rw [k16, bN_rv]
  cases wd b L 16 p with
  | true => rw [b2_t, if_neg (show ¬ nI 1 = 0 by decide), if_pos rfl, if_pos rfl]; rfl
  | false =>
  rw [b2_f, if_pos (show nI 0 = 0 from rfl), if_neg (show ¬ (false = true) by decide), if_neg (show ¬ (false = true) by decide), cs, k0, bN_rv]
  cases wd b L 0 p with
  | true => rw [b2_t, if_neg (show ¬ nI 1 = 0 by decide), if_pos rfl, if_pos rfl]; rfl
  | false =>
  rw [b2_f, if_pos (show nI 0 = 0 from rfl), if_neg (show ¬ (false = true) by decide), if_neg (show ¬ (false = true) by decide), cs, k17, bN_rv]
  cases wd b L 17 p with
  | true => rw [b2_t, if_neg (show ¬ nI 1 = 0 by decide), if_pos rfl, if_pos rfl]; rfl
  | false =>
  rw [b2_f, if_pos (show nI 0 = 0 from rfl), if_neg (show ¬ (false = true) by decide), if_neg (show ¬ (false = true) by decide), cs, k1, bN_rv]
  cases wd b L 1 p with
  | true => rw [b2_t, if_neg (show ¬ nI 1 = 0 by decide), if_pos rfl, if_pos rfl]; rfl
  | false =>
  rw [b2_f, if_pos (show nI 0 = 0 from rfl), if_neg (show ¬ (false = true) by decide), if_neg (show ¬ (false = true) by decide), cs, k2, bN_rv]
  cases wd b L 2 p with
  | true => rw [b2_t, if_neg (show ¬ nI 1 = 0 by decide), if_pos rfl, if_pos rfl]; rfl
  | false =>
  rw [b2_f, if_pos (show nI 0 = 0 from rfl), if_neg (show ¬ (false = true) by decide), if_neg (show ¬ (false = true) by decide), cs, k18, bN_rv]
  cases wd b L 18 p with
  | true => rw [b2_t, if_neg (show ¬ nI 1 = 0 by decide), if_pos rfl, if_pos rfl]; rfl
  | false =>
  rw [b2_f, if_pos (show nI 0 = 0 from rfl), if_neg (show ¬ (false = true) by decide), if_neg (show ¬ (false = true) by decide), cs, k19, bN_rv]
  cases wd b L 19 p with
  | true => rw [b2_t, if_neg (show ¬ nI 1 = 0 by decide), if_pos rfl, if_pos rfl]; rfl
  | false =>
  rw [b2_f, if_pos (show nI 0 = 0 from rfl), if_neg (show ¬ (false = true) by decide), if_neg (show ¬ (false = true) by decide), cs]
  show rv (-1) s = rv (-nI 1) (cAt s p)
  rw [cs]; rfl
theorem p39 {s : mS} {p : Nat} (h : CP b L s) (hp : s.1 1 2 = nI p) (hpL : p ≤ L) : q39 s = rv (oI (tagS b L p)) (cAt s (atF b L p (tagS b L p))) := by
  have k : ∀ tx, tx < 22 → tx ≠ 7 → tx ≠ 8 → q105 tx s = rv (b2 (wd b L tx p)) (cAt s (if wd b L tx p = true then sk b L (lw b L p) else p)) := fun tx a1 a2 a3 => by
    have := p105 (tx := tx) h hp hpL a1 a2 a3
    rw [this]
    cases e : wd b L tx p with
    | false => rfl
    | true => rw [if_pos rfl, if_pos rfl, wd_l e]
  have cs : cAt s p = s := cAt_i hp
  have k3 := k 3 (by omega) (by omega) (by omega)
  have k14 := k 14 (by omega) (by omega) (by omega)
  have k15 := k 15 (by omega) (by omega) (by omega)
  unfold q39 tagS
  rw [k3, bN_rv]
  cases wd b L 3 p with
  | true => rw [b2_t, if_neg (show ¬ nI 1 = 0 by decide), if_pos rfl, if_pos rfl]; rfl
  | false =>
  rw [b2_f, if_pos (show nI 0 = 0 from rfl), if_neg (show ¬ (false = true) by decide), if_neg (show ¬ (false = true) by decide), cs, k14, bN_rv]
  cases wd b L 14 p with
  | true => rw [b2_t, if_neg (show ¬ nI 1 = 0 by decide), if_pos rfl, if_pos rfl]; rfl
  | false =>
  rw [b2_f, if_pos (show nI 0 = 0 from rfl), if_neg (show ¬ (false = true) by decide), if_neg (show ¬ (false = true) by decide), cs, k15, bN_rv]
  cases wd b L 15 p with
  | true => rw [b2_t, if_neg (show ¬ nI 1 = 0 by decide), if_pos rfl, if_pos rfl]; rfl
  | false =>
  rw [b2_f, if_pos (show nI 0 = 0 from rfl), if_neg (show ¬ (false = true) by decide), if_neg (show ¬ (false = true) by decide), cs]
  show rv (-1) s = rv (-1) (cAt s p)
  rw [cs]
/-- a part of a sum: what the class takes -/
def ptE (k2 : Int32 → mS → Option mQ) (v1 : Int32) (s : mS) : Option mQ := bN (q108 (nI 999) s) fun x7 s6 => if ¬ x7 = (-nI 1 : Int32) then (q38_30 k2 v1 x7 s6) else (bN (q40 s6) fun x9 s8 => q38_30 k2 v1 x9 s8)
theorem p38_2e {n : Nat} {v1 : Int32} {s : mS} : q38_2 (n + 1) v1 s = if nI 400 ≤ v1 then rv (nI 0) s else ptE (q38_2 n) v1 s := rfl
theorem cE_l {v : Nat} : cEnc 10 (nI v) = nI v := if_pos rfl
theorem cE_k {k : Nat} {n : Int32} (h : k < 10) : cEnc k n = nI (1000 + k) := by unfold cEnc; rw [if_neg (by omega), if_pos h]
theorem dg_lw {p : Nat} (hpL : p ≤ L) (h : ¬ lw b L p = p) : dg b L p = p := by
  obtain ⟨l1, l2, l3, l4⟩ := lw_p (b := b) hpL
  have := isB_t (l3 p (Nat.le_refl _) (by omega))
  refine rB_u (Nat.le_refl _) hpL (fun i a c => by omega) ?_
  cases e : isB b L 48 57 p with
  | false => rfl
  | true => have := isB_t e; omega
theorem fact_n {p : Nat} (h : lw b L p = p) : factS b L p = none := by
  have w : ∀ tx, tx < 22 → tx ≠ 7 → tx ≠ 8 → wd b L tx p = false := fun tx a1 a2 a3 => by
    cases e : wd b L tx p with
    | false => rfl
    | true => have := wd_l e; have := (tx_ok tx a1 a2 a3).1; omega
  unfold factS
  rw [w 16 (by omega) (by omega) (by omega), w 0 (by omega) (by omega) (by omega), w 17 (by omega) (by omega) (by omega), w 1 (by omega) (by omega) (by omega), w 2 (by omega) (by omega) (by omega), w 18 (by omega) (by omega) (by omega), w 19 (by omega) (by omega) (by omega)]
  rfl
theorem p38_pt {s : mS} {p : Nat} {k2 : Int32 → mS → Option mQ} {v1 : Int32} (h : CP b L s) (hp : s.1 1 2 = nI p) (hpL : p ≤ L) : match partS b L p with
    | .inl f => f = p ∧ ptE k2 v1 s = rv (nI 0) s
    | .inr (p', l) => ∃ o v, l = [(o, v)] ∧ v < 1000 ∧ o ≤ 10 ∧ ptE k2 v1 s = q38_30 k2 v1 (cEnc o (nI v)) (cAt s p') ∧ ¬ cEnc o (nI v) = -nI 1 := by
  have k8 := p108 (hi := 999) h hp hpL (by omega)
  have k4 := p40 h hp hpL
  have cs : cAt s p = s := cAt_i hp
  unfold partS ptE
  by_cases e : lw b L p = p
  · rw [if_pos e]
    cases en : nm b L 999 p with
    | none =>
      rw [en, show oI none = -nI 1 from rfl, if_neg (show ¬ (none : Option Nat).isSome = true by decide), cs] at k8
      rw [fact_n e] at k4
      have k4 : q40 s = rv (-nI 1) s := k4.trans (by show rv (-nI 1) (cAt s p) = _; rw [cs])
      refine ⟨rfl, ?_⟩
      unfold q38_30
      simp (disch := omega) only [k8, k4, nI_lit, nI_add, pk_mul, nI_clp, nI_eqv, nI_lev, nI_ltv, nI_neg, nI_neg', nI_subv, Nat.add_zero, Nat.zero_add, Nat.mul_zero, Nat.reduceAdd, bN_rv, bM_ru, bV_rv, bV_rx, bU_ru, bU_rx, bN_ite, bM_ite, bV_ite, bU_ite, ↓bx_e, ↓sp_e, gA_ok, gZ_n, gB_0, gB_1, gB_i, and_true, and_false, true_and, false_and, decide_true, decide_false, ↓reduceIte, not_true_eq_false, not_false_eq_true, Bool.false_eq_true, Bool.true_eq_false, Bool.and_true, Bool.and_false, Bool.true_and, Bool.false_and, Bool.or_true, Bool.or_false, Bool.true_or, Bool.false_or, Bool.not_true, Bool.not_false, le_f, le_t, lt_f, lt_t, eq_f, ↓reduceIte, not_true_eq_false, not_false_eq_true, ite_10, bt_0, bt_1]
    | some v =>
      have hv := nm_p en
      rw [en, show oI (some v) = nI v from rfl, if_pos (show (some v).isSome = true from rfl)] at k8
      refine ⟨10, v, rfl, by omega, by omega, ?_, by rw [cE_l, nI_neg (by omega)]; exact fun q => q⟩
      rw [k8, bN_rv, if_pos (by rw [nI_neg (by omega)]; exact fun q => q), cE_l]
  · rw [if_neg e]
    have en : nm b L 999 p = none := by unfold nm; rw [if_pos (Or.inl (dg_lw hpL e))]
    rw [en, show oI none = -nI 1 from rfl, if_neg (show ¬ (none : Option Nat).isSome = true by decide), cs] at k8
    cases ef : factS b L p with
    | none =>
      rw [ef] at k4
      have k4 : q40 s = rv (-nI 1) s := k4.trans (by show rv (-nI 1) (cAt s p) = _; rw [cs])
      refine ⟨rfl, ?_⟩
      unfold q38_30
      simp (disch := omega) only [k8, k4, nI_lit, nI_add, pk_mul, nI_clp, nI_eqv, nI_lev, nI_ltv, nI_neg, nI_neg', nI_subv, Nat.add_zero, Nat.zero_add, Nat.mul_zero, Nat.reduceAdd, bN_rv, bM_ru, bV_rv, bV_rx, bU_ru, bU_rx, bN_ite, bM_ite, bV_ite, bU_ite, ↓bx_e, ↓sp_e, gA_ok, gZ_n, gB_0, gB_1, gB_i, and_true, and_false, true_and, false_and, decide_true, decide_false, ↓reduceIte, not_true_eq_false, not_false_eq_true, Bool.false_eq_true, Bool.true_eq_false, Bool.and_true, Bool.and_false, Bool.true_and, Bool.false_and, Bool.or_true, Bool.or_false, Bool.true_or, Bool.false_or, Bool.not_true, Bool.not_false, le_f, le_t, lt_f, lt_t, eq_f, ↓reduceIte, not_true_eq_false, not_false_eq_true, ite_10, bt_0, bt_1]
    | some k =>
      have hk := fact_l hpL ef
      rw [ef] at k4
      have k4 : q40 s = rv (nI (1000 + k)) (cAt s (sk b L (lw b L p))) := k4
      refine ⟨k, 0, rfl, by omega, by omega, ?_, by rw [cE_k (by omega), nI_neg (by omega)]; exact fun q => q⟩
      rw [k8, bN_rv, if_neg (not_not_intro rfl), k4, bN_rv, cE_k (by omega)]
theorem p38_59 {s0 : mS} {c : Nat} (h0 : CP b L s0) : ∀ m p l s i N, SM s0 s c l p → c + l.length < p → p ≤ L → sk b L p = p → i < p → L ≤ p + m → m < N → QC s0 c (q38_59 (q38_2 N) (nI i) s) (sumR b L m p l) := by
  have hL := h0.1
  intro m
  induction m with
  | zero =>
    intro p l s i N hS hc hpL hs hi hm hN
    have k := p104 (c := 43) (CP_E h0 hS.1) hS.2.1 hpL (by omega)
    rw [isB_L (by omega), b2_f, if_neg (show ¬ (false = true) by decide)] at k
    rw [sumR]
    refine ⟨cAt s p, ?_, SM_m hS⟩
    unfold q38_59
    simp (disch := omega) only [k, nI_lit, nI_add, pk_mul, nI_clp, nI_eqv, nI_lev, nI_ltv, nI_neg, nI_neg', nI_subv, Nat.add_zero, Nat.zero_add, Nat.mul_zero, Nat.reduceAdd, bN_rv, bM_ru, bV_rv, bV_rx, bU_ru, bU_rx, bN_ite, bM_ite, bV_ite, bU_ite, ↓bx_e, ↓sp_e, gA_ok, gZ_n, gB_0, gB_1, gB_i, and_true, and_false, true_and, false_and, decide_true, decide_false, ↓reduceIte, not_true_eq_false, not_false_eq_true, Bool.false_eq_true, Bool.true_eq_false, Bool.and_true, Bool.and_false, Bool.true_and, Bool.false_and, Bool.or_true, Bool.or_false, Bool.true_or, Bool.false_or, Bool.not_true, Bool.not_false, le_f, le_t, lt_f, lt_t, eq_f, ↓reduceIte, not_true_eq_false, not_false_eq_true, ite_10, bt_0, bt_1]
  | succ m ih =>
    intro p l s i N hS hc hpL hs hi hm hN
    have k := p104 (c := 43) (CP_E h0 hS.1) hS.2.1 hpL (by omega)
    rw [sumR]
    cases e : isB b L 43 43 p with
    | false =>
      rw [e, b2_f, if_neg (show ¬ (false = true) by decide)] at k
      rw [if_neg (show ¬ (false = true) by decide)]
      refine ⟨cAt s p, ?_, SM_m hS⟩
      unfold q38_59
      simp (disch := omega) only [k, nI_lit, nI_add, pk_mul, nI_clp, nI_eqv, nI_lev, nI_ltv, nI_neg, nI_neg', nI_subv, Nat.add_zero, Nat.zero_add, Nat.mul_zero, Nat.reduceAdd, bN_rv, bM_ru, bV_rv, bV_rx, bU_ru, bU_rx, bN_ite, bM_ite, bV_ite, bU_ite, ↓bx_e, ↓sp_e, gA_ok, gZ_n, gB_0, gB_1, gB_i, and_true, and_false, true_and, false_and, decide_true, decide_false, ↓reduceIte, not_true_eq_false, not_false_eq_true, Bool.false_eq_true, Bool.true_eq_false, Bool.and_true, Bool.and_false, Bool.true_and, Bool.false_and, Bool.or_true, Bool.or_false, Bool.true_or, Bool.false_or, Bool.not_true, Bool.not_false, le_f, le_t, lt_f, lt_t, eq_f, ↓reduceIte, not_true_eq_false, not_false_eq_true, ite_10, bt_0, bt_1]
    | true =>
      have hq := isB_t e
      rw [e, b2_t, if_pos rfl] at k
      rw [if_pos rfl]
      obtain ⟨s1, s2, -, s4⟩ := sk_p (b := b) (show p + 1 ≤ L by omega)
      have hS2 := SM_m (q := sk b L (p + 1)) hS
      obtain ⟨N, rfl⟩ : ∃ M, N = M + 1 := ⟨N - 1, by omega⟩
      have k2 := p38_pt (k2 := q38_2 N) (v1 := nI (i + 1)) (CP_E h0 hS2.1) hS2.2.1 s2
      have kk := part_k (b := b) s2 s4
      have e38 : q38_59 (q38_2 (N + 1)) (nI i) s = ptE (q38_2 N) (nI (i + 1)) (cAt s (sk b L (p + 1))) := by
        unfold q38_59
        simp (disch := omega) only [k, p38_2e, nI_lit, nI_add, pk_mul, nI_clp, nI_eqv, nI_lev, nI_ltv, nI_neg, nI_neg', nI_subv, Nat.add_zero, Nat.zero_add, Nat.mul_zero, Nat.reduceAdd, bN_rv, bM_ru, bV_rv, bV_rx, bU_ru, bU_rx, bN_ite, bM_ite, bV_ite, bU_ite, ↓bx_e, ↓sp_e, gA_ok, gZ_n, gB_0, gB_1, gB_i, and_true, and_false, true_and, false_and, decide_true, decide_false, ↓reduceIte, not_true_eq_false, not_false_eq_true, Bool.false_eq_true, Bool.true_eq_false, Bool.and_true, Bool.and_false, Bool.true_and, Bool.false_and, Bool.or_true, Bool.or_false, Bool.true_or, Bool.false_or, Bool.not_true, Bool.not_false, le_f, le_t, lt_f, lt_t, eq_f, ↓reduceIte, not_true_eq_false, not_false_eq_true, ite_10, bt_0, bt_1]
      cases e2 : partS b L (sk b L (p + 1)) with
      | inl f =>
        rw [e2] at k2
        refine ⟨_, e38.trans k2.2, hS2.1, ?_⟩
        rw [k2.1]; exact hS2.2.1
      | inr x =>
        rw [e2] at k2 kk
        obtain ⟨o, v, f1, f2, f3, f4, f5⟩ := k2
        obtain ⟨k1, k2', k3, k4, k5⟩ := kk
        rw [f1] at k4
        have k4 : sk b L (p + 1) + 1 ≤ x.1 := k4
        have hS3 := SM_m (q := x.1) hS
        have hS4 := SM_e (o := o) (v := v) hS3 rfl
        have hS5 := SM_e (o := 11) (v := 0) (x := nI 2003) hS4 (by decide)
        have a1 := p23 (x := cEnc o (nI v)) hS3.2.2.1 (by omega)
        have a2 := p23 (x := nI 2003) hS4.2.2.1 (by simp only [List.length_append, List.length_cons, List.length_nil]; omega)
        rw [List.append_assoc, ← f1] at hS5
        have i1 := ih x.1 _ _ (i + 1) N hS5 (by rw [f1]; simp only [List.length_append, List.length_cons, List.length_nil]; omega) k2' k3 (by omega) (by omega) (by omega)
        rw [← f1] at a2
        rw [e38, f4]
        unfold q38_30
        rw [cAt_2]
        simp (disch := omega) only [f5, a1, a2, nI_lit, nI_add, pk_mul, nI_clp, nI_eqv, nI_lev, nI_ltv, nI_neg, nI_neg', nI_subv, Nat.add_zero, Nat.zero_add, Nat.mul_zero, Nat.reduceAdd, bN_rv, bM_ru, bV_rv, bV_rx, bU_ru, bU_rx, bN_ite, bM_ite, bV_ite, bU_ite, ↓bx_e, ↓sp_e, gA_ok, gZ_n, gB_0, gB_1, gB_i, and_true, and_false, true_and, false_and, decide_true, decide_false, ↓reduceIte, not_true_eq_false, not_false_eq_true, Bool.false_eq_true, Bool.true_eq_false, Bool.and_true, Bool.and_false, Bool.true_and, Bool.false_and, Bool.or_true, Bool.or_false, Bool.true_or, Bool.false_or, Bool.not_true, Bool.not_false, le_f, le_t, lt_f, lt_t, eq_f, ↓reduceIte, not_true_eq_false, not_false_eq_true, ite_10, bt_0, bt_1]
        exact i1
theorem p38 {s : mS} {p c : Nat} (h : CP b L s) (hp : s.1 1 2 = nI p) (hpL : p ≤ L) (hs : sk b L p = p) (h18 : s.1 18 1 = nI c) (hc : c < p) : QC s c (q38 s) (sumS b L p) := by
  have hL := h.1
  have k2 := p38_pt (k2 := q38_2 9999) (v1 := nI 0) h hp hpL
  have kk := part_k (b := b) hpL hs
  have e38 : q38 s = ptE (q38_2 9999) (nI 0) s := by
    have := p38_2e (n := 9999) (v1 := nI 0) (s := s)
    unfold q38
    rw [if_neg (by decide)] at this
    exact this
  unfold sumS
  cases e2 : partS b L p with
  | inl f =>
    rw [e2] at k2
    exact ⟨s, e38.trans k2.2, FE_r, by rw [k2.1]; exact hp⟩
  | inr x =>
    rw [e2] at k2 kk
    obtain ⟨o, v, f1, f2, f3, f4, f5⟩ := k2
    obtain ⟨k1, k2', k3, k4, k5⟩ := kk
    rw [f1] at k4
    have k4 : p + 1 ≤ x.1 := k4
    have hS3 := SM_A (p := x.1) h18
    have hS4 := SM_e (o := o) (v := v) hS3 rfl
    have a1 := p23 (x := cEnc o (nI v)) hS3.2.2.1 (show c + 0 < 400 by omega)
    rw [List.nil_append, ← f1] at hS4
    have i1 := p38_59 h L x.1 x.2 _ 0 9999 hS4 (by rw [f1]; show c + 1 < _; omega) k2' k3 (by omega) (by omega) (by omega)
    rw [e38, f4]
    unfold q38_30
    simp (disch := omega) only [f5, a1, nI_lit, nI_add, pk_mul, nI_clp, nI_eqv, nI_lev, nI_ltv, nI_neg, nI_neg', nI_subv, Nat.add_zero, Nat.zero_add, Nat.mul_zero, Nat.reduceAdd, bN_rv, bM_ru, bV_rv, bV_rx, bU_ru, bU_rx, bN_ite, bM_ite, bV_ite, bU_ite, ↓bx_e, ↓sp_e, gA_ok, gZ_n, gB_0, gB_1, gB_i, and_true, and_false, true_and, false_and, decide_true, decide_false, ↓reduceIte, not_true_eq_false, not_false_eq_true, Bool.false_eq_true, Bool.true_eq_false, Bool.and_true, Bool.and_false, Bool.true_and, Bool.false_and, Bool.or_true, Bool.or_false, Bool.true_or, Bool.false_or, Bool.not_true, Bool.not_false, le_f, le_t, lt_f, lt_t, eq_f, ↓reduceIte, not_true_eq_false, not_false_eq_true, ite_10, bt_0, bt_1]
    exact i1
end CL
