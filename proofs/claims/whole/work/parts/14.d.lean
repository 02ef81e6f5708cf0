/-! THE STORE'S TEXT: a line of the class, a line of the reference -/
section ST4
variable {b : Nat → Nat} {L : Nat}
def SCl (b : Nat → Nat) (L : Nat) (s : mS) (q : Option mQ) (r : SR) : Prop := match r with
  | .inl f => ∃ s' x, q = rv x s' ∧ FS s s' ∧ s'.1 1 2 = nI f ∧ (x = nI 0 ∨ (x = nI 1 ∧ f ≠ L ∧ isB b L 59 59 f = false))
  | .inr (p', g) => ∃ s', q = rv (nI 1) s' ∧ FS s s' ∧ s'.1 1 2 = nI p' ∧ RW s' 58 g
theorem p96 {s : mS} {p T B : Nat} {f : Nat → Int32} (h : CP b L s) (hp : s.1 1 2 = nI p) (hpL : p ≤ L) (hR : RW s 58 f) (hI : IB T B f) : SCl b L s (q96 58 s) (verT b L p f) := by
  have hw := hI.1.1.1.1
  have cs : cAt s p = s := cAt_i hp
  have k7 := p107 (hi := 9) h hp hpL (by omega)
  unfold verT q96
  cases en : nm b L 9 p with
  | none =>
    rw [en, show oI none = -nI 1 from rfl] at k7
    refine ⟨s, nI 0, ?_, ⟨fun _ _ _ => rfl, fun _ _ => rfl, rfl⟩, hp, Or.inl rfl⟩
    simp (disch := omega) only [k7, nI_lit, nI_add, pk_mul, nI_clp, nI_eqv, nI_lev, nI_ltv, nI_neg, nI_neg', nI_subv, Nat.add_zero, Nat.zero_add, Nat.mul_zero, Nat.reduceAdd, bN_rv, bM_ru, bV_rv, bV_rx, bU_ru, bU_rx, bN_ite, bM_ite, bV_ite, bU_ite, ↓bx_e, ↓sp_e, gA_ok, gZ_n, gB_0, gB_1, gB_i, and_true, and_false, true_and, false_and, decide_true, decide_false, ↓reduceIte, not_true_eq_false, not_false_eq_true, Bool.false_eq_true, Bool.true_eq_false, Bool.and_true, Bool.and_false, Bool.true_and, Bool.false_and, Bool.or_true, Bool.or_false, Bool.true_or, Bool.false_or, Bool.not_true, Bool.not_false, le_f, le_t, lt_f, lt_t, eq_f, ↓reduceIte, not_true_eq_false, not_false_eq_true, ite_10, bt_0, bt_1]
  | some k =>
    have hk := nm_p en
    obtain ⟨d1, d2, -, -⟩ := dg_p (b := b) hpL
    obtain ⟨r1, r2, r3, r4⟩ := sk_p (b := b) d2
    rw [en, show oI (some k) = nI k from rfl] at k7
    have k72 : q72 64 (nI k) s = rv (oI (sWri f k)) s := p72 hR.1 (show k < 10 by omega)
    have k8 := p108 (hi := 9) h hp hpL (by omega)
    rw [en, show oI (some k) = nI k from rfl, if_pos (show (some k).isSome = true from rfl)] at k8
    dsimp only
    cases ew : sWri f k with
    | some w =>
      rw [if_neg (show ¬ (some w : Option Nat) = none from fun q => by (cases q))]
      have hw8 : w < 8 := by have := (fs_some ew).2.1; omega
      rw [ew, show oI (some w) = nI w from rfl] at k72
      refine ⟨s, nI 0, ?_, ⟨fun _ _ _ => rfl, fun _ _ => rfl, rfl⟩, hp, Or.inl rfl⟩
      simp (disch := omega) only [k7, k72, Nat.reduceAdd, nI_lit, nI_add, pk_mul, nI_clp, nI_eqv, nI_lev, nI_ltv, nI_neg, nI_neg', nI_subv, Nat.add_zero, Nat.zero_add, Nat.mul_zero, Nat.reduceAdd, bN_rv, bM_ru, bV_rv, bV_rx, bU_ru, bU_rx, bN_ite, bM_ite, bV_ite, bU_ite, ↓bx_e, ↓sp_e, gA_ok, gZ_n, gB_0, gB_1, gB_i, and_true, and_false, true_and, false_and, decide_true, decide_false, ↓reduceIte, not_true_eq_false, not_false_eq_true, Bool.false_eq_true, Bool.true_eq_false, Bool.and_true, Bool.and_false, Bool.true_and, Bool.false_and, Bool.or_true, Bool.or_false, Bool.true_or, Bool.false_or, Bool.not_true, Bool.not_false, le_f, le_t, lt_f, lt_t, eq_f, ↓reduceIte, not_true_eq_false, not_false_eq_true, ite_10, bt_0, bt_1]
    | none =>
      rw [if_pos rfl]
      rw [ew, show oI none = -nI 1 from rfl] at k72
      have k9 := p108 (hi := 999) (cAt_C (p := sk b L (dg b L p)) h) cAt_p r2 (by omega)
      cases e2 : nm b L 999 (sk b L (dg b L p)) with
      | none =>
        rw [e2, show oI none = -nI 1 from rfl, if_neg (show ¬ (none : Option Nat).isSome = true by decide), cAt_2] at k9
        refine ⟨cAt s (sk b L (dg b L p)), nI 0, ?_, FS_A, cAt_p, Or.inl rfl⟩
        simp (disch := omega) only [k7, k72, k8, k9, Nat.reduceAdd, nI_lit, nI_add, pk_mul, nI_clp, nI_eqv, nI_lev, nI_ltv, nI_neg, nI_neg', nI_subv, Nat.add_zero, Nat.zero_add, Nat.mul_zero, Nat.reduceAdd, bN_rv, bM_ru, bV_rv, bV_rx, bU_ru, bU_rx, bN_ite, bM_ite, bV_ite, bU_ite, ↓bx_e, ↓sp_e, gA_ok, gZ_n, gB_0, gB_1, gB_i, and_true, and_false, true_and, false_and, decide_true, decide_false, ↓reduceIte, not_true_eq_false, not_false_eq_true, Bool.false_eq_true, Bool.true_eq_false, Bool.and_true, Bool.and_false, Bool.true_and, Bool.false_and, Bool.or_true, Bool.or_false, Bool.true_or, Bool.false_or, Bool.not_true, Bool.not_false, le_f, le_t, lt_f, lt_t, eq_f, ↓reduceIte, not_true_eq_false, not_false_eq_true, ite_10, bt_0, bt_1]
      | some v =>
        have hv := nm_p e2
        rw [e2, show oI (some v) = nI v from rfl, if_pos (show (some v).isSome = true from rfl), cAt_2] at k9
        generalize sk b L (dg b L (sk b L (dg b L p))) = p3 at *
        have hk8 : (cAt s p3).1 86 k = f (9 + 4 * k) := by rw [cAt_n (by omega)]; exact (hR.2.2.1 k (by omega)).1
        refine ⟨sI (cAt s p3) 86 k (mnI (nI 9999) (f (9 + 4 * k) + nI v)), ?_, FS_t FS_A (FS_I (by omega)), by rw [sI_fn (by omega)]; exact cAt_p, RW_ver (RW_A hR hw) hw (by omega)⟩
        simp (disch := omega) only [k7, k72, k8, k9, hk8, Nat.reduceAdd, nI_lit, nI_add, pk_mul, nI_clp, nI_eqv, nI_lev, nI_ltv, nI_neg, nI_neg', nI_subv, Nat.add_zero, Nat.zero_add, Nat.mul_zero, Nat.reduceAdd, bN_rv, bM_ru, bV_rv, bV_rx, bU_ru, bU_rx, bN_ite, bM_ite, bV_ite, bU_ite, ↓bx_e, ↓sp_e, gA_ok, gZ_n, gB_0, gB_1, gB_i, and_true, and_false, true_and, false_and, decide_true, decide_false, ↓reduceIte, not_true_eq_false, not_false_eq_true, Bool.false_eq_true, Bool.true_eq_false, Bool.and_true, Bool.and_false, Bool.true_and, Bool.false_and, Bool.or_true, Bool.or_false, Bool.true_or, Bool.false_or, Bool.not_true, Bool.not_false, le_f, le_t, lt_f, lt_t, eq_f, ↓reduceIte, not_true_eq_false, not_false_eq_true, ite_10, bt_0, bt_1]
theorem p93_num {s : mS} {p hi w at_ T B : Nat} {f : Nat → Int32} {K : Int32 → Int32 → mS → Option mQ} (h : CP b L s) (hpL : p ≤ L) (hR : RW s 58 f) (hI : IB T B f) (hhi : hi < 10000) (ha : (w = 10 ∧ at_ = 4) ∨ (w = 11 ∧ at_ = 5)) (hK : ∀ x y s, K x y s = if x = -nI 1 then rv (nI 0) (sI s 58 w y) else rv (nI 1) (sI s 58 w y)) : SCl b L s (bN (q108 (nI hi) (cAt s p)) fun x10 s9 => if ¬ x10 = -nI 1 then K x10 x10 s9 else K x10 (s9.1 58 w) s9) (numT b L hi at_ p f) := by
  have hw := hI.1.1.1.1
  have k8 := p108 (hi := hi) (cAt_C (p := p) h) cAt_p hpL hhi
  unfold numT
  cases en : nm b L hi p with
  | none =>
    rw [en, show oI none = -nI 1 from rfl, if_neg (show ¬ (none : Option Nat).isSome = true by decide), cAt_2] at k8
    refine ⟨cAt s p, nI 0, ?_, FS_A, cAt_p, Or.inl rfl⟩
    rw [k8, bN_rv, if_neg (not_not_intro rfl), hK, if_pos rfl, sI_id rfl]
  | some v =>
    have hv := nm_p en
    rw [en, show oI (some v) = nI v from rfl, if_pos (show (some v).isSome = true from rfl), cAt_2] at k8
    have hne : ¬ nI v = -nI 1 := by rw [nI_neg (by omega)]; exact fun q => q
    refine ⟨sI (cAt s (sk b L (dg b L p))) 58 w (nI v), ?_, FS_t FS_A (FS_I (by omega)), by rw [sI_fn (by omega)]; exact cAt_p, RW_num (RW_A hR hw) hw ha⟩
    rw [k8, bN_rv, if_pos hne, hK, if_neg hne]
/-- keys behind a word that may stand there, in the class -/
theorem p_keys {s : mS} {p tx : Nat} {w0 : Int32} {K : Int32 → mS → Option mQ} (h : CP b L s) (hpL : p ≤ L) (h1 : tx < 22) (h7 : tx ≠ 7) (h8 : tx ≠ 8) : (bN (q105 tx (cAt s p)) fun x9 s8 => if x9 = 0 then K (nI 0) s8 else bN (q95 s8) fun x11 s10 => K x11 s10) = match keysW b L tx p with
    | .inl f => K (-nI 1) (cAt s f)
    | .inr (p', w) => K w (cAt s p') := by
  have k := p105 (tx := tx) (cAt_C (p := p) h) cAt_p hpL h1 h7 h8
  rw [cAt_2] at k
  unfold keysW
  cases e : wd b L tx p with
  | false =>
    rw [e, b2_f, if_neg (show ¬ (false = true) by decide)] at k
    rw [if_neg (show ¬ (false = true) by decide), k, bN_rv, if_pos (show nI 0 = 0 from rfl)]
  | true =>
    have hq := wd_p hpL e
    rw [e, b2_t, if_pos rfl] at k
    rw [if_pos rfl, k, bN_rv, if_neg (show ¬ nI 1 = 0 by decide)]
    obtain ⟨r1, r2, r3, r4⟩ := sk_p (b := b) hq.1
    rw [p95 h r2]
    cases keysR b L 10 (sk b L (p + tln tx)) (nI 0) with
    | inl f => rw [bN_rv]
    | inr x => rw [bN_rv]
theorem p94 {s : mS} {p n T B : Nat} {f : Nat → Int32} (h : CP b L s) (hpL : p ≤ L) (hs : sk b L p = p) (hR : RW s 58 f) (hI : IB T B f) (h0 : f 0 = nI n) (hn : n < 5) : SCl b L s (q94 59 (cAt s p)) (clT b L n p f) := by
  have hw := hI.1.1.1.1
  have k1 := keysW_k (b := b) (L := L) (tx := 1) (by omega) (by omega) (by omega) hpL hs
  have e1 := p_keys (w0 := nI 0) (K := fun x s => q94_21 59 x (nI 0) s) (tx := 1) h hpL (by omega) (by omega) (by omega)
  have e1' : q94 59 (cAt s p) = _ := e1
  rw [e1']
  unfold clT
  cases qk1 : keysW b L 1 p with
  | inl q =>
    refine ⟨cAt s q, nI 0, ?_, FS_A, cAt_p, Or.inl rfl⟩
    show q94_21 59 (-nI 1) (nI 0) (cAt s q) = _
    unfold q94_21 q94_43
    simp (disch := omega) only [nI_lit, nI_add, pk_mul, nI_clp, nI_eqv, nI_lev, nI_ltv, nI_neg, nI_neg', nI_subv, Nat.add_zero, Nat.zero_add, Nat.mul_zero, Nat.reduceAdd, bN_rv, bM_ru, bV_rv, bV_rx, bU_ru, bU_rx, bN_ite, bM_ite, bV_ite, bU_ite, ↓bx_e, ↓sp_e, gA_ok, gZ_n, gB_0, gB_1, gB_i, and_true, and_false, true_and, false_and, decide_true, decide_false, ↓reduceIte, not_true_eq_false, not_false_eq_true, Bool.false_eq_true, Bool.true_eq_false, Bool.and_true, Bool.and_false, Bool.true_and, Bool.false_and, Bool.or_true, Bool.or_false, Bool.true_or, Bool.false_or, Bool.not_true, Bool.not_false, le_f, le_t, lt_f, lt_t, eq_f, ↓reduceIte, not_true_eq_false, not_false_eq_true, ite_10, bt_0, bt_1]
  | inr x =>
    rw [qk1] at k1
    obtain ⟨x1, x2, x3, x4⟩ := k1
    obtain ⟨m1, hm1, em1⟩ := bits10 x4
    have k2 := keysW_k (b := b) (L := L) (tx := 2) (by omega) (by omega) (by omega) x2 x3
    have hx1 : ¬ x.2 = -1 := by rw [em1, nI_lit, nI_neg (by omega)]; exact fun q => q
    have e2 := p_keys (w0 := nI 0) (K := fun y s => q94_43 59 x.2 y s) (tx := 2) h x2 (by omega) (by omega) (by omega)
    have e20 : q94_21 59 x.2 (nI 0) (cAt s x.1) = (bN (q105 2 (cAt s x.1)) fun x9 s8 => if x9 = 0 then q94_43 59 x.2 (nI 0) s8 else bN (q95 s8) fun x11 s10 => q94_43 59 x.2 x11 s10) := if_neg hx1
    show SCl b L s (q94_21 59 x.2 (nI 0) (cAt s x.1)) _
    rw [e20, e2]
    dsimp only
    cases qk2 : keysW b L 2 x.1 with
    | inl q =>
      refine ⟨cAt s q, nI 0, ?_, FS_A, cAt_p, Or.inl rfl⟩
      show q94_43 59 x.2 (-nI 1) (cAt s q) = _
      unfold q94_43
      rw [if_neg hx1]
      simp (disch := omega) only [nI_lit, nI_add, pk_mul, nI_clp, nI_eqv, nI_lev, nI_ltv, nI_neg, nI_neg', nI_subv, Nat.add_zero, Nat.zero_add, Nat.mul_zero, Nat.reduceAdd, bN_rv, bM_ru, bV_rv, bV_rx, bU_ru, bU_rx, bN_ite, bM_ite, bV_ite, bU_ite, ↓bx_e, ↓sp_e, gA_ok, gZ_n, gB_0, gB_1, gB_i, and_true, and_false, true_and, false_and, decide_true, decide_false, ↓reduceIte, not_true_eq_false, not_false_eq_true, Bool.false_eq_true, Bool.true_eq_false, Bool.and_true, Bool.and_false, Bool.true_and, Bool.false_and, Bool.or_true, Bool.or_false, Bool.true_or, Bool.false_or, Bool.not_true, Bool.not_false, le_f, le_t, lt_f, lt_t, eq_f, ↓reduceIte, not_true_eq_false, not_false_eq_true, ite_10, bt_0, bt_1]
    | inr y =>
      rw [qk2] at k2
      obtain ⟨y1, y2, y3, y4⟩ := k2
      obtain ⟨m2, hm2, em2⟩ := bits10 y4
      have hy1 : ¬ y.2 = -1 := by rw [em2, nI_lit, nI_neg (by omega)]; exact fun q => q
      have hc59 : ∀ z, (cAt s z).1 59 0 = nI n := fun z => by
        rw [cAt_n (by omega)]
        obtain ⟨n2, hn2, b0, b1, -⟩ := hR.2.1
        rw [h0] at b0
        rw [show (58 + 1 : Nat) = 59 from rfl] at b1
        rw [b1, b0]
      have p2' : ∀ z o, o ≤ 1 → q2 59 x.2 y.2 (nI o) (cAt s z) = ru (sI (clB2 (clA (cAt s z) n x.2 y.2) n o) 59 0 (nI (n + 1))) := fun z o ho => p2 (hc59 z) hn ho
      have fin : ∀ z o, o ≤ 1 → ∃ s', (bM (q2 59 x.2 y.2 (nI o) (cAt s z)) fun s1 => rv (nI 1) s1) = rv (nI 1) s' ∧ FS s s' ∧ s'.1 1 2 = nI z ∧ RW s' 58 (adC f n x.2 y.2 (nI o)) := fun z o ho => by
        refine ⟨_, by rw [p2' z o ho, bM_ru], ?_, ?_, RW_add (RW_A hR hw) hI.1.1 h0 hn ho⟩
        · refine FS_t (FS_A (p := z)) (FS_t ?_ (FS_I (by omega)))
          unfold clB2 clA
          split
          · exact FS_t (FS_I (by omega)) (FS_I (by omega))
          · exact FS_t (FS_t (FS_I (by omega)) (FS_I (by omega))) (FS_I (by omega))
        · rw [sI_fn (by omega)]
          unfold clB2 clA
          split
          · rw [sI_fn (by omega), sI_fn (by omega)]; exact cAt_p
          · rw [sI_fn (by omega), sI_fn (by omega), sI_fn (by omega)]; exact cAt_p
      have k3 := p105 (tx := 3) (cAt_C (p := y.1) h) cAt_p y2 (by omega) (by omega) (by omega)
      rw [cAt_2] at k3
      show SCl b L s (q94_43 59 x.2 y.2 (cAt s y.1)) _
      dsimp only
      by_cases hz : y.2 = nI 0
      · have hz' : y.2 = 0 := hz
        cases e3 : wd b L 3 y.1 with
        | false =>
          rw [if_neg (show ¬ (false = true) by decide)]
          rw [e3, b2_f, if_neg (show ¬ (false = true) by decide)] at k3
          obtain ⟨s', g1, g2, g3, g4⟩ := fin y.1 0 (by omega)
          refine ⟨s', ?_, g2, g3, g4⟩
          rw [← g1]
          unfold q94_43 q94_75 q94_76
          rw [if_neg hx1, if_pos hy1, if_neg (not_not_intro hz'), k3, bN_rv, if_pos (show nI 0 = 0 from rfl)]
          rfl
        | true =>
          rw [if_pos rfl, if_pos hz]
          rw [e3, b2_t, if_pos rfl] at k3
          obtain ⟨s', g1, g2, g3, g4⟩ := fin (sk b L (y.1 + tln 3)) 1 (by omega)
          refine ⟨s', ?_, g2, g3, g4⟩
          rw [← g1]
          unfold q94_43 q94_76
          rw [if_neg hx1, if_pos hy1, if_neg (not_not_intro hz'), k3, bN_rv, if_neg (show ¬ nI 1 = 0 by decide)]
          rfl
      · have hz' : ¬ y.2 = 0 := hz
        obtain ⟨s', g1, g2, g3, g4⟩ := fin y.1 0 (by omega)
        have eq : q94_43 59 x.2 y.2 (cAt s y.1) = rv (nI 1) s' := by
          rw [← g1]
          unfold q94_43 q94_75 q94_76
          rw [if_neg hx1, if_pos hy1, if_pos hz']
          rfl
        cases e3 : wd b L 3 y.1 with
        | false =>
          rw [if_neg (show ¬ (false = true) by decide)]
          exact ⟨s', eq, g2, g3, g4⟩
        | true =>
          rw [if_pos rfl, if_neg hz]
          have hq := wd_p y2 e3
          rw [tl_3] at hq
          refine ⟨s', nI 1, eq, g2, g3, Or.inr ⟨rfl, by omega, ?_⟩⟩
          cases e59 : isB b L 59 59 y.1 with
          | false => rfl
          | true => have := lw_40 y2 (by omega) e59; omega
theorem p93 {s : mS} {p T B : Nat} {f : Nat → Int32} (h : CP b L s) (hp : s.1 1 2 = nI p) (hpL : p ≤ L) (hR : RW s 58 f) (hI : IB T B f) : SCl b L s (q93 58 s) (stL b L p f) := by
  obtain ⟨n, hn, h0, -⟩ := hI.1.1.2.1
  have cs : cAt s p = s := cAt_i hp
  have k : ∀ tx, tx < 22 → tx ≠ 7 → tx ≠ 8 → q105 tx s = rv (b2 (wd b L tx p)) (cAt s (if wd b L tx p = true then sk b L (p + tln tx) else p)) := fun tx a1 a2 a3 => p105 (tx := tx) h hp hpL a1 a2 a3
  have k0 := k 0 (by omega) (by omega) (by omega)
  have k4 := k 4 (by omega) (by omega) (by omega)
  have k5 := k 5 (by omega) (by omega) (by omega)
  have k6 := k 6 (by omega) (by omega) (by omega)
  have hc59 : s.1 59 0 = nI n := by
    obtain ⟨n2, hn2, b0, b1, -⟩ := hR.2.1
    rw [h0] at b0
    rw [show (58 + 1 : Nat) = 59 from rfl] at b1
    rw [b1, b0]
  have ref : ∀ {q q' : Option mQ} {r : SR}, SCl b L s q' r → (∀ x s', q' = rv x s' → x = nI 0 ∨ x = nI 1 → q = rv x s') → SCl b L s q r := fun {q q' r} hS hq => by
    cases r with
    | inl f =>
      obtain ⟨s', x, a1, a2, a3, a4⟩ := hS
      exact ⟨s', x, hq x s' a1 (by rcases a4 with e | e; exact Or.inl e; exact Or.inr e.1), a2, a3, a4⟩
    | inr y =>
      obtain ⟨s', a1, a2⟩ := hS
      exact ⟨s', hq _ s' a1 (Or.inr rfl), a2⟩
  have rest : wd b L 0 p = false ∨ n = 5 → SCl b L s (q93_32 58 s) (if wd b L 4 p = true then verT b L (sk b L (p + tln 4)) f else if wd b L 5 p = true then numT b L 6 4 (sk b L (p + tln 5)) f else if wd b L 6 p = true then numT b L 999 5 (sk b L (p + tln 6)) f else .inl p) := fun _ => by
    unfold q93_32
    cases e4 : wd b L 4 p with
    | true =>
      have hq := wd_p hpL e4
      obtain ⟨r1, r2, r3, r4⟩ := sk_p (b := b) hq.1
      rw [e4, b2_t, if_pos rfl] at k4
      rw [if_pos rfl]
      have kv := p96 (cAt_C (p := sk b L (p + tln 4)) h) cAt_p r2 (RW_A hR hI.1.1.1.1) hI
      have kv' : SCl b L s (q96 58 (cAt s (sk b L (p + tln 4)))) (verT b L (sk b L (p + tln 4)) f) := by
        cases ev : verT b L (sk b L (p + tln 4)) f with
        | inl q => rw [ev] at kv; obtain ⟨s', x, a1, a2, a3⟩ := kv; exact ⟨s', x, a1, FS_t FS_A a2, a3⟩
        | inr y => rw [ev] at kv; obtain ⟨s', a1, a2, a3⟩ := kv; exact ⟨s', a1, FS_t FS_A a2, a3⟩
      refine ref kv' (fun x s' e hx => ?_)
      rw [k4, bN_rv, if_neg (show ¬ nI 1 = 0 by decide), e, bN_rv]
      rcases hx with q | q <;> subst q
      · exact gB_0
      · exact gB_1
    | false =>
    rw [e4, b2_f, if_neg (show ¬ (false = true) by decide), cs] at k4
    rw [if_neg (show ¬ (false = true) by decide), k4, bN_rv, if_pos (show nI 0 = 0 from rfl)]
    cases e5 : wd b L 5 p with
    | true =>
      have hq := wd_p hpL e5
      obtain ⟨r1, r2, r3, r4⟩ := sk_p (b := b) hq.1
      rw [e5, b2_t, if_pos rfl] at k5
      rw [if_pos rfl, k5, bN_rv, if_neg (show ¬ nI 1 = 0 by decide)]
      have := p93_num (p := sk b L (p + tln 5)) (hi := 6) (w := 10) (at_ := 4) (K := fun x y s => q93_86 58 x y s) h r2 hR hI (by omega) (Or.inl ⟨rfl, rfl⟩) (fun x y s => by unfold q93_86; simp only [nI_lit, sp_e])
      simp only [nI_lit] at this ⊢
      exact this
    | false =>
    rw [e5, b2_f, if_neg (show ¬ (false = true) by decide), cs] at k5
    rw [if_neg (show ¬ (false = true) by decide), k5, bN_rv, if_pos (show nI 0 = 0 from rfl)]
    cases e6 : wd b L 6 p with
    | true =>
      have hq := wd_p hpL e6
      obtain ⟨r1, r2, r3, r4⟩ := sk_p (b := b) hq.1
      rw [e6, b2_t, if_pos rfl] at k6
      rw [if_pos rfl, k6, bN_rv, if_neg (show ¬ nI 1 = 0 by decide)]
      have := p93_num (p := sk b L (p + tln 6)) (hi := 999) (w := 11) (at_ := 5) (K := fun x y s => q93_137 58 x y s) h r2 hR hI (by omega) (Or.inr ⟨rfl, rfl⟩) (fun x y s => by unfold q93_137; simp only [nI_lit, sp_e])
      simp only [nI_lit] at this ⊢
      exact this
    | false =>
      rw [e6, b2_f, if_neg (show ¬ (false = true) by decide), cs] at k6
      rw [if_neg (show ¬ (false = true) by decide), k6, bN_rv, if_pos (show nI 0 = 0 from rfl)]
      exact ⟨s, nI 0, rfl, ⟨fun _ _ _ => rfl, fun _ _ => rfl, rfl⟩, hp, Or.inl rfl⟩
  unfold stL q93
  cases e0 : wd b L 0 p with
  | true =>
    have hq := wd_p hpL e0
    obtain ⟨r1, r2, r3, r4⟩ := sk_p (b := b) hq.1
    rw [if_pos rfl]
    by_cases e5 : n = 5
    · subst e5
      rw [if_pos h0]
      have hno := rest (Or.inr rfl)
      have ne : ∀ tx, tln tx ≠ 6 → wd b L tx p = false := fun tx ht => by
        cases e : wd b L tx p with
        | false => rfl
        | true => have := wd_l e; have := wd_l e0; rw [tl_0] at this; omega
      rw [ne 4 (by decide), ne 5 (by decide), ne 6 (by decide), if_neg (by decide), if_neg (by decide), if_neg (by decide)] at hno
      have g5 : (5 : Int32) ≤ s.1 (58 + 1) 0 := by
        rw [show (58 + 1 : Nat) = 59 from rfl, hc59]; decide
      rw [if_pos g5]
      exact hno
    · have hne : ¬ f 0 = nI 5 := by rw [h0, nI_eqv (by omega) (by omega)]; exact e5
      rw [if_neg hne, cN_e h0 hn]
      have g5 : ¬ (5 : Int32) ≤ s.1 (58 + 1) 0 := by
        rw [show (58 + 1 : Nat) = 59 from rfl, hc59, nI_lit, nI_lev (by omega) (by omega)]; omega
      rw [e0, b2_t, if_pos rfl] at k0
      rw [if_neg g5, k0, bN_rv, if_neg (show ¬ nI 1 = 0 by decide)]
      refine ref (p94 h r2 r4 hR hI h0 (by omega)) (fun x s' e hx => ?_)
      rw [show (58 + 1 : Nat) = 59 from rfl, e, bN_rv]
      rcases hx with q | q <;> subst q
      · exact gB_0
      · exact gB_1
  | false =>
    rw [if_neg (show ¬ (false = true) by decide)]
    rw [e0, b2_f, if_neg (show ¬ (false = true) by decide), cs] at k0
    by_cases g5 : (5 : Int32) ≤ s.1 (58 + 1) 0
    · rw [if_pos g5]; exact rest (Or.inl e0)
    · rw [if_neg g5, k0, bN_rv, if_pos (show nI 0 = 0 from rfl)]; exact rest (Or.inl e0)
end ST4
