/-! THE LAW'S TEXT: lines, in the reference -/
section LN
variable (b : Nat → Nat) (L : Nat)
def kindS (p : Nat) : Option Nat := if wd b L 9 p = true then some 0 else if wd b L 10 p = true then some 1 else if wd b L 11 p = true then some 2 else none
def tailS (p2 k v : Nat) : Nat ⊕ (Nat × Ln) := if wd b L 12 p2 = true then (match condF b L (atomS b L 6) (sk b L (p2 + tln 12)) with
    | .inl f => .inl f
    | .inr (p3, l) => .inr (p3, (k, v, l))) else .inr (p2, (k, v, []))
def lineS (p : Nat) : Nat ⊕ (Nat × Ln) := match kindS b L p with
  | none => .inl p
  | some k => match nm b L 40 (sk b L (lw b L p)) with
    | none => .inl (sk b L (lw b L p))
    | some v => tailS b L (sk b L (dg b L (sk b L (lw b L p)))) k v
def lawR : Nat → Nat → List Ln → Nat ⊕ List Ln
  | 0, p, _ => .inl p
  | m + 1, p, ls => match lineS b L p with
    | .inl f => .inl f
    | .inr (p', x) => if p' = L then .inr (ls ++ [x]) else if isB b L 59 59 p' = true then lawR m (sk b L (p' + 1)) (ls ++ [x]) else .inl p'
def lawS : Nat ⊕ List Ln := if sk b L 0 = L then .inr [] else lawR b L 12 (sk b L 0) []
end LN
section RLN
variable {b : Nat → Nat} {L : Nat}
theorem tl_12 : tln 12 = 2 := by decide
theorem kind_l {p k : Nat} (hpL : p ≤ L) (h : kindS b L p = some k) : p < lw b L p ∧ lw b L p ≤ L ∧ k ≤ 2 := by
  obtain ⟨l1, l2, -, -⟩ := lw_p (b := b) hpL
  have g : ∀ tx, tx < 22 → tx ≠ 7 → tx ≠ 8 → wd b L tx p = true → p < lw b L p := fun tx a1 a2 a3 h => by
    have := (tx_ok tx a1 a2 a3).1
    have := wd_l h
    omega
  unfold kindS at h
  split at h
  · rename_i q; injection h with h; exact ⟨g 9 (by omega) (by omega) (by omega) q, l2, by omega⟩
  split at h
  · rename_i q; injection h with h; exact ⟨g 10 (by omega) (by omega) (by omega) q, l2, by omega⟩
  split at h
  · rename_i q; injection h with h; exact ⟨g 11 (by omega) (by omega) (by omega) q, l2, by omega⟩
  · cases h
/-- a line's end, and that its code is such -/
theorem line_k {p : Nat} (hpL : p ≤ L) (hs : sk b L p = p) : match lineS b L p with
    | .inl f => p ≤ f ∧ f ≤ L
    | .inr (p', x) => p + x.2.2.length < p' ∧ p' ≤ L ∧ sk b L p' = p' ∧ OKn x := by
  unfold lineS
  cases e : kindS b L p with
  | none => exact ⟨Nat.le_refl _, hpL⟩
  | some k =>
    obtain ⟨k1, k2, k3⟩ := kind_l hpL e
    obtain ⟨s1, s2, s3, s4⟩ := sk_p (b := b) k2
    dsimp only
    cases en : nm b L 40 (sk b L (lw b L p)) with
    | none => exact ⟨by omega, s2⟩
    | some v =>
      have hv := nm_p en
      obtain ⟨d1, d2, -, -⟩ := dg_p (b := b) s2
      obtain ⟨r1, r2, r3, r4⟩ := sk_p (b := b) d2
      dsimp only
      unfold tailS
      cases ew : wd b L 12 (sk b L (dg b L (sk b L (lw b L p)))) with
      | true =>
        have hq := wd_p r2 ew
        rw [if_pos rfl]
        rw [tl_12] at hq ⊢
        obtain ⟨u1, u2, u3, u4⟩ := sk_p (b := b) (show sk b L (dg b L (sk b L (lw b L p))) + 2 ≤ L by omega)
        have kk := cond_k (b := b) (L := L) (fun p x y => atom_k 6 p x y) u2 u4
        have ty := cond_ty (b := b) (L := L) (A := atomS b L 6) (m := 15) (fun p x y => ⟨atom_k 6 p x y, atom_ty 6 p x y⟩) u2 u4 (by omega)
        cases e2 : condF b L (atomS b L 6) (sk b L (sk b L (dg b L (sk b L (lw b L p))) + 2)) with
        | inl f => rw [e2] at kk; exact ⟨by have := kk.1; omega, kk.2.1⟩
        | inr x =>
          rw [e2] at kk ty
          obtain ⟨o1, o2, o3, o4, o5⟩ := kk
          exact ⟨by show p + x.2.length < x.1; omega, o2, o3, ty.1, Or.inr (ty.2 [] (by show 0 + 17 < 40; omega))⟩
      | false =>
        rw [if_neg (show ¬ (false = true) by decide)]
        exact ⟨by show p + 0 < _; omega, r2, r4, fun x hx => by (cases hx), Or.inl rfl⟩
def FL (t t' : mS) : Prop := (∀ c, c ≠ 512 → c ≠ 513 → t'.1 c = t.1 c) ∧ (∀ j, j ≠ 10 → j ≠ 12 → j ≠ 13 → j ≠ 16 → t'.1 512 j = t.1 512 j) ∧ (∀ j, j < 1619 → t'.1 513 j = t.1 513 j) ∧ t'.2 = t.2
theorem FL_r {t : mS} : FL t t := ⟨fun _ _ _ => rfl, fun _ _ _ _ _ => rfl, fun _ _ => rfl, rfl⟩
theorem FL_t {t t' t'' : mS} (h : FL t t') (h2 : FL t' t'') : FL t t'' := ⟨fun c x y => (h2.1 c x y).trans (h.1 c x y), fun j a b c d => (h2.2.1 j a b c d).trans (h.2.1 j a b c d), fun j x => (h2.2.2.1 j x).trans (h.2.2.1 j x), h2.2.2.2.trans h.2.2.2⟩
theorem FL_D {t t' : mS} (h : FD t t') : FL t t' := ⟨h.1, h.2.1, fun j hj => h.2.2.1 j (by omega), h.2.2.2⟩
theorem FL_I {t : mS} {j : Nat} {x : Int32} (hj : 1619 ≤ j) : FL t (sI t 513 j x) := ⟨fun c _ y => sI_fn y, fun k _ _ _ _ => by rw [sI_fn (by omega)], fun k hk => by rw [sI_sm, ud_n (by omega)], Eq.trans rfl rfl⟩
theorem TB_L {t t' : mS} (h : TB b L t) (hf : FL t t') : TB b L t' := ⟨h.1, h.2.1, by rw [hf.2.1 11 (by omega) (by omega) (by omega) (by omega)]; exact h.2.2.1, fun i hi => by rw [hf.1 518 (by omega) (by omega)]; exact h.2.2.2 i hi⟩
def gD (t : mS) : Nat → Int32 := fun j => t.1 513 (j + 849)
theorem DL_F {t : mS} : ∀ {l : List (Nat × Nat)} {c : Nat}, DL t c l → DF (gD t) c l := by
  intro l
  induction l with
  | nil => intro c _; trivial
  | cons x l ih =>
    intro c h
    refine ⟨?_, ?_, ih h.2.2⟩
    · show t.1 513 (819 + 2 * c + 849) = _
      rw [show 819 + 2 * c + 849 = 1668 + 2 * c by omega]; exact h.1
    · show t.1 513 (819 + 2 * c + 1 + 849) = _
      rw [show 819 + 2 * c + 1 + 849 = 1668 + 2 * c + 1 by omega]; exact h.2.1
theorem m238_128 {t : mS} {n c : Nat} (hn : n < 12) (h16 : t.1 512 16 = nI c) : q238_128 (nI (1620 + 4 * n)) t = rv (nI 1) (sI t 513 (1620 + 4 * n + 3) (nI c)) := by
  unfold q238_128
  simp (disch := omega) only [h16, nI_lit, nI_add, pk_mul, nI_clp, nI_eqv, nI_lev, nI_ltv, nI_neg, nI_neg', nI_subv, Nat.add_zero, Nat.zero_add, Nat.mul_zero, Nat.reduceAdd, bN_rv, bM_ru, bV_rv, bV_rx, bU_ru, bU_rx, bN_ite, bM_ite, bV_ite, bU_ite, ↓bx_e, ↓sp_e, gA_ok, gZ_n, gB_0, gB_1, gB_i, and_true, and_false, true_and, false_and, decide_true, decide_false, ↓reduceIte, not_true_eq_false, not_false_eq_true, Bool.false_eq_true, Bool.true_eq_false, Bool.and_true, Bool.and_false, Bool.true_and, Bool.false_and, Bool.or_true, Bool.or_false, Bool.true_or, Bool.false_or, Bool.not_true, Bool.not_false, le_f, le_t, lt_f, lt_t, eq_f, ↓reduceIte, not_true_eq_false, not_false_eq_true, ite_10, bt_0, bt_1]
/-- a line, behind its first word -/
def LQ (b : Nat → Nat) (L : Nat) (t : mS) (n c : Nat) (q : Option mQ) (r : Nat ⊕ (Nat × Ln)) : Prop := match r with
  | .inl f => ∃ t', q = rv (nI 0) t' ∧ FL t t' ∧ t'.1 512 12 = nI f
  | .inr (p', x) => ∃ t', q = rv (nI 1) t' ∧ FL t t' ∧ AtP b L t' p' ∧ t'.1 512 16 = nI (c + x.2.2.length) ∧ LF (gD t') n c [x] ∧ (∀ j, 771 ≤ j → j < 771 + 4 * n → gD t' j = gD t j) ∧ (∀ j, 819 ≤ j → j < 819 + 2 * c → gD t' j = gD t j)
theorem m238_53 {t : mS} {p c n k : Nat} (h : TB b L t) (hp : t.1 512 10 = nI (lw b L p)) (h16 : t.1 512 16 = nI c) (hpL : p ≤ L) (hlt : p < lw b L p) (hc : c ≤ p) (hn : n < 12) (hk : k ≤ 2) : LQ b L t n c (q238_53 (nI (1620 + 4 * n)) (nI (1620 + 4 * n)) (nI k) t) (match nm b L 40 (sk b L (lw b L p)) with
    | none => .inl (sk b L (lw b L p))
    | some v => tailS b L (sk b L (dg b L (sk b L (lw b L p)))) k v) := by
  have hL := h.1
  obtain ⟨l1, l2, -, -⟩ := lw_p (b := b) hpL
  obtain ⟨s1, s2, s3, s4⟩ := sk_p (b := b) l2
  generalize hp1 : sk b L (lw b L p) = p1 at *
  have hF1 : FL t (sI t 513 (1620 + 4 * n) (nI k)) := FL_I (by omega)
  have e0 : (sI t 513 (1620 + 4 * n) (nI k)).1 513 (1620 + 4 * n) = nI k := by rw [sI_sm, ud_e rfl]
  have k1 := m221 (hi := 40) (TB_L h hF1) (by rw [sI_fn (by omega)]; exact hp) l2 (by omega)
  rw [hp1] at k1
  have l0 : (nI 0 ≤ nI k) = True := eq_true (by rw [nI_lev (by omega) (by omega)]; omega)
  have m0 : (nI 0 ≤ -nI 1) = False := eq_false (by decide)
  cases en : nm b L 40 p1 with
  | none =>
    rw [en, show oI none = -nI 1 from rfl] at k1
    have e1 : (sI (tB (sI t 513 (1620 + 4 * n) (nI k)) (dg b L p1) p1) 513 (1620 + 4 * n + 1) (-nI 1)).1 513 (1620 + 4 * n + 1) = -nI 1 := by rw [sI_sm, ud_e rfl]
    refine ⟨_, ?_, FL_t hF1 (FL_t (FL_D (FD_B (q := dg b L p1) (g := p1))) (FL_I (j := 1620 + 4 * n + 1) (x := -nI 1) (by omega))), by rw [sI_fn (by omega), tB_g]⟩
    unfold q238_53
    simp (disch := omega) only [e0, l0, k1, e1, m0, nI_lit, nI_add, pk_mul, nI_clp, nI_eqv, nI_lev, nI_ltv, nI_neg, nI_neg', nI_subv, Nat.add_zero, Nat.zero_add, Nat.mul_zero, Nat.reduceAdd, bN_rv, bM_ru, bV_rv, bV_rx, bU_ru, bU_rx, bN_ite, bM_ite, bV_ite, bU_ite, ↓bx_e, ↓sp_e, gA_ok, gZ_n, gB_0, gB_1, gB_i, and_true, and_false, true_and, false_and, decide_true, decide_false, ↓reduceIte, not_true_eq_false, not_false_eq_true, Bool.false_eq_true, Bool.true_eq_false, Bool.and_true, Bool.and_false, Bool.true_and, Bool.false_and, Bool.or_true, Bool.or_false, Bool.true_or, Bool.false_or, Bool.not_true, Bool.not_false, le_f, le_t, lt_f, lt_t, eq_f, ↓reduceIte, not_true_eq_false, not_false_eq_true, ite_10, bt_0, bt_1]
  | some v =>
    have hv := nm_p en
    obtain ⟨d1, d2, -, -⟩ := dg_p (b := b) s2
    obtain ⟨r1, r2, r3, r4⟩ := sk_p (b := b) d2
    rw [en, show oI (some v) = nI v from rfl] at k1
    have lv : (nI 0 ≤ nI v) = True := eq_true (by rw [nI_lev (by omega) (by omega)]; omega)
    generalize hu1 : sI t 513 (1620 + 4 * n) (nI k) = u1 at *
    have a18 : ∀ j, u1.1 512 j = t.1 512 j := fun j => by rw [← hu1, sI_fn (by omega)]
    generalize hu2 : sI (tB u1 (dg b L p1) p1) 513 (1620 + 4 * n + 1) (nI v) = u2 at *
    have hF2 : FL t u2 := by rw [← hu2]; exact FL_t hF1 (FL_t (FL_D FD_B) (FL_I (by omega)))
    have e1 : u2.1 513 (1620 + 4 * n + 1) = nI v := by rw [← hu2, sI_sm, ud_e rfl]
    have e16 : u2.1 512 16 = nI c := by rw [← hu2, sI_fn (by omega), tB_j (by omega), a18]; exact h16
    have e10 : u2.1 512 10 = nI (dg b L p1) := by rw [← hu2, sI_fn (by omega), tB_p]
    have ek : u2.1 513 (1620 + 4 * n) = nI k := by rw [← hu2, sI_sm, ud_n (by omega), tB_n (by omega)]; exact e0
    have eo : ∀ j, j ≠ 1620 + 4 * n → j ≠ 1620 + 4 * n + 1 → u2.1 513 j = t.1 513 j := fun j x y => by rw [← hu2, sI_sm, ud_n y, tB_n (by omega), ← hu1, sI_sm, ud_n x]
    generalize hu4 : sI (sI u2 513 (1620 + 4 * n + 2) (nI c)) 512 13 (nI 0) = u4 at *
    have hF4 : FL t u4 := by rw [← hu4]; exact FL_t hF2 (FL_t (FL_I (by omega)) (FL_D FD_d))
    have f16 : u4.1 512 16 = nI c := by rw [← hu4, sI_sm, ud_n (by omega), sI_fn (by omega)]; exact e16
    have f10 : u4.1 512 10 = nI (dg b L p1) := by rw [← hu4, sI_sm, ud_n (by omega), sI_fn (by omega)]; exact e10
    have f13 : u4.1 512 13 = nI 0 := by rw [← hu4, sI_sm, ud_e rfl]
    have fk : u4.1 513 (1620 + 4 * n) = nI k := by rw [← hu4, sI_fn (by omega), sI_sm, ud_n (by omega)]; exact ek
    have fv : u4.1 513 (1620 + 4 * n + 1) = nI v := by rw [← hu4, sI_fn (by omega), sI_sm, ud_n (by omega)]; exact e1
    have fc : u4.1 513 (1620 + 4 * n + 2) = nI c := by rw [← hu4, sI_fn (by omega), sI_sm, ud_e rfl]
    have fo' : ∀ j, j ≠ 1620 + 4 * n → j ≠ 1620 + 4 * n + 1 → j ≠ 1620 + 4 * n + 2 → u4.1 513 j = t.1 513 j := fun j x y z => by rw [← hu4, sI_fn (by omega), sI_sm, ud_n z]; exact eo j x y
    have hT4 := TB_L h hF4
    have k12 := m219 (tx := 12) hT4 f10 d2 (by omega) (by omega) (by omega)
    generalize hp2 : sk b L (dg b L p1) = p2 at *
    -- the line's end is told
    have fin : ∀ t5 l p', FL t t5 → AtP b L t5 p' → t5.1 512 16 = nI (c + l.length) → DL t5 c l → (∀ j, j < 1668 + 2 * c → t5.1 513 j = u4.1 513 j) → q238_53 (nI (1620 + 4 * n)) (nI (1620 + 4 * n)) (nI k) t = q238_128 (nI (1620 + 4 * n)) t5 → LQ b L t n c (q238_53 (nI (1620 + 4 * n)) (nI (1620 + 4 * n)) (nI k) t) (.inr (p', (k, v, l))) := fun t5 l p' g1 g2 g3 g4 g5 g6 => by
      have gg : ∀ j, j ≠ 1620 + 4 * n + 3 → (sI t5 513 (1620 + 4 * n + 3) (nI (c + l.length))).1 513 j = t5.1 513 j := fun j hj => by rw [sI_sm, ud_n hj]
      refine ⟨sI t5 513 (1620 + 4 * n + 3) (nI (c + l.length)), by rw [g6, m238_128 hn g3], FL_t g1 (FL_I (by omega)), ?_, ?_, ⟨?_, ?_, ?_, ?_, DL_F ?_, trivial⟩, fun j x y => ?_, fun j x y => ?_⟩
      · obtain ⟨q, q1, q2, q3⟩ := g2
        exact ⟨q, q1, by rw [sI_fn (by omega)]; exact q2, q3⟩
      · rw [sI_fn (by omega)]; exact g3
      · show (sI t5 513 (1620 + 4 * n + 3) (nI (c + l.length))).1 513 (771 + 4 * n + 849) = nI k
        rw [show 771 + 4 * n + 849 = 1620 + 4 * n by omega, gg _ (by omega), g5 _ (by omega)]; exact fk
      · show (sI t5 513 (1620 + 4 * n + 3) (nI (c + l.length))).1 513 (771 + 4 * n + 1 + 849) = nI v
        rw [show 771 + 4 * n + 1 + 849 = 1620 + 4 * n + 1 by omega, gg _ (by omega), g5 _ (by omega)]; exact fv
      · show (sI t5 513 (1620 + 4 * n + 3) (nI (c + l.length))).1 513 (771 + 4 * n + 2 + 849) = nI c
        rw [show 771 + 4 * n + 2 + 849 = 1620 + 4 * n + 2 by omega, gg _ (by omega), g5 _ (by omega)]; exact fc
      · show (sI t5 513 (1620 + 4 * n + 3) (nI (c + l.length))).1 513 (771 + 4 * n + 3 + 849) = nI (c + l.length)
        rw [show 771 + 4 * n + 3 + 849 = 1620 + 4 * n + 3 by omega, sI_sm, ud_e rfl]
      · have : ∀ (l : List (Nat × Nat)) c', c ≤ c' → DL t5 c' l → DL (sI t5 513 (1620 + 4 * n + 3) (nI (c + l.length))) c' l ∧ True := fun _ _ _ _ => ⟨by
          rename_i l0 c' _ hD
          exact (show ∀ (l1 : List (Nat × Nat)) c1, DL t5 c1 l1 → DL (sI t5 513 (1620 + 4 * n + 3) (nI (c + l0.length))) c1 l1 from fun l1 => by
            induction l1 with
            | nil => intro _ _; trivial
            | cons x l1 ih => intro c1 h1; exact ⟨by rw [sI_sm, ud_n (by omega)]; exact h1.1, by rw [sI_sm, ud_n (by omega)]; exact h1.2.1, ih _ h1.2.2⟩) l0 c' hD, trivial⟩
        exact (this l c (Nat.le_refl _) g4).1
      · show (sI t5 513 (1620 + 4 * n + 3) (nI (c + l.length))).1 513 (j + 849) = t.1 513 (j + 849)
        rw [gg _ (by omega), g5 _ (by omega), fo' _ (by omega) (by omega) (by omega)]
      · show (sI t5 513 (1620 + 4 * n + 3) (nI (c + l.length))).1 513 (j + 849) = t.1 513 (j + 849)
        rw [gg _ (by omega), g5 _ (by omega), fo' _ (by omega) (by omega) (by omega)]
    dsimp only
    unfold tailS
    cases ew : wd b L 12 p2 with
    | false =>
      rw [ew, b2_f, if_neg (show ¬ (false = true) by decide)] at k12
      rw [if_neg (show ¬ (false = true) by decide)]
      refine fin (tB u4 p2 p2) [] p2 (FL_t hF4 (FL_D FD_B)) (AtP_s r2 r4) (by rw [tB_j (by omega)]; exact f16) trivial (fun j _ => by rw [tB_n (by omega)]) ?_
      unfold q238_53
      simp (disch := omega) only [hu1, e0, l0, k1, hu2, e1, lv, e16, hu4, k12, nI_lit, nI_add, pk_mul, nI_clp, nI_eqv, nI_lev, nI_ltv, nI_neg, nI_neg', nI_subv, Nat.add_zero, Nat.zero_add, Nat.mul_zero, Nat.reduceAdd, bN_rv, bM_ru, bV_rv, bV_rx, bU_ru, bU_rx, bN_ite, bM_ite, bV_ite, bU_ite, ↓bx_e, ↓sp_e, gA_ok, gZ_n, gB_0, gB_1, gB_i, and_true, and_false, true_and, false_and, decide_true, decide_false, ↓reduceIte, not_true_eq_false, not_false_eq_true, Bool.false_eq_true, Bool.true_eq_false, Bool.and_true, Bool.and_false, Bool.true_and, Bool.false_and, Bool.or_true, Bool.or_false, Bool.true_or, Bool.false_or, Bool.not_true, Bool.not_false, le_f, le_t, lt_f, lt_t, eq_f, ↓reduceIte, not_true_eq_false, not_false_eq_true, ite_10, bt_0, bt_1]
    | true =>
      have hq := wd_p r2 ew
      rw [ew, b2_t, if_pos rfl] at k12
      rw [tl_12] at k12 hq
      rw [if_pos rfl, tl_12]
      obtain ⟨w1, w2, w3, w4⟩ := sk_p (b := b) (show p2 + 2 ≤ L by omega)
      have hI : IN b L (tB u4 (p2 + 2) p2) (sk b L (p2 + 2)) c := ⟨tB_T hT4, AtP_B (by omega), by rw [tB_j (by omega)]; exact f16, by omega⟩
      have kc := m237 (m235 (b := b) (L := L) 6 9 0 (by omega) (by omega)) (fun p x y => atom_k 6 p x y) _ _ _ hI (by rw [tB_j (by omega)]; exact f13)
      have kc' : RQ b L (tB u4 (p2 + 2) p2) c (q237 9 (tB u4 (p2 + 2) p2)) (condF b L (atomS b L 6) (sk b L (p2 + 2))) := kc
      cases ec : condF b L (atomS b L 6) (sk b L (p2 + 2)) with
      | inl f =>
        rw [ec] at kc'
        obtain ⟨t5, g1, g2⟩ := kc'
        refine ⟨t5, ?_, FL_t hF4 (FL_D (FD_t FD_B g2.1)), g2.2⟩
        unfold q238_53
        simp (disch := omega) only [hu1, e0, l0, k1, hu2, e1, lv, e16, hu4, k12, g1, nI_lit, nI_add, pk_mul, nI_clp, nI_eqv, nI_lev, nI_ltv, nI_neg, nI_neg', nI_subv, Nat.add_zero, Nat.zero_add, Nat.mul_zero, Nat.reduceAdd, bN_rv, bM_ru, bV_rv, bV_rx, bU_ru, bU_rx, bN_ite, bM_ite, bV_ite, bU_ite, ↓bx_e, ↓sp_e, gA_ok, gZ_n, gB_0, gB_1, gB_i, and_true, and_false, true_and, false_and, decide_true, decide_false, ↓reduceIte, not_true_eq_false, not_false_eq_true, Bool.false_eq_true, Bool.true_eq_false, Bool.and_true, Bool.and_false, Bool.true_and, Bool.false_and, Bool.or_true, Bool.or_false, Bool.true_or, Bool.false_or, Bool.not_true, Bool.not_false, le_f, le_t, lt_f, lt_t, eq_f, ↓reduceIte, not_true_eq_false, not_false_eq_true, ite_10, bt_0, bt_1]
      | inr x =>
        rw [ec] at kc'
        obtain ⟨t5, g1, g2⟩ := kc'
        refine fin t5 x.2 x.1 (FL_t hF4 (FL_D (FD_t FD_B g2.1))) g2.2.1 g2.2.2.2.1 g2.2.2.2.2.1 (fun j hj => by rw [g2.2.2.2.2.2 j hj, tB_n (by omega)]) ?_
        unfold q238_53
        simp (disch := omega) only [hu1, e0, l0, k1, hu2, e1, lv, e16, hu4, k12, g1, nI_lit, nI_add, pk_mul, nI_clp, nI_eqv, nI_lev, nI_ltv, nI_neg, nI_neg', nI_subv, Nat.add_zero, Nat.zero_add, Nat.mul_zero, Nat.reduceAdd, bN_rv, bM_ru, bV_rv, bV_rx, bU_ru, bU_rx, bN_ite, bM_ite, bV_ite, bU_ite, ↓bx_e, ↓sp_e, gA_ok, gZ_n, gB_0, gB_1, gB_i, and_true, and_false, true_and, false_and, decide_true, decide_false, ↓reduceIte, not_true_eq_false, not_false_eq_true, Bool.false_eq_true, Bool.true_eq_false, Bool.and_true, Bool.and_false, Bool.true_and, Bool.false_and, Bool.or_true, Bool.or_false, Bool.true_or, Bool.false_or, Bool.not_true, Bool.not_false, le_f, le_t, lt_f, lt_t, eq_f, ↓reduceIte, not_true_eq_false, not_false_eq_true, ite_10, bt_0, bt_1]
end RLN
