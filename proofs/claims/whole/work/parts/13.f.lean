/-! THE LAW'S TEXT: atoms in the reference -/
section RL
variable {b : Nat → Nat} {L : Nat}
theorem SS_d {t t1 t2 : mS} {c p d : Nat} {l : List (Nat × Nat)} (hd : t.1 512 13 = nI d) (h1 : FD t t1) (h3 : t1.1 513 = t.1 513) (h : SS b L t1 t2 c l p) : SS b L t (sI t2 512 13 (nI d)) c l p := by
  obtain ⟨a1, ⟨q, q1, q2, q3⟩, a3, a4, a5, a6⟩ := h
  refine ⟨FD_t h1 (FD_t a1 ⟨fun c x _ => sI_fn x, fun j _ _ x _ => by rw [sI_sm, ud_n x], fun j _ => by rw [sI_fn (by omega)], Eq.trans rfl rfl⟩), ⟨q, q1, by rw [sI_sm, ud_n (by omega)]; exact q2, q3⟩, by rw [sI_sm, ud_e rfl]; exact hd.symm, by rw [sI_sm, ud_n (by omega)]; exact a4, DL_c a5 (fun j _ => by rw [sI_fn (by omega)]), fun j hj => by rw [sI_fn (by omega), a6 j hj, h3]⟩
theorem FD_d {t : mS} {x : Int32} : FD t (sI t 512 13 x) := ⟨fun c x _ => sI_fn x, fun j _ _ x _ => by rw [sI_sm, ud_n x], fun j _ => by rw [sI_fn (by omega)], Eq.trans rfl rfl⟩
theorem RQ_B {t : mS} {q g c : Nat} {x : Option mQ} {r : LR} (h : RQ b L (tB t q g) c x r) (hq : q ≤ L) (h16 : t.1 512 16 = nI c) : RQ b L t c x r := by
  have k := RQ_SS (l := []) h (SS_B (b := b) hq h16)
  cases r with
  | inl f => exact k
  | inr x => exact k
theorem m235_leaf {t : mS} {p c : Nat} {R5 R7 : mS → Option mQ} (h : IN b L t p c) (h40 : isB b L 40 40 p = false) (h13 : wd b L 13 p = false) : RQ b L t c (q235F R5 R7 t) (leafS b L p) := by
  obtain ⟨pL, ps⟩ := AtP_l h.2.1
  have hL := h.1.1
  have hc := h.2.2.2
  have k40 := m220_P (o := 40) h.1 h.2.1 (by omega)
  rw [h40, b2_f, if_neg (show ¬ (false = true) by decide)] at k40
  have k13 := m219_P (tx := 13) (tB_T (p := p) (g := p) h.1) (AtP_s pL ps) (by omega) (by omega) (by omega)
  rw [h13, b2_f, if_neg (show ¬ (false = true) by decide), tB_2] at k13
  have hI : IN b L (tB t p p) p c := ⟨tB_T h.1, AtP_s pL ps, by rw [tB_j (by omega)]; exact h.2.2.1, hc⟩
  refine RQ_B (q := p) (g := p) ?_ pL h.2.2.1
  obtain ⟨t1, g1, g2⟩ := m234 hI
  unfold leafS
  cases e : tagS b L p with
  | some j =>
    obtain ⟨a1, a2⟩ := g2 j e
    refine ⟨t1, ?_, a2⟩
    unfold q235F
    simp (disch := omega) only [k40, k13, a1, nI_lit, nI_add, pk_mul, nI_clp, nI_eqv, nI_lev, nI_ltv, nI_neg, nI_neg', nI_subv, Nat.add_zero, Nat.zero_add, Nat.mul_zero, Nat.reduceAdd, bN_rv, bM_ru, bV_rv, bV_rx, bU_ru, bU_rx, bN_ite, bM_ite, bV_ite, bU_ite, ↓bx_e, ↓sp_e, gA_ok, gZ_n, gB_0, gB_1, gB_i, and_true, and_false, true_and, false_and, decide_true, decide_false, ↓reduceIte, not_true_eq_false, not_false_eq_true, Bool.false_eq_true, Bool.true_eq_false, Bool.and_true, Bool.and_false, Bool.true_and, Bool.false_and, Bool.or_true, Bool.or_false, Bool.true_or, Bool.false_or, Bool.not_true, Bool.not_false, le_f, le_t, lt_f, lt_t, eq_f, ↓reduceIte, not_true_eq_false, not_false_eq_true, ite_10, bt_0, bt_1]
  | none =>
    obtain ⟨a1, a2⟩ := g1 e
    have hI1 := SS_in a2 hI.1 (by simp only [List.length_nil]; omega)
    have k2 := m233 hI1
    have kk := sum_k (b := b) pL ps
    show RQ b L (tB t p p) c _ (cmpS b L p)
    unfold cmpS
    cases e1 : sumS b L p with
    | inl f =>
      rw [e1] at k2
      obtain ⟨t2, d1, d2⟩ := k2
      refine ⟨t2, ?_, SF_t a2.1 d2⟩
      unfold q235F
      simp (disch := omega) only [k40, k13, a1, d1, nI_lit, nI_add, pk_mul, nI_clp, nI_eqv, nI_lev, nI_ltv, nI_neg, nI_neg', nI_subv, Nat.add_zero, Nat.zero_add, Nat.mul_zero, Nat.reduceAdd, bN_rv, bM_ru, bV_rv, bV_rx, bU_ru, bU_rx, bN_ite, bM_ite, bV_ite, bU_ite, ↓bx_e, ↓sp_e, gA_ok, gZ_n, gB_0, gB_1, gB_i, and_true, and_false, true_and, false_and, decide_true, decide_false, ↓reduceIte, not_true_eq_false, not_false_eq_true, Bool.false_eq_true, Bool.true_eq_false, Bool.and_true, Bool.and_false, Bool.true_and, Bool.false_and, Bool.or_true, Bool.or_false, Bool.true_or, Bool.false_or, Bool.not_true, Bool.not_false, le_f, le_t, lt_f, lt_t, eq_f, ↓reduceIte, not_true_eq_false, not_false_eq_true, ite_10, bt_0, bt_1]
    | inr x =>
      rw [e1] at k2 kk
      obtain ⟨t2, d1, d2⟩ := k2
      obtain ⟨n1, n2, n3, n4, n5⟩ := kk
      have hS2 := SS_t a2 d2
      rw [List.nil_append] at hS2
      have hT2 := TB_D hI.1 hS2.1
      have k60 := m220_P (o := 60) hT2 hS2.2.1 (by omega)
      have second : ∀ (g : Nat), x.1 + 1 ≤ L → (match sumS b L (sk b L (x.1 + 1)) with
          | .inl f => ∃ t', q233 (tB t2 (x.1 + 1) g) = rv (nI 0) t' ∧ SF (tB t p p) t' f
          | .inr (p2, c2) => ∃ t', q233 (tB t2 (x.1 + 1) g) = rv (nI 1) t' ∧ SS b L (tB t p p) t' c (x.2 ++ c2) p2 ∧ c + (x.2 ++ c2).length < 400) := fun g hx => by
        have hS3 := SS_m hS2 (q := x.1 + 1) (g := g) hx
        obtain ⟨s1, s2, -, s4⟩ := sk_p (b := b) hx
        have k3 := m233 (SS_in hS3 hI.1 (by omega))
        have kk := sum_k (b := b) s2 s4
        cases e2 : sumS b L (sk b L (x.1 + 1)) with
        | inl f =>
          rw [e2] at k3
          obtain ⟨t3, f1, f2⟩ := k3
          exact ⟨t3, f1, SF_t hS3.1 f2⟩
        | inr y =>
          rw [e2] at k3 kk
          obtain ⟨t3, f1, f2⟩ := k3
          obtain ⟨o1, o2, o3, o4, o5⟩ := kk
          exact ⟨t3, f1, SS_t hS3 f2, by rw [List.length_append]; omega⟩
      dsimp only
      cases e60 : isB b L 60 60 x.1 with
      | true =>
        have hq := isB_t e60
        rw [e60, b2_t, if_pos rfl] at k60
        rw [if_pos rfl]
        have s2 := second x.1 (by omega)
        cases e2 : sumS b L (sk b L (x.1 + 1)) with
        | inl f =>
          rw [e2] at s2
          obtain ⟨t3, f1, f2⟩ := s2
          refine ⟨t3, ?_, f2⟩
          unfold q235F q235_152
          simp (disch := omega) only [k40, k13, a1, d1, k60, f1, nI_lit, nI_add, pk_mul, nI_clp, nI_eqv, nI_lev, nI_ltv, nI_neg, nI_neg', nI_subv, Nat.add_zero, Nat.zero_add, Nat.mul_zero, Nat.reduceAdd, bN_rv, bM_ru, bV_rv, bV_rx, bU_ru, bU_rx, bN_ite, bM_ite, bV_ite, bU_ite, ↓bx_e, ↓sp_e, gA_ok, gZ_n, gB_0, gB_1, gB_i, and_true, and_false, true_and, false_and, decide_true, decide_false, ↓reduceIte, not_true_eq_false, not_false_eq_true, Bool.false_eq_true, Bool.true_eq_false, Bool.and_true, Bool.and_false, Bool.true_and, Bool.false_and, Bool.or_true, Bool.or_false, Bool.true_or, Bool.false_or, Bool.not_true, Bool.not_false, le_f, le_t, lt_f, lt_t, eq_f, ↓reduceIte, not_true_eq_false, not_false_eq_true, ite_10, bt_0, bt_1]
        | inr y =>
          rw [e2] at s2
          obtain ⟨t3, f1, f2, f3⟩ := s2
          have k4 := m230 (x := nI 12) (y := nI 0) f2.2.2.2.1 f3
          have hS4 := SS_e (o := 12) (v := 0) f2
          rw [List.append_assoc] at hS4
          refine ⟨_, ?_, hS4⟩
          unfold q235F q235_152 q235_173
          simp (disch := omega) only [k40, k13, a1, d1, k60, f1, k4, nI_lit, nI_add, pk_mul, nI_clp, nI_eqv, nI_lev, nI_ltv, nI_neg, nI_neg', nI_subv, Nat.add_zero, Nat.zero_add, Nat.mul_zero, Nat.reduceAdd, bN_rv, bM_ru, bV_rv, bV_rx, bU_ru, bU_rx, bN_ite, bM_ite, bV_ite, bU_ite, ↓bx_e, ↓sp_e, gA_ok, gZ_n, gB_0, gB_1, gB_i, and_true, and_false, true_and, false_and, decide_true, decide_false, ↓reduceIte, not_true_eq_false, not_false_eq_true, Bool.false_eq_true, Bool.true_eq_false, Bool.and_true, Bool.and_false, Bool.true_and, Bool.false_and, Bool.or_true, Bool.or_false, Bool.true_or, Bool.false_or, Bool.not_true, Bool.not_false, le_f, le_t, lt_f, lt_t, eq_f, ↓reduceIte, not_true_eq_false, not_false_eq_true, ite_10, bt_0, bt_1]
      | false =>
        rw [e60, b2_f, if_neg (show ¬ (false = true) by decide)] at k60
        rw [if_neg (show ¬ (false = true) by decide)]
        have hS2b := SS_1 (g := x.1) hS2
        have k62 := m220_P (o := 62) (TB_D hI.1 hS2b.1) hS2b.2.1 (by omega)
        rw [tB_2] at k62
        cases e62 : isB b L 62 62 x.1 with
        | true =>
          have hq := isB_t e62
          rw [e62, b2_t, if_pos rfl] at k62
          rw [if_pos rfl]
          have s2 := second x.1 (by omega)
          cases e2 : sumS b L (sk b L (x.1 + 1)) with
          | inl f =>
            rw [e2] at s2
            obtain ⟨t3, f1, f2⟩ := s2
            refine ⟨t3, ?_, f2⟩
            unfold q235F q235_152
            simp (disch := omega) only [k40, k13, a1, d1, k60, k62, f1, nI_lit, nI_add, pk_mul, nI_clp, nI_eqv, nI_lev, nI_ltv, nI_neg, nI_neg', nI_subv, Nat.add_zero, Nat.zero_add, Nat.mul_zero, Nat.reduceAdd, bN_rv, bM_ru, bV_rv, bV_rx, bU_ru, bU_rx, bN_ite, bM_ite, bV_ite, bU_ite, ↓bx_e, ↓sp_e, gA_ok, gZ_n, gB_0, gB_1, gB_i, and_true, and_false, true_and, false_and, decide_true, decide_false, ↓reduceIte, not_true_eq_false, not_false_eq_true, Bool.false_eq_true, Bool.true_eq_false, Bool.and_true, Bool.and_false, Bool.true_and, Bool.false_and, Bool.or_true, Bool.or_false, Bool.true_or, Bool.false_or, Bool.not_true, Bool.not_false, le_f, le_t, lt_f, lt_t, eq_f, ↓reduceIte, not_true_eq_false, not_false_eq_true, ite_10, bt_0, bt_1]
          | inr y =>
            rw [e2] at s2
            obtain ⟨t3, f1, f2, f3⟩ := s2
            have k4 := m230 (x := nI 13) (y := nI 0) f2.2.2.2.1 f3
            have hS4 := SS_e (o := 13) (v := 0) f2
            rw [List.append_assoc] at hS4
            refine ⟨_, ?_, hS4⟩
            unfold q235F q235_152 q235_173
            simp (disch := omega) only [k40, k13, a1, d1, k60, k62, f1, k4, nI_lit, nI_add, pk_mul, nI_clp, nI_eqv, nI_lev, nI_ltv, nI_neg, nI_neg', nI_subv, Nat.add_zero, Nat.zero_add, Nat.mul_zero, Nat.reduceAdd, bN_rv, bM_ru, bV_rv, bV_rx, bU_ru, bU_rx, bN_ite, bM_ite, bV_ite, bU_ite, ↓bx_e, ↓sp_e, gA_ok, gZ_n, gB_0, gB_1, gB_i, and_true, and_false, true_and, false_and, decide_true, decide_false, ↓reduceIte, not_true_eq_false, not_false_eq_true, Bool.false_eq_true, Bool.true_eq_false, Bool.and_true, Bool.and_false, Bool.true_and, Bool.false_and, Bool.or_true, Bool.or_false, Bool.true_or, Bool.false_or, Bool.not_true, Bool.not_false, le_f, le_t, lt_f, lt_t, eq_f, ↓reduceIte, not_true_eq_false, not_false_eq_true, ite_10, bt_0, bt_1]
        | false =>
          rw [e62, b2_f, if_neg (show ¬ (false = true) by decide)] at k62
          rw [if_neg (show ¬ (false = true) by decide)]
          refine ⟨tB t2 x.1 x.1, ?_, FD_t hS2.1 FD_B, tB_g⟩
          unfold q235F
          simp (disch := omega) only [k40, k13, a1, d1, k60, k62, nI_lit, nI_add, pk_mul, nI_clp, nI_eqv, nI_lev, nI_ltv, nI_neg, nI_neg', nI_subv, Nat.add_zero, Nat.zero_add, Nat.mul_zero, Nat.reduceAdd, bN_rv, bM_ru, bV_rv, bV_rx, bU_ru, bU_rx, bN_ite, bM_ite, bV_ite, bU_ite, ↓bx_e, ↓sp_e, gA_ok, gZ_n, gB_0, gB_1, gB_i, and_true, and_false, true_and, false_and, decide_true, decide_false, ↓reduceIte, not_true_eq_false, not_false_eq_true, Bool.false_eq_true, Bool.true_eq_false, Bool.and_true, Bool.and_false, Bool.true_and, Bool.false_and, Bool.or_true, Bool.or_false, Bool.true_or, Bool.false_or, Bool.not_true, Bool.not_false, le_f, le_t, lt_f, lt_t, eq_f, ↓reduceIte, not_true_eq_false, not_false_eq_true, ite_10, bt_0, bt_1]
theorem m235 : ∀ k n d, d + k = 6 → k < n → HA b L (q235 n) (atomS b L k) d := by
  intro k
  induction k with
  | zero =>
    intro n d hdk hn t p c h hd
    obtain ⟨n, rfl⟩ : ∃ m, n = m + 1 := ⟨n - 1, by omega⟩
    obtain ⟨pL, ps⟩ := AtP_l h.2.1
    have hd6 : d = 6 := by omega
    subst hd6
    rw [q235, atomS]
    cases e40 : isB b L 40 40 p with
    | true =>
      have k40 := m220_P (o := 40) h.1 h.2.1 (by omega)
      rw [e40, b2_t, if_pos rfl] at k40
      rw [if_pos rfl]
      have ed : (tB t (p + 1) p).1 512 13 = nI 6 := by rw [tB_j (by omega)]; exact hd
      refine ⟨tB t (p + 1) p, ?_, FD_B, tB_g⟩
      unfold q235F
      simp (disch := omega) only [k40, ed, nI_lit, nI_add, pk_mul, nI_clp, nI_eqv, nI_lev, nI_ltv, nI_neg, nI_neg', nI_subv, Nat.add_zero, Nat.zero_add, Nat.mul_zero, Nat.reduceAdd, bN_rv, bM_ru, bV_rv, bV_rx, bU_ru, bU_rx, bN_ite, bM_ite, bV_ite, bU_ite, ↓bx_e, ↓sp_e, gA_ok, gZ_n, gB_0, gB_1, gB_i, and_true, and_false, true_and, false_and, decide_true, decide_false, ↓reduceIte, not_true_eq_false, not_false_eq_true, Bool.false_eq_true, Bool.true_eq_false, Bool.and_true, Bool.and_false, Bool.true_and, Bool.false_and, Bool.or_true, Bool.or_false, Bool.true_or, Bool.false_or, Bool.not_true, Bool.not_false, le_f, le_t, lt_f, lt_t, eq_f, ↓reduceIte, not_true_eq_false, not_false_eq_true, ite_10, bt_0, bt_1]
    | false =>
      rw [if_neg (show ¬ (false = true) by decide)]
      cases e13 : wd b L 13 p with
      | true =>
        have k40 := m220_P (o := 40) h.1 h.2.1 (by omega)
        rw [e40, b2_f, if_neg (show ¬ (false = true) by decide)] at k40
        have k13 := m219_P (tx := 13) (tB_T (p := p) (g := p) h.1) (AtP_s pL ps) (by omega) (by omega) (by omega)
        rw [e13, b2_t, if_pos rfl, tB_2] at k13
        rw [if_pos rfl]
        have ed : (tB t (p + tln 13) p).1 512 13 = nI 6 := by rw [tB_j (by omega)]; exact hd
        refine ⟨tB t (p + tln 13) p, ?_, FD_B, tB_g⟩
        unfold q235F
        simp (disch := omega) only [k40, k13, ed, nI_lit, nI_add, pk_mul, nI_clp, nI_eqv, nI_lev, nI_ltv, nI_neg, nI_neg', nI_subv, Nat.add_zero, Nat.zero_add, Nat.mul_zero, Nat.reduceAdd, bN_rv, bM_ru, bV_rv, bV_rx, bU_ru, bU_rx, bN_ite, bM_ite, bV_ite, bU_ite, ↓bx_e, ↓sp_e, gA_ok, gZ_n, gB_0, gB_1, gB_i, and_true, and_false, true_and, false_and, decide_true, decide_false, ↓reduceIte, not_true_eq_false, not_false_eq_true, Bool.false_eq_true, Bool.true_eq_false, Bool.and_true, Bool.and_false, Bool.true_and, Bool.false_and, Bool.or_true, Bool.or_false, Bool.true_or, Bool.false_or, Bool.not_true, Bool.not_false, le_f, le_t, lt_f, lt_t, eq_f, ↓reduceIte, not_true_eq_false, not_false_eq_true, ite_10, bt_0, bt_1]
      | false =>
        rw [if_neg (show ¬ (false = true) by decide)]
        exact m235_leaf h e40 e13
  | succ k ih =>
    intro n d hdk hn t p c h hd
    obtain ⟨n, rfl⟩ : ∃ m, n = m + 1 := ⟨n - 1, by omega⟩
    obtain ⟨pL, ps⟩ := AtP_l h.2.1
    have hL := h.1.1
    have hc := h.2.2.2
    have hR5 := ih n (d + 1) (by omega) (by omega)
    have hR7 := m237 hR5 (fun p x y => atom_k k p x y)
    rw [q235, atomS]
    cases e40 : isB b L 40 40 p with
    | true =>
      have hq := isB_t e40
      have k40 := m220_P (o := 40) h.1 h.2.1 (by omega)
      rw [e40, b2_t, if_pos rfl] at k40
      rw [if_pos rfl]
      have ed : (tB t (p + 1) p).1 512 13 = nI d := by rw [tB_j (by omega)]; exact hd
      obtain ⟨s1, s2, -, s4⟩ := sk_p (b := b) (show p + 1 ≤ L by omega)
      have hI : IN b L (sI (tB t (p + 1) p) 512 13 (nI (d + 1))) (sk b L (p + 1)) c := ⟨TB_D (tB_T h.1) FD_d, ⟨p + 1, by omega, by rw [sI_sm, ud_n (by omega)]; exact tB_p, rfl⟩, by rw [sI_sm, ud_n (by omega), tB_j (by omega)]; exact h.2.2.1, by omega⟩
      have k2 := hR7 _ _ _ hI (by rw [sI_sm, ud_e rfl])
      have kk := cond_k (fun p x y => atom_k (b := b) (L := L) k p x y) s2 s4
      have hFD : FD t (sI (tB t (p + 1) p) 512 13 (nI (d + 1))) := FD_t FD_B FD_d
      have h513 : (sI (tB t (p + 1) p) 512 13 (nI (d + 1))).1 513 = t.1 513 := by rw [sI_fn (by omega), tB_n (by omega)]
      unfold brkS
      cases e2 : condF b L (atomS b L k) (sk b L (p + 1)) with
      | inl f =>
        rw [e2] at k2
        obtain ⟨t3, f1, f2⟩ := k2
        refine ⟨t3, ?_, SF_t hFD f2⟩
        unfold q235F
        simp (disch := omega) only [k40, ed, f1, nI_lit, nI_add, pk_mul, nI_clp, nI_eqv, nI_lev, nI_ltv, nI_neg, nI_neg', nI_subv, Nat.add_zero, Nat.zero_add, Nat.mul_zero, Nat.reduceAdd, bN_rv, bM_ru, bV_rv, bV_rx, bU_ru, bU_rx, bN_ite, bM_ite, bV_ite, bU_ite, ↓bx_e, ↓sp_e, gA_ok, gZ_n, gB_0, gB_1, gB_i, and_true, and_false, true_and, false_and, decide_true, decide_false, ↓reduceIte, not_true_eq_false, not_false_eq_true, Bool.false_eq_true, Bool.true_eq_false, Bool.and_true, Bool.and_false, Bool.true_and, Bool.false_and, Bool.or_true, Bool.or_false, Bool.true_or, Bool.false_or, Bool.not_true, Bool.not_false, le_f, le_t, lt_f, lt_t, eq_f, ↓reduceIte, not_true_eq_false, not_false_eq_true, ite_10, bt_0, bt_1]
      | inr x =>
        rw [e2] at k2 kk
        obtain ⟨t3, f1, f2⟩ := k2
        obtain ⟨o1, o2, o3, o4, o5⟩ := kk
        have e3 : t3.1 512 13 = nI (d + 1) := by rw [f2.2.2.1, sI_sm, ud_e rfl]
        have hS4 := SS_d hd hFD h513 f2
        have k41 := m220_P (o := 41) (TB_D h.1 hS4.1) hS4.2.1 (by omega)
        have ed1 : nI (d + 1) - nI 1 = nI d := by rw [nI_subv (by omega), Nat.add_sub_cancel]
        dsimp only
        cases e41 : isB b L 41 41 x.1 with
        | true =>
          have hq2 := isB_t e41
          rw [e41, b2_t, if_pos rfl] at k41
          rw [if_pos rfl]
          refine ⟨_, ?_, SS_m hS4 (q := x.1 + 1) (g := x.1) (by omega)⟩
          unfold q235F
          simp (disch := omega) only [k40, ed, f1, e3, nI_lit, bN_rv, sp_e, ed1, nI_add, k41, gB_1, nI_eqv, eq_f, not_false_eq_true, ↓reduceIte]
        | false =>
          rw [e41, b2_f, if_neg (show ¬ (false = true) by decide)] at k41
          rw [if_neg (show ¬ (false = true) by decide)]
          refine ⟨tB (sI t3 512 13 (nI d)) x.1 x.1, ?_, FD_t hS4.1 FD_B, tB_g⟩
          unfold q235F
          simp (disch := omega) only [k40, ed, f1, e3, nI_lit, bN_rv, sp_e, ed1, nI_add, k41, gB_0, nI_eqv, eq_f, not_false_eq_true, ↓reduceIte]
    | false =>
      rw [if_neg (show ¬ (false = true) by decide)]
      cases e13 : wd b L 13 p with
      | true =>
        have hq := wd_p pL e13
        rw [tl_13] at hq
        have k40 := m220_P (o := 40) h.1 h.2.1 (by omega)
        rw [e40, b2_f, if_neg (show ¬ (false = true) by decide)] at k40
        have k13 := m219_P (tx := 13) (tB_T (p := p) (g := p) h.1) (AtP_s pL ps) (by omega) (by omega) (by omega)
        rw [e13, b2_t, if_pos rfl, tB_2, tl_13] at k13
        rw [if_pos rfl, tl_13]
        have ed : (tB t (p + 3) p).1 512 13 = nI d := by rw [tB_j (by omega)]; exact hd
        obtain ⟨s1, s2, -, s4⟩ := sk_p (b := b) (show p + 3 ≤ L by omega)
        have hI : IN b L (sI (tB t (p + 3) p) 512 13 (nI (d + 1))) (sk b L (p + 3)) c := ⟨TB_D (tB_T h.1) FD_d, ⟨p + 3, by omega, by rw [sI_sm, ud_n (by omega)]; exact tB_p, rfl⟩, by rw [sI_sm, ud_n (by omega), tB_j (by omega)]; exact h.2.2.1, by omega⟩
        have k2 := hR5 _ _ _ hI (by rw [sI_sm, ud_e rfl])
        have kk := atom_k (b := b) (L := L) k _ s2 s4
        have hFD : FD t (sI (tB t (p + 3) p) 512 13 (nI (d + 1))) := FD_t FD_B FD_d
        have h513 : (sI (tB t (p + 3) p) 512 13 (nI (d + 1))).1 513 = t.1 513 := by rw [sI_fn (by omega), tB_n (by omega)]
        unfold notS
        cases e2 : atomS b L k (sk b L (p + 3)) with
        | inl f =>
          rw [e2] at k2
          obtain ⟨t3, f1, f2⟩ := k2
          refine ⟨t3, ?_, SF_t hFD f2⟩
          unfold q235F
          simp (disch := omega) only [k40, k13, ed, f1, nI_lit, nI_add, pk_mul, nI_clp, nI_eqv, nI_lev, nI_ltv, nI_neg, nI_neg', nI_subv, Nat.add_zero, Nat.zero_add, Nat.mul_zero, Nat.reduceAdd, bN_rv, bM_ru, bV_rv, bV_rx, bU_ru, bU_rx, bN_ite, bM_ite, bV_ite, bU_ite, ↓bx_e, ↓sp_e, gA_ok, gZ_n, gB_0, gB_1, gB_i, and_true, and_false, true_and, false_and, decide_true, decide_false, ↓reduceIte, not_true_eq_false, not_false_eq_true, Bool.false_eq_true, Bool.true_eq_false, Bool.and_true, Bool.and_false, Bool.true_and, Bool.false_and, Bool.or_true, Bool.or_false, Bool.true_or, Bool.false_or, Bool.not_true, Bool.not_false, le_f, le_t, lt_f, lt_t, eq_f, ↓reduceIte, not_true_eq_false, not_false_eq_true, ite_10, bt_0, bt_1]
        | inr x =>
          rw [e2] at k2 kk
          obtain ⟨t3, f1, f2⟩ := k2
          obtain ⟨o1, o2, o3, o4, o5⟩ := kk
          have e3 : t3.1 512 13 = nI (d + 1) := by rw [f2.2.2.1, sI_sm, ud_e rfl]
          have hS4 := SS_d hd hFD h513 f2
          have k4 := m230 (x := nI 14) (y := nI 0) hS4.2.2.2.1 (by omega)
          have ed1 : nI (d + 1) - nI 1 = nI d := by rw [nI_subv (by omega), Nat.add_sub_cancel]
          refine ⟨_, ?_, SS_e (o := 14) (v := 0) hS4⟩
          unfold q235F
          simp (disch := omega) only [k40, k13, ed, f1, e3, nI_lit, bN_rv, bM_ru, sp_e, ed1, nI_add, k4, nI_eqv, eq_f, not_false_eq_true, ↓reduceIte]
      | false =>
        rw [if_neg (show ¬ (false = true) by decide)]
        exact m235_leaf h e40 e13
end RL
