/-! SERIAL: WHO COMES BEFORE WHOM -/
section LOOK
variable {B : Nat} {s : mS}
def prK (f : Nat → Int32) (r1 r2 k : Nat) : Bool :=
  ((bt (f (242 + 24 * r1 + 3)) k && bt (f (242 + 24 * r2 + 2)) k) && decide (f (242 + 24 * r1 + 14 + k) ≤ f (242 + 24 * r2 + 4 + k))) ||
  (((bt (f (242 + 24 * r1 + 2)) k && bt (f (242 + 24 * r2 + 3)) k) && decide (f (242 + 24 * r1 + 4 + k) < f (242 + 24 * r2 + 14 + k))) ||
  ((bt (f (242 + 24 * r1 + 3)) k && bt (f (242 + 24 * r2 + 3)) k) && !(decide (f (242 + 24 * r2 + 14 + k) ≤ f (242 + 24 * r1 + 14 + k)))))
def prA (f : Nat → Int32) (r1 r2 : Nat) : Bool := !(al (fun k => !(prK f r1 r2 k)) 10 0)
theorem p19 {f : Nat → Int32} {n o : Nat} (hn : n ≤ 12)
    (hq : ∀ r, r < n → s.1 (44 + 1) ((o + r) % 12) = f (242 + 24 * r) ∧ s.1 (44 + 2) ((o + r) % 12) = f (242 + 24 * r + 1) ∧ s.1 (44 + 3) ((o + r) % 12) = f (242 + 24 * r + 2) ∧ s.1 (44 + 4) ((o + r) % 12) = f (242 + 24 * r + 3) ∧ ∀ k, k < 10 → s.1 (44 + 5) (10 * ((o + r) % 12) + k) = f (242 + 24 * r + 4 + k) ∧ s.1 (44 + 6) (10 * ((o + r) % 12) + k) = f (242 + 24 * r + 14 + k))
    {r1 r2 : Nat} (h1 : r1 < n) (h2 : r2 < n) : q19 44 (nI ((o + r1) % 12)) (nI ((o + r2) % 12)) s = rv (b2 (prA f r1 r2)) s := by
  obtain ⟨-, -, a3, a4, a5⟩ := hq r1 h1
  obtain ⟨-, -, b3, b4, b5⟩ := hq r2 h2
  have hm1 : (o + r1) % 12 < 12 := Nat.mod_lt _ (by omega)
  have hm2 : (o + r2) % 12 < 12 := Nat.mod_lt _ (by omega)
  generalize (o + r1) % 12 = p at *
  generalize (o + r2) % 12 = q at *
  simp only [Nat.reduceAdd] at a3 a4 b3 b4
  unfold q19
  rw [nI_lit]
  have := lp_fs (Q := fun m i => q19_2 44 m (nI p) (nI q) i s) (p := prK f r1 r2) (e := 10) (no := rv (nI 0) s) (yes := fun _ => rv (nI 1) s) (fun m => by simp (disch := omega) only [q19_2, nI_lit, nI_add, pk_mul, nI_clp, nI_eqv, nI_lev, nI_ltv, nI_neg, nI_neg', nI_subv, Nat.add_zero, Nat.zero_add, Nat.mul_zero, Nat.reduceAdd, bN_rv, bM_ru, bV_rv, bV_rx, bU_ru, bU_rx, bN_ite, bM_ite, bV_ite, bU_ite, ↓bx_e, ↓sp_e, gA_ok, gZ_n, gB_0, gB_1, gB_i, and_true, and_false, true_and, false_and, decide_true, decide_false, ↓reduceIte, not_true_eq_false, not_false_eq_true, Bool.false_eq_true, Bool.true_eq_false, Bool.and_true, Bool.and_false, Bool.true_and, Bool.false_and, Bool.or_true, Bool.or_false, Bool.true_or, Bool.false_or, Bool.not_true, Bool.not_false, le_f, le_t, lt_f, lt_t, eq_f, ↓reduceIte, not_true_eq_false, not_false_eq_true, ite_10, bt_0, bt_1]) (fun m k hk => by
    obtain ⟨a5, a6⟩ := a5 k hk
    obtain ⟨b5, b6⟩ := b5 k hk
    rw [Nat.mul_comm 10 p] at a5 a6
    rw [Nat.mul_comm 10 q] at b5 b6
    simp only [Nat.reduceAdd] at a5 a6 b5 b6
    unfold prK
    simp (disch := omega) only [q19_2, q19_26, q19_46, q19_66, q19_86, q19_131, q19_158, q19_187, a3, a4, a5, a6, b3, b4, b5, b6, nI_lit, nI_add, pk_mul, nI_clp, nI_eqv, nI_lev, nI_ltv, nI_neg, nI_neg', nI_subv, Nat.add_zero, Nat.zero_add, Nat.mul_zero, Nat.reduceAdd, bN_rv, bM_ru, bV_rv, bV_rx, bU_ru, bU_rx, bN_ite, bM_ite, bV_ite, bU_ite, ↓bx_e, ↓sp_e, gA_ok, gZ_n, gB_0, gB_1, gB_i, and_true, and_false, true_and, false_and, decide_true, decide_false, ↓reduceIte, not_true_eq_false, not_false_eq_true, Bool.false_eq_true, Bool.true_eq_false, Bool.and_true, Bool.and_false, Bool.true_and, Bool.false_and, Bool.or_true, Bool.or_false, Bool.true_or, Bool.false_or, Bool.not_true, Bool.not_false, le_f, le_t, lt_f, lt_t, eq_f, ↓reduceIte, not_true_eq_false, not_false_eq_true, ite_10, bt_0, bt_1]
    cases bt (f (242 + 24 * r1 + 3)) k <;> cases bt (f (242 + 24 * r2 + 2)) k <;> cases bt (f (242 + 24 * r1 + 2)) k <;> cases bt (f (242 + 24 * r2 + 3)) k <;> simp only [and_true, and_false, true_and, false_and, decide_true, decide_false, ↓reduceIte, not_true_eq_false, not_false_eq_true, Bool.false_eq_true, Bool.true_eq_false, Bool.and_true, Bool.and_false, Bool.true_and, Bool.false_and, Bool.or_true, Bool.or_false, Bool.true_or, Bool.false_or, Bool.not_true, Bool.not_false] <;>
    by_cases c1 : f (242 + 24 * r1 + 14 + k) ≤ f (242 + 24 * r2 + 4 + k) <;> by_cases c2 : f (242 + 24 * r1 + 4 + k) < f (242 + 24 * r2 + 14 + k) <;> by_cases c3 : f (242 + 24 * r2 + 14 + k) ≤ f (242 + 24 * r1 + 14 + k) <;> simp only [c1, c2, c3, and_true, and_false, true_and, false_and, decide_true, decide_false, ↓reduceIte, not_true_eq_false, not_false_eq_true, Bool.false_eq_true, Bool.true_eq_false, Bool.and_true, Bool.and_false, Bool.true_and, Bool.false_and, Bool.or_true, Bool.or_false, Bool.true_or, Bool.false_or, Bool.not_true, Bool.not_false]) 10 0 10000 (by omega) (by omega)
  refine this.trans ((fs_al (x := rv (nI 0) s) (y := rv (nI 1) s) 10 0).trans ?_)
  unfold prA
  cases al (fun k => !(prK f r1 r2 k)) 10 0 <;> simp only [b2_t, b2_f, and_true, and_false, true_and, false_and, decide_true, decide_false, ↓reduceIte, not_true_eq_false, not_false_eq_true, Bool.false_eq_true, Bool.true_eq_false, Bool.and_true, Bool.and_false, Bool.true_and, Bool.false_and, Bool.or_true, Bool.or_false, Bool.true_or, Bool.false_or, Bool.not_true, Bool.not_false]
theorem m296 {t : mS} {r k : Nat} (hr : r < 12) (hk : k < 10) (v : Int32) : q296 (nI r) (nI k) v t = rv (if v = nI 0 then (if bt (t.1 513 (242 + 24 * r + 2)) k = true then t.1 513 (242 + 24 * r + 4 + k) else -nI 1) else (if bt (t.1 513 (242 + 24 * r + 3)) k = true then t.1 513 (242 + 24 * r + 14 + k) else -nI 1)) t := by
  unfold q296 q296_11 q296_35 q294 q266
  have e4 : 242 + 24 * r + (4 + k) = 242 + 24 * r + 4 + k := by omega
  have e14 : 242 + 24 * r + (14 + k) = 242 + 24 * r + 14 + k := by omega
  rw [nI_lit]
  by_cases h3 : v = nI 0
  · simp only [h3, ↓reduceIte]
    simp (disch := omega) only [m190, b2_0, e4, nI_lit, nI_add, pk_mul, nI_clp, nI_eqv, nI_lev, nI_ltv, nI_neg, nI_neg', nI_subv, Nat.add_zero, Nat.zero_add, Nat.mul_zero, Nat.reduceAdd, bN_rv, bM_ru, bV_rv, bV_rx, bU_ru, bU_rx, bN_ite, bM_ite, bV_ite, bU_ite, ↓bx_e, ↓sp_e, gA_ok, gZ_n, gB_0, gB_1, gB_i, and_true, and_false, true_and, false_and, decide_true, decide_false, ↓reduceIte, not_true_eq_false, not_false_eq_true, Bool.false_eq_true, Bool.true_eq_false, Bool.and_true, Bool.and_false, Bool.true_and, Bool.false_and, Bool.or_true, Bool.or_false, Bool.true_or, Bool.false_or, Bool.not_true, Bool.not_false, le_f, le_t, lt_f, lt_t, eq_f, ↓reduceIte, not_true_eq_false, not_false_eq_true, ite_10, bt_0, bt_1]
    cases bt (t.1 513 (242 + 24 * r + 2)) k <;> simp only [and_true, and_false, true_and, false_and, decide_true, decide_false, ↓reduceIte, not_true_eq_false, not_false_eq_true, Bool.false_eq_true, Bool.true_eq_false, Bool.and_true, Bool.and_false, Bool.true_and, Bool.false_and, Bool.or_true, Bool.or_false, Bool.true_or, Bool.false_or, Bool.not_true, Bool.not_false]
  · simp only [h3, ↓reduceIte]
    simp (disch := omega) only [m190, b2_0, e14, nI_lit, nI_add, pk_mul, nI_clp, nI_eqv, nI_lev, nI_ltv, nI_neg, nI_neg', nI_subv, Nat.add_zero, Nat.zero_add, Nat.mul_zero, Nat.reduceAdd, bN_rv, bM_ru, bV_rv, bV_rx, bU_ru, bU_rx, bN_ite, bM_ite, bV_ite, bU_ite, ↓bx_e, ↓sp_e, gA_ok, gZ_n, gB_0, gB_1, gB_i, and_true, and_false, true_and, false_and, decide_true, decide_false, ↓reduceIte, not_true_eq_false, not_false_eq_true, Bool.false_eq_true, Bool.true_eq_false, Bool.and_true, Bool.and_false, Bool.true_and, Bool.false_and, Bool.or_true, Bool.or_false, Bool.true_or, Bool.false_or, Bool.not_true, Bool.not_false, le_f, le_t, lt_f, lt_t, eq_f, ↓reduceIte, not_true_eq_false, not_false_eq_true, ite_10, bt_0, bt_1]
    cases bt (t.1 513 (242 + 24 * r + 3)) k <;> simp only [and_true, and_false, true_and, false_and, decide_true, decide_false, ↓reduceIte, not_true_eq_false, not_false_eq_true, Bool.false_eq_true, Bool.true_eq_false, Bool.and_true, Bool.and_false, Bool.true_and, Bool.false_and, Bool.or_true, Bool.or_false, Bool.true_or, Bool.false_or, Bool.not_true, Bool.not_false]
theorem n1_0 {x : Int32} (h : nI 0 ≤ x) : (x = -nI 1) = False ∧ (x ≤ -nI 1) = False ∧ (x < -nI 1) = False ∧ (-nI 1 ≤ x) = True := by
  have hl : -nI 1 < x := Int32.lt_of_lt_of_le (by decide) h
  refine ⟨eq_false fun e => ?_, eq_false (Int32.not_le.mpr hl), eq_false fun e => ?_, eq_true (Int32.le_of_lt hl)⟩
  · rw [e] at hl; exact Int32.lt_irrefl hl
  · exact Int32.lt_irrefl (Int32.lt_trans hl e)
theorem m298 {t : mS} (hH : IH (t.1 513)) {r1 r2 : Nat} (h1 : r1 < 12) (h2 : r2 < 12) : q298 (nI r1) (nI r2) t = rv (b2 (!(decide (r1 = r2)) && prA (t.1 513) r1 r2)) t := by
  have fin : ∀ b : Bool, q298_107 (nI r1) (nI r2) (b2 b) t = rv (b2 (!(decide (r1 = r2)) && b)) t := fun b => by
    unfold q298_107
    simp (disch := omega) only [b2_0, nI_lit, nI_add, pk_mul, nI_clp, nI_eqv, nI_lev, nI_ltv, nI_neg, nI_neg', nI_subv, Nat.add_zero, Nat.zero_add, Nat.mul_zero, Nat.reduceAdd, bN_rv, bM_ru, bV_rv, bV_rx, bU_ru, bU_rx, bN_ite, bM_ite, bV_ite, bU_ite, ↓bx_e, ↓sp_e, gA_ok, gZ_n, gB_0, gB_1, gB_i, and_true, and_false, true_and, false_and, decide_true, decide_false, ↓reduceIte, not_true_eq_false, not_false_eq_true, Bool.false_eq_true, Bool.true_eq_false, Bool.and_true, Bool.and_false, Bool.true_and, Bool.false_and, Bool.or_true, Bool.or_false, Bool.true_or, Bool.false_or, Bool.not_true, Bool.not_false, le_f, le_t, lt_f, lt_t, eq_f, ↓reduceIte, not_true_eq_false, not_false_eq_true, ite_10, bt_0, bt_1]
    by_cases e : r1 = r2 <;> cases b <;> simp only [e, b2_t, b2_f, and_true, and_false, true_and, false_and, decide_true, decide_false, ↓reduceIte, not_true_eq_false, not_false_eq_true, Bool.false_eq_true, Bool.true_eq_false, Bool.and_true, Bool.and_false, Bool.true_and, Bool.false_and, Bool.or_true, Bool.or_false, Bool.true_or, Bool.false_or, Bool.not_true, Bool.not_false]
  have loop : ∀ m i k, i + m = 10 → m + 1 < k → q298_5 q298_107 k (nI r1) (nI r2) (nI 0) (nI i) t = q298_107 (nI r1) (nI r2) (b2 (!(al (fun k => !(prK (t.1 513) r1 r2 k)) m i))) t := by
    intro m
    induction m with
    | zero =>
      intro i k hi hk
      cases k with
      | zero => omega
      | succ k =>
        have : i = 10 := by omega
        subst this
        simp (disch := omega) only [q298_5, al, b2_f, nI_lit, nI_add, pk_mul, nI_clp, nI_eqv, nI_lev, nI_ltv, nI_neg, nI_neg', nI_subv, Nat.add_zero, Nat.zero_add, Nat.mul_zero, Nat.reduceAdd, bN_rv, bM_ru, bV_rv, bV_rx, bU_ru, bU_rx, bN_ite, bM_ite, bV_ite, bU_ite, ↓bx_e, ↓sp_e, gA_ok, gZ_n, gB_0, gB_1, gB_i, and_true, and_false, true_and, false_and, decide_true, decide_false, ↓reduceIte, not_true_eq_false, not_false_eq_true, Bool.false_eq_true, Bool.true_eq_false, Bool.and_true, Bool.and_false, Bool.true_and, Bool.false_and, Bool.or_true, Bool.or_false, Bool.true_or, Bool.false_or, Bool.not_true, Bool.not_false, le_f, le_t, lt_f, lt_t, eq_f, ↓reduceIte, not_true_eq_false, not_false_eq_true, ite_10, bt_0, bt_1]
    | succ m ih =>
      intro i k hi hk
      cases k with
      | zero => omega
      | succ k =>
        cases k with
        | zero => omega
        | succ k =>
          have hi10 : i < 10 := by omega
          have ih2 := ih (i + 1) (k + 1) (by omega) (by omega)
          have z : q298_5 q298_107 (k + 1) (nI r1) (nI r2) (nI 1) (nI (i + 1)) t = q298_107 (nI r1) (nI r2) (nI 1) t := by
            rw [q298_5]
            simp only [nI_lit, one_ne, not_false_eq_true, ↓reduceIte, ite_self]
          have w1 := n1_0 (hH.2 (242 + 24 * r1 + 14 + i) (by unfold HX; omega)).1
          have w2 := n1_0 (hH.2 (242 + 24 * r2 + 14 + i) (by unfold HX; omega)).1
          have d1 := n1_0 (hH.2 (242 + 24 * r1 + 4 + i) (by unfold HX; omega)).1
          have d2 := n1_0 (hH.2 (242 + 24 * r2 + 4 + i) (by unfold HX; omega)).1
          rw [al]
          have hp : prK (t.1 513) r1 r2 i = prK (t.1 513) r1 r2 i := rfl
          rw [q298_5]
          simp (disch := omega) only [m296, q298_69, q298_82, q298_95, q298_99, q298_100, one_ne, nI_lit, nI_add, pk_mul, nI_clp, nI_eqv, nI_lev, nI_ltv, nI_neg, nI_neg', nI_subv, Nat.add_zero, Nat.zero_add, Nat.mul_zero, Nat.reduceAdd, bN_rv, bM_ru, bV_rv, bV_rx, bU_ru, bU_rx, bN_ite, bM_ite, bV_ite, bU_ite, ↓bx_e, ↓sp_e, gA_ok, gZ_n, gB_0, gB_1, gB_i, and_true, and_false, true_and, false_and, decide_true, decide_false, ↓reduceIte, not_true_eq_false, not_false_eq_true, Bool.false_eq_true, Bool.true_eq_false, Bool.and_true, Bool.and_false, Bool.true_and, Bool.false_and, Bool.or_true, Bool.or_false, Bool.true_or, Bool.false_or, Bool.not_true, Bool.not_false, le_f, le_t, lt_f, lt_t, eq_f, ↓reduceIte, not_true_eq_false, not_false_eq_true, ite_10, bt_0, bt_1]
          have key : ∀ (c : Bool), prK (t.1 513) r1 r2 i = c → (if c = true then q298_107 (nI r1) (nI r2) (nI 1) t else q298_107 (nI r1) (nI r2) (b2 (!(al (fun k => !(prK (t.1 513) r1 r2 k)) m (i + 1)))) t) = q298_107 (nI r1) (nI r2) (b2 (!(!(prK (t.1 513) r1 r2 i) && al (fun k => !(prK (t.1 513) r1 r2 k)) m (i + 1)))) t := fun c hc => by
            rw [hc]; cases c <;> simp only [b2_t, and_true, and_false, true_and, false_and, decide_true, decide_false, ↓reduceIte, not_true_eq_false, not_false_eq_true, Bool.false_eq_true, Bool.true_eq_false, Bool.and_true, Bool.and_false, Bool.true_and, Bool.false_and, Bool.or_true, Bool.or_false, Bool.true_or, Bool.false_or, Bool.not_true, Bool.not_false]
          refine Eq.trans ?_ (key _ rfl)
          rw [ih2, z]
          unfold prK
          cases bt (t.1 513 (242 + 24 * r1 + 3)) i <;> cases bt (t.1 513 (242 + 24 * r2 + 2)) i <;> cases bt (t.1 513 (242 + 24 * r1 + 2)) i <;> cases bt (t.1 513 (242 + 24 * r2 + 3)) i <;> simp only [w1.1, w1.2.1, w1.2.2.1, w1.2.2.2, w2.1, w2.2.1, w2.2.2.1, w2.2.2.2, d1.1, d1.2.1, d1.2.2.1, d1.2.2.2, d2.1, d2.2.1, d2.2.2.1, d2.2.2.2, Int32.le_refl, and_true, and_false, true_and, false_and, decide_true, decide_false, ↓reduceIte, not_true_eq_false, not_false_eq_true, Bool.false_eq_true, Bool.true_eq_false, Bool.and_true, Bool.and_false, Bool.true_and, Bool.false_and, Bool.or_true, Bool.or_false, Bool.true_or, Bool.false_or, Bool.not_true, Bool.not_false] <;>
          by_cases c1 : t.1 513 (242 + 24 * r1 + 14 + i) ≤ t.1 513 (242 + 24 * r2 + 4 + i) <;> by_cases c2 : t.1 513 (242 + 24 * r1 + 4 + i) < t.1 513 (242 + 24 * r2 + 14 + i) <;> by_cases c3 : t.1 513 (242 + 24 * r2 + 14 + i) ≤ t.1 513 (242 + 24 * r1 + 14 + i) <;> simp only [c1, c2, c3, and_true, and_false, true_and, false_and, decide_true, decide_false, ↓reduceIte, not_true_eq_false, not_false_eq_true, Bool.false_eq_true, Bool.true_eq_false, Bool.and_true, Bool.and_false, Bool.true_and, Bool.false_and, Bool.or_true, Bool.or_false, Bool.true_or, Bool.false_or, Bool.not_true, Bool.not_false]
  unfold q298
  rw [nI_lit, loop 10 0 10000 (by omega) (by omega), fin]
  rfl
end LOOK
