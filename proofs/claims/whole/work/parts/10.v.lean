/-! ODDS -/
section LOOK
variable {B : Nat} {s : mS}
def odD (n a : Nat) : Int32 := fo (fun _ x => x * nI n) a 0 (nI 1)
def odB (a i : Nat) : Int32 := fo (fun j x => (x * (nI a - nI j)) / nI (j + 1)) i 0 (nI 1)
def odT (n a i : Nat) : Int32 := fo (fun _ x => x * (nI n - nI 1)) (a - i) i (odB a i)
def odS (n a b : Nat) : Int32 := if a < b then nI 0 else fo (fun i x => x + odT n a i) (a + 1 - b) b (nI 0)
def odC (n a b : Nat) : Int32 := if nI 0 < odD n a then (odS n a b * nI 10000) / odD n a else nI 0
theorem gZ_i {y : Int32} {c : Option mQ} (h : ¬ y = nI 0) : gZ y c = c := if_neg h
theorem p61 {n a b : Nat} (hn : n ≤ 5) (hn0 : 0 < n) (ha : a ≤ 5) (hb : b ≤ 5) (y0 : s.1 27 0 = nI n) : q61 (nI a) (nI b) s = rv (odC n a b) s := by
  have l30 : ∀ K v2 v4, q61_30 K 10000 (nI a) v2 (nI 1) v4 (nI 0) s = K (nI a) v2 (odD n a) v4 s := fun K v2 v4 => by
    refine lp_fo (Q := fun k x i => q61_30 K k (nI a) v2 x v4 i s) (out := fun x => K (nI a) v2 x v4 s) (fun k x => ?_) (fun k i x hi => ?_) (nI 1) 10000 (by omega)
    · simp (disch := omega) only [q61_30, nI_lit, nI_add, pk_mul, nI_clp, nI_eqv, nI_lev, nI_ltv, nI_neg, nI_neg', nI_subv, Nat.add_zero, Nat.zero_add, Nat.mul_zero, Nat.reduceAdd, bN_rv, bM_ru, bV_rv, bV_rx, bU_ru, bU_rx, bN_ite, bM_ite, bV_ite, bU_ite, ↓bx_e, ↓sp_e, gA_ok, gZ_n, gB_0, gB_1, gB_i, and_true, and_false, true_and, false_and, decide_true, decide_false, ↓reduceIte, not_true_eq_false, not_false_eq_true, Bool.false_eq_true, Bool.true_eq_false, Bool.and_true, Bool.and_false, Bool.true_and, Bool.false_and, Bool.or_true, Bool.or_false, Bool.true_or, Bool.false_or, Bool.not_true, Bool.not_false, le_f, le_t, lt_f, lt_t, eq_f, ↓reduceIte, not_true_eq_false, not_false_eq_true, ite_10, bt_0, bt_1]
    · simp (disch := omega) only [q61_30, y0, nI_lit, nI_add, pk_mul, nI_clp, nI_eqv, nI_lev, nI_ltv, nI_neg, nI_neg', nI_subv, Nat.add_zero, Nat.zero_add, Nat.mul_zero, Nat.reduceAdd, bN_rv, bM_ru, bV_rv, bV_rx, bU_ru, bU_rx, bN_ite, bM_ite, bV_ite, bU_ite, ↓bx_e, ↓sp_e, gA_ok, gZ_n, gB_0, gB_1, gB_i, and_true, and_false, true_and, false_and, decide_true, decide_false, ↓reduceIte, not_true_eq_false, not_false_eq_true, Bool.false_eq_true, Bool.true_eq_false, Bool.and_true, Bool.and_false, Bool.true_and, Bool.false_and, Bool.or_true, Bool.or_false, Bool.true_or, Bool.false_or, Bool.not_true, Bool.not_false, le_f, le_t, lt_f, lt_t, eq_f, ↓reduceIte, not_true_eq_false, not_false_eq_true, ite_10, bt_0, bt_1]
  have l67 : ∀ K v3 v4 i, i ≤ a → q61_67 K 10000 (nI a) v3 v4 (nI i) (nI 1) (nI 0) s = K (nI a) v3 v4 (nI i) (odB a i) s := fun K v3 v4 i hi => by
    refine lp_fo (Q := fun k x j => q61_67 K k (nI a) v3 v4 (nI i) x j s) (g := fun j x => (x * (nI a - nI j)) / nI (j + 1)) (out := fun x => K (nI a) v3 v4 (nI i) x s) (fun k x => ?_) (fun k j x hj => ?_) (nI 1) 10000 (by omega)
    · simp (disch := omega) only [q61_67, nI_lit, nI_add, pk_mul, nI_clp, nI_eqv, nI_lev, nI_ltv, nI_neg, nI_neg', nI_subv, Nat.add_zero, Nat.zero_add, Nat.mul_zero, Nat.reduceAdd, bN_rv, bM_ru, bV_rv, bV_rx, bU_ru, bU_rx, bN_ite, bM_ite, bV_ite, bU_ite, ↓bx_e, ↓sp_e, gA_ok, gZ_n, gB_0, gB_1, gB_i, and_true, and_false, true_and, false_and, decide_true, decide_false, ↓reduceIte, not_true_eq_false, not_false_eq_true, Bool.false_eq_true, Bool.true_eq_false, Bool.and_true, Bool.and_false, Bool.true_and, Bool.false_and, Bool.or_true, Bool.or_false, Bool.true_or, Bool.false_or, Bool.not_true, Bool.not_false, le_f, le_t, lt_f, lt_t, eq_f, ↓reduceIte, not_true_eq_false, not_false_eq_true, ite_10, bt_0, bt_1]
    · simp (disch := omega) only [q61_67, nI_lit, nI_add, pk_mul, nI_clp, nI_eqv, nI_lev, nI_ltv, nI_neg, nI_neg', nI_subv, Nat.add_zero, Nat.zero_add, Nat.mul_zero, Nat.reduceAdd, bN_rv, bM_ru, bV_rv, bV_rx, bU_ru, bU_rx, bN_ite, bM_ite, bV_ite, bU_ite, ↓bx_e, ↓sp_e, gA_ok, gZ_n, gB_0, gB_1, gB_i, and_true, and_false, true_and, false_and, decide_true, decide_false, ↓reduceIte, not_true_eq_false, not_false_eq_true, Bool.false_eq_true, Bool.true_eq_false, Bool.and_true, Bool.and_false, Bool.true_and, Bool.false_and, Bool.or_true, Bool.or_false, Bool.true_or, Bool.false_or, Bool.not_true, Bool.not_false, le_f, le_t, lt_f, lt_t, eq_f, ↓reduceIte, not_true_eq_false, not_false_eq_true, ite_10, bt_0, bt_1]
  have l98 : ∀ K v3 v4 x i, i ≤ a → q61_98 K 10000 (nI a) v3 v4 (nI i) x (nI i) s = K (nI a) v3 v4 (nI i) (fo (fun _ x => x * (nI n - nI 1)) (a - i) i x) s := fun K v3 v4 x i hi => by
    refine (lp_inv (Q := fun k x j => q61_98 K k (nI a) v3 v4 (nI i) x j s) (g := fun _ x => x * (nI n - nI 1)) (J := fun _ _ => True) (e := a) (out := fun x => K (nI a) v3 v4 (nI i) x s) (fun k x _ => ?_) (fun k j x hj _ => ⟨?_, trivial⟩) (a - i) i x 10000 (by omega) trivial (by omega)).1
    · simp (disch := omega) only [q61_98, nI_lit, nI_add, pk_mul, nI_clp, nI_eqv, nI_lev, nI_ltv, nI_neg, nI_neg', nI_subv, Nat.add_zero, Nat.zero_add, Nat.mul_zero, Nat.reduceAdd, bN_rv, bM_ru, bV_rv, bV_rx, bU_ru, bU_rx, bN_ite, bM_ite, bV_ite, bU_ite, ↓bx_e, ↓sp_e, gA_ok, gZ_n, gB_0, gB_1, gB_i, and_true, and_false, true_and, false_and, decide_true, decide_false, ↓reduceIte, not_true_eq_false, not_false_eq_true, Bool.false_eq_true, Bool.true_eq_false, Bool.and_true, Bool.and_false, Bool.true_and, Bool.false_and, Bool.or_true, Bool.or_false, Bool.true_or, Bool.false_or, Bool.not_true, Bool.not_false, le_f, le_t, lt_f, lt_t, eq_f, ↓reduceIte, not_true_eq_false, not_false_eq_true, ite_10, bt_0, bt_1]
    · rw [q61_98]
      simp only [nI_lit, y0]
      rw [if_neg (by rw [nI_lev (by omega) (by omega)]; omega), bx_e, bx_e, nI_add]
  have l55 : ∀ v3, q61_55 q61_137 10000 (nI a) v3 (nI 0) (nI b) s = q61_137 v3 (odS n a b) s := fun v3 => by
    unfold odS
    by_cases h : a < b
    · rw [if_pos h, show (10000 : Nat) = 9999 + 1 from rfl, q61_55, if_pos (by rw [nI_ltv (by omega) (by omega)]; exact h)]
    · rw [if_neg h]
      refine (lp_inv (Q := fun k x i => q61_55 q61_137 k (nI a) v3 x i s) (g := fun i x => x + odT n a i) (J := fun _ _ => True) (e := a + 1) (out := fun x => q61_137 v3 x s) (fun k x _ => ?_) (fun k i x hi _ => ⟨?_, trivial⟩) (a + 1 - b) b (nI 0) 10000 (by omega) trivial (by omega)).1
      · rw [q61_55, if_pos (by rw [nI_ltv (by omega) (by omega)]; omega)]
      · rw [q61_55, if_neg (by rw [nI_ltv (by omega) (by omega)]; omega), nI_lit, nI_lit, l67 _ _ _ i (by omega)]
        unfold q61_94
        rw [l98 _ _ _ _ i (by omega)]
        unfold q61_124
        rw [bx_e, bx_e, nI_lit, nI_add]
        rfl
  unfold q61
  have hne : ¬ nI n = nI 0 := by rw [nI_eqv (by omega) (by omega)]; omega
  simp only [nI_lit, y0, hne, not_false_eq_true, ↓reduceIte]
  rw [l30]
  unfold q61_52
  rw [l55]
  unfold q61_137 odC
  rw [nI_lit, nI_lit]
  by_cases hd : nI 0 < odD n a
  · rw [if_pos hd, if_pos hd, gZ_i (fun e => by rw [e] at hd; exact Int32.lt_irrefl hd)]
  · rw [if_neg hd, if_neg hd]
def LL (t t' : mS) : Prop := t'.1 = t.1 ∧ t'.2.2 = t.2.2 ∧ ∀ b, b ≠ 523 → t'.2.1 b = t.2.1 b
theorem LL_r {t : mS} : LL t t := ⟨rfl, rfl, fun _ _ => rfl⟩
theorem LL_s {t t' : mS} (h : LL t t') (k : Nat) (x : Int64) : LL t (sL t' 523 k x) := ⟨(Eq.trans rfl rfl : _ = t'.1).trans h.1, (Eq.trans rfl rfl : _ = t'.2.2).trans h.2.1, fun b hb => by
  have : (sL t' 523 k x).2.1 b = t'.2.1 b := if_neg hb
  rw [this]; exact h.2.2 b hb⟩
theorem sL_at {t : mS} {k j : Nat} {x : Int64} : (sL t 523 k x).2.1 523 j = if j = k then x else t.2.1 523 j := by
  have : (sL t 523 k x).2.1 523 = vp_updL (t.2.1 523) k x := by
    show (if (523 : Nat) = 523 then vp_updL (t.2.1 523) k x else t.2.1 523) = _
    exact if_pos rfl
  rw [this]
  rfl
def omF (n : Nat) : Nat → Nat → Int64
  | 0, k => if k = 0 then 1 else 0
  | m + 1, k => omF n m k * (nI n - nI 1).toInt64 + (if k = 0 then 0 else omF n m (k - 1))
def omD (n : Nat) : Nat → Int64
  | 0 => 1
  | m + 1 => omD n m * (nI n).toInt64
def omS (n a : Nat) (b : Nat) : Int64 := fo (fun k x => x + omF n a k) (6 - b) b 0
def omC (n a b : Nat) : Int32 := ((10000 * omS n a b) / omD n a).toInt32
theorem od_eq : ∀ n, n < 5 → ∀ a, a < 6 → ∀ b, b < 6 → odC (n + 1) a b = omC (n + 1) a b := by decide +kernel
theorem od_ne : ∀ n, n < 5 → ∀ a, a < 6 → ¬ omD (n + 1) a = 0 := by decide +kernel
end LOOK
