/-! ODDS, BOTH -/
section LOOK
variable {B : Nat} {s : mS}
theorem by_e {v : Int64} {k : Int64 → Option mQ} : by_ v k = k v := Eq.trans rfl rfl
theorem m324_62 {t : mS} {v1 v2 : Int32} {v3 : Int64} {K : Int32 → Int32 → Int64 → mS → Option mQ} : ∀ m i k t', LL t t' → i + m = 6 → m < k → (∀ j, j < i → t'.2.1 523 j = omF 0 0 j) → ∃ t'', q324_62 K k v1 v2 v3 (nI i) t' = K v1 v2 v3 t'' ∧ LL t t'' ∧ ∀ j, j < 6 → t''.2.1 523 j = omF 0 0 j := by
  intro m
  induction m with
  | zero =>
    intro i k t' hl hi hk hj
    cases k with
    | zero => omega
    | succ k =>
      have : i = 6 := by omega
      subst this
      exact ⟨t', by simp (disch := omega) only [q324_62, nI_lit, nI_add, pk_mul, nI_clp, nI_eqv, nI_lev, nI_ltv, nI_neg, nI_neg', nI_subv, Nat.add_zero, Nat.zero_add, Nat.mul_zero, Nat.reduceAdd, bN_rv, bM_ru, bV_rv, bV_rx, bU_ru, bU_rx, bN_ite, bM_ite, bV_ite, bU_ite, ↓bx_e, ↓sp_e, gA_ok, gZ_n, gB_0, gB_1, gB_i, and_true, and_false, true_and, false_and, decide_true, decide_false, ↓reduceIte, not_true_eq_false, not_false_eq_true, Bool.false_eq_true, Bool.true_eq_false, Bool.and_true, Bool.and_false, Bool.true_and, Bool.false_and, Bool.or_true, Bool.or_false, Bool.true_or, Bool.false_or, Bool.not_true, Bool.not_false, le_f, le_t, lt_f, lt_t, eq_f, ↓reduceIte, not_true_eq_false, not_false_eq_true, ite_10, bt_0, bt_1], hl, hj⟩
  | succ m ih =>
    intro i k t' hl hi hk hj
    cases k with
    | zero => omega
    | succ k =>
      have hs : q324_62 K (k + 1) v1 v2 v3 (nI i) t' = q324_62 K k v1 v2 v3 (nI (i + 1)) (sL t' 523 i (omF 0 0 i)) := by
        rcases Nat.eq_zero_or_pos i with e | e
        · subst e
          simp (disch := omega) only [q324_62, q324_84, omF, nI_lit, nI_add, pk_mul, nI_clp, nI_eqv, nI_lev, nI_ltv, nI_neg, nI_neg', nI_subv, Nat.add_zero, Nat.zero_add, Nat.mul_zero, Nat.reduceAdd, bN_rv, bM_ru, bV_rv, bV_rx, bU_ru, bU_rx, bN_ite, bM_ite, bV_ite, bU_ite, ↓bx_e, ↓sp_e, gA_ok, gZ_n, gB_0, gB_1, gB_i, and_true, and_false, true_and, false_and, decide_true, decide_false, ↓reduceIte, not_true_eq_false, not_false_eq_true, Bool.false_eq_true, Bool.true_eq_false, Bool.and_true, Bool.and_false, Bool.true_and, Bool.false_and, Bool.or_true, Bool.or_false, Bool.true_or, Bool.false_or, Bool.not_true, Bool.not_false, le_f, le_t, lt_f, lt_t, eq_f, ↓reduceIte, not_true_eq_false, not_false_eq_true, ite_10, bt_0, bt_1]
        · have e0 : ¬ i = 0 := by omega
          simp (disch := omega) only [q324_62, q324_84, omF, e0, nI_lit, nI_add, pk_mul, nI_clp, nI_eqv, nI_lev, nI_ltv, nI_neg, nI_neg', nI_subv, Nat.add_zero, Nat.zero_add, Nat.mul_zero, Nat.reduceAdd, bN_rv, bM_ru, bV_rv, bV_rx, bU_ru, bU_rx, bN_ite, bM_ite, bV_ite, bU_ite, ↓bx_e, ↓sp_e, gA_ok, gZ_n, gB_0, gB_1, gB_i, and_true, and_false, true_and, false_and, decide_true, decide_false, ↓reduceIte, not_true_eq_false, not_false_eq_true, Bool.false_eq_true, Bool.true_eq_false, Bool.and_true, Bool.and_false, Bool.true_and, Bool.false_and, Bool.or_true, Bool.or_false, Bool.true_or, Bool.false_or, Bool.not_true, Bool.not_false, le_f, le_t, lt_f, lt_t, eq_f, ↓reduceIte, not_true_eq_false, not_false_eq_true, ite_10, bt_0, bt_1]
      rw [hs]
      refine ih (i + 1) k _ (LL_s hl _ _) (by omega) (by omega) (fun j hj' => ?_)
      rw [sL_at]
      split
      · rename_i e; rw [e]
      · exact hj j (by omega)
theorem m324_103 {t : mS} {n : Nat} (f0 : t.1 513 0 = nI n) {F : Nat → Int64} {v1 v2 v5 : Int32} {v3 : Int64} {K : Int32 → Int32 → Int64 → Int32 → mS → Option mQ} : ∀ m k t', LL t t' → m < 6 → m + 1 < k → (∀ j, j ≤ m → t'.2.1 523 j = F j) → (∀ j, m < j → j < 6 → t'.2.1 523 j = F j * (nI n - nI 1).toInt64 + (if j = 0 then 0 else F (j - 1))) → ∃ t'', q324_103 K k v1 v2 v3 v5 (nI m) t' = K v1 v2 v3 v5 t'' ∧ LL t t'' ∧ ∀ j, j < 6 → t''.2.1 523 j = F j * (nI n - nI 1).toInt64 + (if j = 0 then 0 else F (j - 1)) := by
  intro m
  induction m with
  | zero =>
    intro k t' hl hm hk h1 h2
    cases k with
    | zero => omega
    | succ k =>
      cases k with
      | zero => omega
      | succ k =>
        have f0' : t'.1 513 0 = nI n := by rw [hl.1]; exact f0
        have e0 := h1 0 (by omega)
        refine ⟨sL t' 523 0 (F 0 * (nI n - nI 1).toInt64 + 0), ?_, LL_s hl _ _, fun j hj => ?_⟩
        · have hz : nI 0 + -nI 1 = -nI 1 := by decide
          have hneg : -nI 1 < nI 0 := by decide
          have hp : ¬ nI 0 < nI 0 := by decide
          have hc : (nI 0).toNatClampNeg = 0 := by decide
          rw [q324_103]
          simp (disch := omega) only [nI_lit, hp, ↓reduceIte, gA_ok, q198, hc, f0', bN_rv, not_true_eq_false, e0, q324_147, sp_e, bx_e, hz]
          rw [q324_103]
          simp only [nI_lit, hneg, ↓reduceIte]
        · rw [sL_at]
          by_cases e : j = 0
          · subst e; rw [if_pos rfl, if_pos rfl]
          · rw [if_neg e]; exact h2 j (by omega) hj
  | succ m ih =>
    intro k t' hl hm hk h1 h2
    cases k with
    | zero => omega
    | succ k =>
      have f0' : t'.1 513 0 = nI n := by rw [hl.1]; exact f0
      have e0 := h1 (m + 1) (by omega)
      have e1 := h1 m (by omega)
      have hs : q324_103 K (k + 1) v1 v2 v3 v5 (nI (m + 1)) t' = q324_103 K k v1 v2 v3 v5 (nI m) (sL t' 523 (m + 1) (F (m + 1) * (nI n - nI 1).toInt64 + F m)) := by
        have hp : ¬ nI (m + 1) < nI 0 := nI_pos (by omega)
        have hne : ¬ nI (m + 1) = nI 0 := by rw [nI_eqv (by omega) (by omega)]; omega
        have hc : (nI (m + 1)).toNatClampNeg = m + 1 := nI_clp (by omega)
        have hc0 : (nI 0).toNatClampNeg = 0 := by decide
        have hsb : nI (m + 1) - nI 1 = nI m := by rw [nI_subv (by omega)]; rfl
        have hcm : (nI m).toNatClampNeg = m := nI_clp (by omega)
        rw [q324_103]
        simp (disch := omega) only [nI_lit, hp, hne, ↓reduceIte, not_false_eq_true, gA_ok, q198, hc, hc0, hsb, hcm, f0', bN_rv, e0, e1, q324_147, sp_e, bx_e, nI_dec]
      rw [hs]
      refine ih k _ (LL_s hl _ _) (by omega) (by omega) (fun j hj => ?_) (fun j hj hj6 => ?_)
      · rw [sL_at, if_neg (by omega)]; exact h1 j (by omega)
      · rw [sL_at]
        split
        · rename_i e; subst e
          rw [if_neg (by omega)]; rfl
        · exact h2 j (by omega) hj6
theorem m324_94 {t : mS} {n a : Nat} (ha : a ≤ 5) (f0 : t.1 513 0 = nI n) {v2 : Int32} {K : Int32 → Int64 → mS → Option mQ} : ∀ m i k t', LL t t' → i + m = a → m < k → (∀ j, j < 6 → t'.2.1 523 j = omF n i j) → ∃ t'', q324_94 K k (nI a) v2 (omD n i) (nI i) t' = K v2 (omD n a) t'' ∧ LL t t'' ∧ ∀ j, j < 6 → t''.2.1 523 j = omF n a j := by
  intro m
  induction m with
  | zero =>
    intro i k t' hl hi hk hj
    cases k with
    | zero => omega
    | succ k =>
      have : i = a := by omega
      subst this
      exact ⟨t', by simp (disch := omega) only [q324_94, nI_lit, nI_add, pk_mul, nI_clp, nI_eqv, nI_lev, nI_ltv, nI_neg, nI_neg', nI_subv, Nat.add_zero, Nat.zero_add, Nat.mul_zero, Nat.reduceAdd, bN_rv, bM_ru, bV_rv, bV_rx, bU_ru, bU_rx, bN_ite, bM_ite, bV_ite, bU_ite, ↓bx_e, ↓sp_e, gA_ok, gZ_n, gB_0, gB_1, gB_i, and_true, and_false, true_and, false_and, decide_true, decide_false, ↓reduceIte, not_true_eq_false, not_false_eq_true, Bool.false_eq_true, Bool.true_eq_false, Bool.and_true, Bool.and_false, Bool.true_and, Bool.false_and, Bool.or_true, Bool.or_false, Bool.true_or, Bool.false_or, Bool.not_true, Bool.not_false, le_f, le_t, lt_f, lt_t, eq_f, ↓reduceIte, not_true_eq_false, not_false_eq_true, ite_10, bt_0, bt_1], hl, hj⟩
  | succ m ih =>
    intro i k t' hl hi hk hj
    cases k with
    | zero => omega
    | succ k =>
      obtain ⟨t1, j1, j2, j3⟩ := m324_103 f0 (F := omF n i) (v1 := nI a) (v2 := v2) (v5 := nI i) (v3 := omD n i) (K := q324_155 (q324_94 K k)) 5 10000 t' hl (by omega) (by omega) (fun j h => hj j (by omega)) (fun j h1 h2 => by omega)
      have f01 : t1.1 513 0 = nI n := by rw [j2.1]; exact f0
      obtain ⟨t2, l1, l2, l3⟩ := ih (i + 1) k t1 j2 (by omega) (by omega) (fun j h => by rw [j3 j h]; rfl)
      refine ⟨t2, ?_, l2, l3⟩
      rw [← l1, q324_94, if_neg (by rw [nI_lev (by omega) (by omega)]; omega), nI_lit, j1]
      unfold q324_155
      have hc0 : (nI 0).toNatClampNeg = 0 := by decide
      simp (disch := omega) only [nI_lit, gA_ok, q198, hc0, f01, bN_rv, by_e, bx_e, nI_add]
      rfl
theorem m324_175 {t : mS} {n a : Nat} {v3 : Int64} (hF : ∀ j, j < 6 → t.2.1 523 j = omF n a j) {b : Nat} (hb : b ≤ 5) : q324_175 q324_199 10000 v3 0 (nI b) t = q324_199 v3 (omS n a b) t := by
  unfold omS
  refine (lp_inv (Q := fun k x i => q324_175 q324_199 k v3 x i t) (g := fun k x => x + omF n a k) (J := fun _ _ => True) (e := 6) (out := fun x => q324_199 v3 x t) (fun k x _ => ?_) (fun k i x hi _ => ⟨?_, trivial⟩) (6 - b) b 0 10000 (by omega) trivial (by omega)).1
  · simp (disch := omega) only [q324_175, nI_lit, nI_add, pk_mul, nI_clp, nI_eqv, nI_lev, nI_ltv, nI_neg, nI_neg', nI_subv, Nat.add_zero, Nat.zero_add, Nat.mul_zero, Nat.reduceAdd, bN_rv, bM_ru, bV_rv, bV_rx, bU_ru, bU_rx, bN_ite, bM_ite, bV_ite, bU_ite, ↓bx_e, ↓sp_e, gA_ok, gZ_n, gB_0, gB_1, gB_i, and_true, and_false, true_and, false_and, decide_true, decide_false, ↓reduceIte, not_true_eq_false, not_false_eq_true, Bool.false_eq_true, Bool.true_eq_false, Bool.and_true, Bool.and_false, Bool.true_and, Bool.false_and, Bool.or_true, Bool.or_false, Bool.true_or, Bool.false_or, Bool.not_true, Bool.not_false, le_f, le_t, lt_f, lt_t, eq_f, ↓reduceIte, not_true_eq_false, not_false_eq_true, ite_10, bt_0, bt_1]
  · have := hF i hi
    have hc : (nI i).toNatClampNeg = i := nI_clp (by omega)
    rw [q324_175, if_neg (by rw [nI_lit, nI_ltv (by omega) (by omega)]; omega)]
    simp (disch := omega) only [nI_lit, gA_ok, hc, this, by_e, bx_e, nI_add]
theorem z_odds (hG : G B s) (v1 v2 : Int32) : ZT B [(0, 13, 1)] (q160 v1 v2) (q324 v1 v2) s := by
  have hG0 := hG
  obtain ⟨⟨hR, hL, T, hT, hA⟩, -⟩ := hG0
  obtain ⟨n, hn, f0, y0, -⟩ := hR.2.1
  simp only [Nat.reduceAdd] at y0
  have bad1 : (v1 < nI 0 ∨ nI 6 ≤ v1) → ZT B [(0, 13, 1)] (q160 v1 v2) (q324 v1 v2) s := fun h => by
    refine ZX_t (x := 0) (u := 0) (w := 13) (c := 1) (v := nI 0) hG ?_ rfl (by omega) (by omega) (fun t ht => ?_)
    · unfold q160 q160_18
      simp only [nI_lit]
      by_cases h0 : v1 < nI 0
      · simp only [h0, ↓reduceIte]
      · have h1 : nI 5 < v1 := Int32.lt_of_lt_of_le (by decide) (h.resolve_left h0)
        simp only [h0, h1, ↓reduceIte]
    · unfold q324
      rw [nI_lit, nI_lit]; simp only [sp_e]
      rw [in_f (by omega) h, bN_rv, if_pos rfl]
      unfold q324_24 q324_29
      rw [nI_lit, m188_1, bN_rv, nI_lit, if_neg (by decide)]
  rcases ix_of v1 6 (by omega) with h | h | ⟨a, ha, e⟩
  · exact bad1 (Or.inl h)
  · exact bad1 (Or.inr h)
  · subst e
    have bad2 : (v2 < nI 0 ∨ nI 6 ≤ v2) → ZT B [(0, 13, 1)] (q160 (nI a) v2) (q324 (nI a) v2) s := fun h => by
      refine ZX_t (x := 0) (u := 0) (w := 13) (c := 1) (v := nI 0) hG ?_ rfl (by omega) (by omega) (fun t ht => ?_)
      · have q0 : ¬ nI a < nI 0 := nI_pos (by omega)
        have q1 : ¬ nI 5 < nI a := by rw [nI_ltv (by omega) (by omega)]; omega
        unfold q160 q160_18
        simp only [nI_lit, q0, q1, ↓reduceIte]
        by_cases h0 : v2 < nI 0
        · simp only [h0, ↓reduceIte]
        · have h1 : ¬ v2 ≤ nI 5 := Int32.not_le.mpr (Int32.lt_of_lt_of_le (by decide) (h.resolve_left h0))
          simp only [h0, h1, ↓reduceIte]
      · unfold q324
        rw [nI_lit, nI_lit]; simp only [sp_e]
        rw [in_t (by omega) (by omega), bN_rv, if_neg (by decide), in_f (by omega) h, bN_rv, if_neg (not_not_intro rfl)]
        unfold q324_24 q324_29
        rw [nI_lit, m188_1, bN_rv, nI_lit, if_neg (by decide)]
    rcases ix_of v2 6 (by omega) with h | h | ⟨b, hb, e2⟩
    · exact bad2 (Or.inl h)
    · exact bad2 (Or.inr h)
    · subst e2
      have q0 : ¬ nI a < nI 0 := nI_pos (by omega)
      have q1 : ¬ nI 5 < nI a := by rw [nI_ltv (by omega) (by omega)]; omega
      have q2 : ¬ nI b < nI 0 := nI_pos (by omega)
      have q3 : nI b ≤ nI 5 := by rw [nI_lev (by omega) (by omega)]; omega
      have hc : q160 (nI a) (nI b) s = bN (q61 (nI a) (nI b) s) fun x2 s1 => rv x2 s1 := by
        unfold q160
        simp only [nI_lit, q0, q1, q2, q3, ↓reduceIte]
      have hm : ∀ t : mS, q324 (nI a) (nI b) t = bN (q198 (sI t 512 0 (nI 0))) fun x16 s15 => if ¬ x16 = nI 0 then (q324_62 q324_91 10000 (nI a) (nI b) (1 : Int64) (nI 0) s15) else (if ¬ nI b = nI 0 then (rv (nI 0) s15) else (rv (nI 10000) s15)) := fun t => by
        unfold q324
        rw [nI_lit, nI_lit]; simp only [sp_e]
        rw [in_t (by omega) (by omega), bN_rv, if_neg (by decide), in_t (by omega) (by omega), bN_rv, if_pos (by decide)]
        unfold q324_29
        rw [nI_lit, m188_0, bN_rv, nI_lit, if_pos rfl, nI_lit]
      rcases Nat.eq_zero_or_pos n with e | hp
      · subst e
        refine ZV_0 (v := if ¬ nI b = nI 0 then nI 0 else nI 10000) hG ?_ (fun t ht => ?_)
        · rw [hc]
          unfold q61
          simp only [nI_lit, y0, not_true_eq_false, ↓reduceIte]
          by_cases hb0 : nI b = nI 0 <;> simp only [hb0, not_true_eq_false, not_false_eq_true, ↓reduceIte, bN_rv]
        · rw [hm t]
          have f0' : (sI t 512 0 (nI 0)).1 513 0 = nI 0 := by rw [t0_513, ht]; exact f0
          have hc0 : (nI 0).toNatClampNeg = 0 := by decide
          unfold q198
          simp (disch := omega) only [nI_lit, gA_ok, hc0, f0', bN_rv, not_true_eq_false, ↓reduceIte]
          by_cases hb0 : nI b = nI 0 <;> simp only [hb0, not_true_eq_false, not_false_eq_true, ↓reduceIte]
      · refine Or.inl ⟨odC n a b, s, ?_, rfl, fun t ht => ?_⟩
        · rw [hc, p61 hn hp (by omega) (by omega) y0, bN_rv]
        · have f0' : (sI t 512 0 (nI 0)).1 513 0 = nI n := by rw [t0_513, ht]; exact f0
          have hc0 : (nI 0).toNatClampNeg = 0 := by decide
          have hne : ¬ nI n = nI 0 := by rw [nI_eqv (by omega) (by omega)]; omega
          obtain ⟨t1, j1, j2, j3⟩ := m324_62 (t := sI t 512 0 (nI 0)) (v1 := nI a) (v2 := nI b) (v3 := 1) (K := q324_91) 6 0 10000 _ LL_r (by omega) (by omega) (fun j hj => by omega)
          obtain ⟨t2, l1, l2, l3⟩ := m324_94 (t := sI t 512 0 (nI 0)) (n := n) (a := a) (by omega) f0' (v2 := nI b) (K := q324_169) a 0 10000 t1 j2 (by omega) (by omega) (fun j hj => j3 j hj)
          have G2 : G B t2 := by
            refine G_c (G_c (G_c hG (Gq_1 ht)) (Gq_0 (x := nI 0))) (Gq_1 l2.1)
          refine ⟨t2, ?_, ⟨l2.2.1.trans (Eq.trans rfl rfl : _ = t.2.2), fun b' hb' => (l2.2.2 b' hb').trans (Eq.trans rfl rfl : _ = t.2.1 b')⟩, by rw [l2.1]; exact t0_0, G2⟩
          rw [hm t]
          unfold q198
          simp (disch := omega) only [nI_lit, gA_ok, hc0, f0', bN_rv, hne, not_false_eq_true, ↓reduceIte]
          rw [j1]
          unfold q324_91
          rw [nI_lit]
          refine l1.trans ?_
          unfold q324_169
          rw [m324_175 l3 (by omega)]
          unfold q324_199
          have en := od_ne (n - 1) (by omega) a ha
          have eq := od_eq (n - 1) (by omega) a ha b hb
          rw [Nat.sub_add_cancel hp] at en eq
          rw [eq]
          have : gY (omD n a) (rv ((10000 * omS n a b / omD n a).toInt32) t2) = rv ((10000 * omS n a b / omD n a).toInt32) t2 := if_neg en
          exact this
end LOOK
