/-! HISTORY, VERSION -/
section LOOK
variable {B : Nat} {s : mS}
theorem p14 {y o r : Nat} (y1 : s.1 y 1 = nI o) (ho : o < 12) (hr : r < 12) : q14 y (nI r) s = rv (nI ((o + r) % 12)) s := by
  unfold q14
  rw [nI_lit, y1, nI_add, nI_rem (by omega) (by omega) (by omega)]
  simp (disch := omega) only [gZ_n, nI_eqv, eq_f, and_true, and_false, true_and, false_and, decide_true, decide_false, ↓reduceIte, not_true_eq_false, not_false_eq_true, Bool.false_eq_true, Bool.true_eq_false, Bool.and_true, Bool.and_false, Bool.true_and, Bool.false_and, Bool.or_true, Bool.or_false, Bool.true_or, Bool.false_or, Bool.not_true, Bool.not_false]
theorem z_history (hG : G B s) (v1 v2 : Int32) : ZT B [(3, 13, 1)] (q149 v1 v2) (q295 v1 v2) s := by
  have hG0 := hG
  obtain ⟨⟨hR, hL, T, hT, hA⟩, -⟩ := hG0
  have bad : (v2 < nI 0 ∨ nI 4 ≤ v2) → ZT B [(3, 13, 1)] (q149 v1 v2) (q295 v1 v2) s := fun h =>
    ZX_t (x := 3) (u := 3) (w := 13) (c := 1) hG (by unfold q149; rw [nI_lit, p184_f (by omega) h]; rfl) rfl (by omega) (by omega) (fun t ht => by
      unfold q295
      rw [nI_lit, nI_lit]; simp only [sp_e]
      rw [in_f (by omega) h, bN_rv, if_neg (not_not_intro rfl)]
      unfold q295_20
      rw [nI_lit, m188_1, bN_rv, nI_lit, if_neg (by decide)])
  rcases ix_of v2 4 (by omega) with h | h | ⟨w, hw, e2⟩
  · exact bad (Or.inl h)
  · exact bad (Or.inr h)
  · subst e2
    obtain ⟨n, o, hn, ho, f7, y0, y1, hq⟩ := hR.2.2.2.2.1
    simp only [Nat.reduceAdd] at y0 y1 hq
    have hm : ∀ t : mS, t.1 = s.1 → q295 v1 (nI w) t = bN (q189 v1 (nI 0) (nI n - nI 1) (sI t 512 0 (nI 0))) fun x4 s3 => if x4 = nI 0 then (rv (-nI 1) s3) else (bN (q294 v1 (nI w) s3) fun x6 s5 => rv x6 s5) := fun t ht => by
      unfold q295
      rw [nI_lit, nI_lit]; simp only [sp_e]
      rw [in_t (by omega) (by omega), bN_rv, if_pos (by decide)]
      unfold q295_20
      rw [nI_lit, m188_0, bN_rv, nI_lit, if_pos rfl]
      have f7' : (sI t 512 0 (nI 0)).1 513 7 = nI n := by rw [t0_513, ht]; exact f7
      simp (disch := omega) only [nI_lit, nI_clp, gA_ok, f7', nI_neg']
    have out : (v1 < nI 0 ∨ nI n ≤ v1) → ZT B [(3, 13, 1)] (q149 v1 (nI w)) (q295 v1 (nI w)) s := fun h => by
      refine ZV_0 (v := -nI 1) hG ?_ (fun t ht => ?_)
      · unfold q149
        rw [nI_lit, p184_t (by omega) (by omega), bU_ru, nI_lit]
        simp only [Nat.reduceAdd, y0]
        by_cases h0 : v1 < nI 0
        · simp only [h0, ↓reduceIte]; rfl
        · have h1 : ¬ v1 < nI n := Int32.not_lt.mpr (h.resolve_left h0)
          simp only [h0, h1, ↓reduceIte]; rfl
      · rw [hm t ht, in_mf (by omega) h, bN_rv, if_pos rfl]
    rcases ix_of v1 n (by omega) with h | h | ⟨r, hr, e⟩
    · exact out (Or.inl h)
    · exact out (Or.inr h)
    · subst e
      refine ZV_0 (v := s.1 513 (242 + 24 * r + w)) hG ?_ (fun t ht => ?_)
      · unfold q149
        obtain ⟨k1, k2, k3, k4, -⟩ := hq r hr
        rw [nI_lit, p184_t (by omega) (by omega), bU_ru]
        have hx : (o + r) % 12 < 12 := Nat.mod_lt _ (by omega)
        have q14e := p14 (s := s) (y := 44) y1 ho (r := r) (by omega)
        simp (disch := omega) only [y0, q14e, nI_lit, nI_ltv, lt_f, lt_t, ↓reduceIte, bN_rv, Nat.reduceAdd, and_true, and_false, true_and, false_and, decide_true, decide_false, ↓reduceIte, not_true_eq_false, not_false_eq_true, Bool.false_eq_true, Bool.true_eq_false, Bool.and_true, Bool.and_false, Bool.true_and, Bool.false_and, Bool.or_true, Bool.or_false, Bool.true_or, Bool.false_or, Bool.not_true, Bool.not_false]
        generalize hm : (o + r) % 12 = m at *
        rcases (by omega : w = 0 ∨ w = 1 ∨ w = 2 ∨ w = 3) with e | e | e | e <;> subst e
        · simp (disch := omega) only [k1, nI_lit, nI_add, pk_mul, nI_clp, nI_eqv, nI_lev, nI_ltv, nI_neg, nI_neg', nI_subv, Nat.add_zero, Nat.zero_add, Nat.mul_zero, Nat.reduceAdd, bN_rv, bM_ru, bV_rv, bV_rx, bU_ru, bU_rx, bN_ite, bM_ite, bV_ite, bU_ite, ↓bx_e, ↓sp_e, gA_ok, gZ_n, gB_0, gB_1, gB_i, and_true, and_false, true_and, false_and, decide_true, decide_false, ↓reduceIte, not_true_eq_false, not_false_eq_true, Bool.false_eq_true, Bool.true_eq_false, Bool.and_true, Bool.and_false, Bool.true_and, Bool.false_and, Bool.or_true, Bool.or_false, Bool.true_or, Bool.false_or, Bool.not_true, Bool.not_false, le_f, le_t, lt_f, lt_t, eq_f, ↓reduceIte, not_true_eq_false, not_false_eq_true, ite_10, bt_0, bt_1]
        · simp (disch := omega) only [k2, nI_lit, nI_add, pk_mul, nI_clp, nI_eqv, nI_lev, nI_ltv, nI_neg, nI_neg', nI_subv, Nat.add_zero, Nat.zero_add, Nat.mul_zero, Nat.reduceAdd, bN_rv, bM_ru, bV_rv, bV_rx, bU_ru, bU_rx, bN_ite, bM_ite, bV_ite, bU_ite, ↓bx_e, ↓sp_e, gA_ok, gZ_n, gB_0, gB_1, gB_i, and_true, and_false, true_and, false_and, decide_true, decide_false, ↓reduceIte, not_true_eq_false, not_false_eq_true, Bool.false_eq_true, Bool.true_eq_false, Bool.and_true, Bool.and_false, Bool.true_and, Bool.false_and, Bool.or_true, Bool.or_false, Bool.true_or, Bool.false_or, Bool.not_true, Bool.not_false, le_f, le_t, lt_f, lt_t, eq_f, ↓reduceIte, not_true_eq_false, not_false_eq_true, ite_10, bt_0, bt_1]
        · simp (disch := omega) only [k3, nI_lit, nI_add, pk_mul, nI_clp, nI_eqv, nI_lev, nI_ltv, nI_neg, nI_neg', nI_subv, Nat.add_zero, Nat.zero_add, Nat.mul_zero, Nat.reduceAdd, bN_rv, bM_ru, bV_rv, bV_rx, bU_ru, bU_rx, bN_ite, bM_ite, bV_ite, bU_ite, ↓bx_e, ↓sp_e, gA_ok, gZ_n, gB_0, gB_1, gB_i, and_true, and_false, true_and, false_and, decide_true, decide_false, ↓reduceIte, not_true_eq_false, not_false_eq_true, Bool.false_eq_true, Bool.true_eq_false, Bool.and_true, Bool.and_false, Bool.true_and, Bool.false_and, Bool.or_true, Bool.or_false, Bool.true_or, Bool.false_or, Bool.not_true, Bool.not_false, le_f, le_t, lt_f, lt_t, eq_f, ↓reduceIte, not_true_eq_false, not_false_eq_true, ite_10, bt_0, bt_1]
        · simp (disch := omega) only [k4, nI_lit, nI_add, pk_mul, nI_clp, nI_eqv, nI_lev, nI_ltv, nI_neg, nI_neg', nI_subv, Nat.add_zero, Nat.zero_add, Nat.mul_zero, Nat.reduceAdd, bN_rv, bM_ru, bV_rv, bV_rx, bU_ru, bU_rx, bN_ite, bM_ite, bV_ite, bU_ite, ↓bx_e, ↓sp_e, gA_ok, gZ_n, gB_0, gB_1, gB_i, and_true, and_false, true_and, false_and, decide_true, decide_false, ↓reduceIte, not_true_eq_false, not_false_eq_true, Bool.false_eq_true, Bool.true_eq_false, Bool.and_true, Bool.and_false, Bool.true_and, Bool.false_and, Bool.or_true, Bool.or_false, Bool.true_or, Bool.false_or, Bool.not_true, Bool.not_false, le_f, le_t, lt_f, lt_t, eq_f, ↓reduceIte, not_true_eq_false, not_false_eq_true, ite_10, bt_0, bt_1]
      · rw [hm t ht, in_mt hr (by omega), bN_rv, if_neg (by decide)]
        unfold q294 q266
        simp (disch := omega) only [t0_513, ht, nI_lit, nI_add, pk_mul, nI_clp, nI_eqv, nI_lev, nI_ltv, nI_neg, nI_neg', nI_subv, Nat.add_zero, Nat.zero_add, Nat.mul_zero, Nat.reduceAdd, bN_rv, bM_ru, bV_rv, bV_rx, bU_ru, bU_rx, bN_ite, bM_ite, bV_ite, bU_ite, ↓bx_e, ↓sp_e, gA_ok, gZ_n, gB_0, gB_1, gB_i, and_true, and_false, true_and, false_and, decide_true, decide_false, ↓reduceIte, not_true_eq_false, not_false_eq_true, Bool.false_eq_true, Bool.true_eq_false, Bool.and_true, Bool.and_false, Bool.true_and, Bool.false_and, Bool.or_true, Bool.or_false, Bool.true_or, Bool.false_or, Bool.not_true, Bool.not_false, le_f, le_t, lt_f, lt_t, eq_f, ↓reduceIte, not_true_eq_false, not_false_eq_true, ite_10, bt_0, bt_1]
theorem z_version (hG : G B s) (v1 v2 v3 : Int32) : ZT B [(2, 15, 1)] (q150 v1 v2 v3) (q297 v1 v2 v3) s := by
  have hG0 := hG
  obtain ⟨⟨hR, hL, T, hT, hA⟩, -⟩ := hG0
  have bad : (v2 < nI 0 ∨ nI 10 ≤ v2) → ZT B [(2, 15, 1)] (q150 v1 v2 v3) (q297 v1 v2 v3) s := fun h =>
    ZX_t (x := 2) (u := 2) (w := 15) (c := 1) hG (by unfold q150; rw [p180_f h]; rfl) rfl (by omega) (by omega) (fun t ht => by
      unfold q297
      rw [nI_lit, nI_lit]; simp only [sp_e]
      rw [m274_f h, bN_rv, m188_1, bN_rv, if_neg (by decide)])
  rcases ix_of v2 10 (by omega) with h | h | ⟨k, hk, e2⟩
  · exact bad (Or.inl h)
  · exact bad (Or.inr h)
  · subst e2
    obtain ⟨n, o, hn, ho, f7, y0, y1, hq⟩ := hR.2.2.2.2.1
    simp only [Nat.reduceAdd] at y0 y1 hq
    have hm : ∀ t : mS, t.1 = s.1 → q297 v1 (nI k) v3 t = bN (q189 v1 (nI 0) (nI n - nI 1) (sI t 512 0 (nI 0))) fun x7 s6 => if x7 = nI 0 then (rv (-nI 1) s6) else (bN (q296 v1 (nI k) v3 s6) fun x9 s8 => rv x9 s8) := fun t ht => by
      unfold q297
      rw [nI_lit, nI_lit]; simp only [sp_e]
      rw [m274_t hk, bN_rv, m188_0, bN_rv, if_pos rfl]
      have f7' : (sI t 512 0 (nI 0)).1 513 7 = nI n := by rw [t0_513, ht]; exact f7
      simp (disch := omega) only [nI_lit, nI_clp, gA_ok, f7', nI_neg']
    have out : (v1 < nI 0 ∨ nI n ≤ v1) → ZT B [(2, 15, 1)] (q150 v1 (nI k) v3) (q297 v1 (nI k) v3) s := fun h => by
      refine ZV_0 (v := -nI 1) hG ?_ (fun t ht => ?_)
      · unfold q150
        rw [p180_t hk, bU_ru, nI_lit]
        simp only [Nat.reduceAdd, y0]
        by_cases h0 : v1 < nI 0
        · simp only [h0, ↓reduceIte]; rfl
        · have h1 : ¬ v1 < nI n := Int32.not_lt.mpr (h.resolve_left h0)
          simp only [h0, h1, ↓reduceIte]; rfl
      · rw [hm t ht, in_mf (by omega) h, bN_rv, if_pos rfl]
    rcases ix_of v1 n (by omega) with h | h | ⟨r, hr, e⟩
    · exact out (Or.inl h)
    · exact out (Or.inr h)
    · subst e
      refine ZV_0 (v := if v3 = nI 0 then (if bt (s.1 513 (242 + 24 * r + 2)) k = true then s.1 513 (242 + 24 * r + 4 + k) else -nI 1) else (if bt (s.1 513 (242 + 24 * r + 3)) k = true then s.1 513 (242 + 24 * r + 14 + k) else -nI 1)) hG ?_ (fun t ht => ?_)
      · unfold q150 q150_59
        obtain ⟨k1, k2, k3, k4, k5⟩ := hq r hr
        obtain ⟨k5, k6⟩ := k5 k hk
        rw [p180_t hk, bU_ru]
        have hx : (o + r) % 12 < 12 := Nat.mod_lt _ (by omega)
        have q14e := p14 (s := s) (y := 44) y1 ho (r := r) (by omega)
        simp (disch := omega) only [y0, q14e, nI_lit, nI_ltv, lt_f, lt_t, ↓reduceIte, bN_rv, Nat.reduceAdd, and_true, and_false, true_and, false_and, decide_true, decide_false, ↓reduceIte, not_true_eq_false, not_false_eq_true, Bool.false_eq_true, Bool.true_eq_false, Bool.and_true, Bool.and_false, Bool.true_and, Bool.false_and, Bool.or_true, Bool.or_false, Bool.true_or, Bool.false_or, Bool.not_true, Bool.not_false]
        generalize hm : (o + r) % 12 = m at *
        have em : m * 10 + k = 10 * m + k := by omega
        by_cases h3 : v3 = nI 0
        · simp only [h3, ↓reduceIte]
          simp (disch := omega) only [k3, em, k5, nI_lit, nI_add, pk_mul, nI_clp, nI_eqv, nI_lev, nI_ltv, nI_neg, nI_neg', nI_subv, Nat.add_zero, Nat.zero_add, Nat.mul_zero, Nat.reduceAdd, bN_rv, bM_ru, bV_rv, bV_rx, bU_ru, bU_rx, bN_ite, bM_ite, bV_ite, bU_ite, ↓bx_e, ↓sp_e, gA_ok, gZ_n, gB_0, gB_1, gB_i, and_true, and_false, true_and, false_and, decide_true, decide_false, ↓reduceIte, not_true_eq_false, not_false_eq_true, Bool.false_eq_true, Bool.true_eq_false, Bool.and_true, Bool.and_false, Bool.true_and, Bool.false_and, Bool.or_true, Bool.or_false, Bool.true_or, Bool.false_or, Bool.not_true, Bool.not_false, le_f, le_t, lt_f, lt_t, eq_f, ↓reduceIte, not_true_eq_false, not_false_eq_true, ite_10, bt_0, bt_1]
          cases bt (s.1 513 (242 + 24 * r + 2)) k <;> simp only [and_true, and_false, true_and, false_and, decide_true, decide_false, ↓reduceIte, not_true_eq_false, not_false_eq_true, Bool.false_eq_true, Bool.true_eq_false, Bool.and_true, Bool.and_false, Bool.true_and, Bool.false_and, Bool.or_true, Bool.or_false, Bool.true_or, Bool.false_or, Bool.not_true, Bool.not_false]
        · simp only [h3, ↓reduceIte]
          simp (disch := omega) only [k4, em, k6, nI_lit, nI_add, pk_mul, nI_clp, nI_eqv, nI_lev, nI_ltv, nI_neg, nI_neg', nI_subv, Nat.add_zero, Nat.zero_add, Nat.mul_zero, Nat.reduceAdd, bN_rv, bM_ru, bV_rv, bV_rx, bU_ru, bU_rx, bN_ite, bM_ite, bV_ite, bU_ite, ↓bx_e, ↓sp_e, gA_ok, gZ_n, gB_0, gB_1, gB_i, and_true, and_false, true_and, false_and, decide_true, decide_false, ↓reduceIte, not_true_eq_false, not_false_eq_true, Bool.false_eq_true, Bool.true_eq_false, Bool.and_true, Bool.and_false, Bool.true_and, Bool.false_and, Bool.or_true, Bool.or_false, Bool.true_or, Bool.false_or, Bool.not_true, Bool.not_false, le_f, le_t, lt_f, lt_t, eq_f, ↓reduceIte, not_true_eq_false, not_false_eq_true, ite_10, bt_0, bt_1]
          cases bt (s.1 513 (242 + 24 * r + 3)) k <;> simp only [and_true, and_false, true_and, false_and, decide_true, decide_false, ↓reduceIte, not_true_eq_false, not_false_eq_true, Bool.false_eq_true, Bool.true_eq_false, Bool.and_true, Bool.and_false, Bool.true_and, Bool.false_and, Bool.or_true, Bool.or_false, Bool.true_or, Bool.false_or, Bool.not_true, Bool.not_false]
      · rw [hm t ht, in_mt hr (by omega), bN_rv, if_neg (by decide)]
        unfold q296 q296_11 q296_35 q294 q266
        have e4 : 242 + 24 * r + (4 + k) = 242 + 24 * r + 4 + k := by omega
        have e14 : 242 + 24 * r + (14 + k) = 242 + 24 * r + 14 + k := by omega
        rw [nI_lit]
        by_cases h3 : v3 = nI 0
        · simp only [h3, ↓reduceIte]
          simp (disch := omega) only [m190, b2_0, t0_513, ht, e4, nI_lit, nI_add, pk_mul, nI_clp, nI_eqv, nI_lev, nI_ltv, nI_neg, nI_neg', nI_subv, Nat.add_zero, Nat.zero_add, Nat.mul_zero, Nat.reduceAdd, bN_rv, bM_ru, bV_rv, bV_rx, bU_ru, bU_rx, bN_ite, bM_ite, bV_ite, bU_ite, ↓bx_e, ↓sp_e, gA_ok, gZ_n, gB_0, gB_1, gB_i, and_true, and_false, true_and, false_and, decide_true, decide_false, ↓reduceIte, not_true_eq_false, not_false_eq_true, Bool.false_eq_true, Bool.true_eq_false, Bool.and_true, Bool.and_false, Bool.true_and, Bool.false_and, Bool.or_true, Bool.or_false, Bool.true_or, Bool.false_or, Bool.not_true, Bool.not_false, le_f, le_t, lt_f, lt_t, eq_f, ↓reduceIte, not_true_eq_false, not_false_eq_true, ite_10, bt_0, bt_1]
          cases bt (s.1 513 (242 + 24 * r + 2)) k <;> simp only [and_true, and_false, true_and, false_and, decide_true, decide_false, ↓reduceIte, not_true_eq_false, not_false_eq_true, Bool.false_eq_true, Bool.true_eq_false, Bool.and_true, Bool.and_false, Bool.true_and, Bool.false_and, Bool.or_true, Bool.or_false, Bool.true_or, Bool.false_or, Bool.not_true, Bool.not_false]
        · simp only [h3, ↓reduceIte]
          simp (disch := omega) only [m190, b2_0, t0_513, ht, e14, nI_lit, nI_add, pk_mul, nI_clp, nI_eqv, nI_lev, nI_ltv, nI_neg, nI_neg', nI_subv, Nat.add_zero, Nat.zero_add, Nat.mul_zero, Nat.reduceAdd, bN_rv, bM_ru, bV_rv, bV_rx, bU_ru, bU_rx, bN_ite, bM_ite, bV_ite, bU_ite, ↓bx_e, ↓sp_e, gA_ok, gZ_n, gB_0, gB_1, gB_i, and_true, and_false, true_and, false_and, decide_true, decide_false, ↓reduceIte, not_true_eq_false, not_false_eq_true, Bool.false_eq_true, Bool.true_eq_false, Bool.and_true, Bool.and_false, Bool.true_and, Bool.false_and, Bool.or_true, Bool.or_false, Bool.true_or, Bool.false_or, Bool.not_true, Bool.not_false, le_f, le_t, lt_f, lt_t, eq_f, ↓reduceIte, not_true_eq_false, not_false_eq_true, ite_10, bt_0, bt_1]
          cases bt (s.1 513 (242 + 24 * r + 3)) k <;> simp only [and_true, and_false, true_and, false_and, decide_true, decide_false, ↓reduceIte, not_true_eq_false, not_false_eq_true, Bool.false_eq_true, Bool.true_eq_false, Bool.and_true, Bool.and_false, Bool.true_and, Bool.false_and, Bool.or_true, Bool.or_false, Bool.true_or, Bool.false_or, Bool.not_true, Bool.not_false]
end LOOK
