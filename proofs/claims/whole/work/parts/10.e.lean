/-! KEY, HISTORY, LOG -/
theorem in_mt {j n : Nat} {s : mS} (hj : j < n) (hh : n < 2147483648) : q189 (nI j) (nI 0) (nI n - nI 1) s = rv (nI 1) s := by
  rw [nI_subv (by omega)]; exact in_t (by omega) (by omega)
theorem in_mf {v : Int32} {n : Nat} {s : mS} (hh : n < 2147483648) (hv : v < nI 0 ∨ nI n ≤ v) : q189 v (nI 0) (nI n - nI 1) s = rv (nI 0) s := by
  rcases Nat.eq_zero_or_pos n with e | hp
  · subst e
    unfold q189
    rw [nI_lit, nI_lit]
    by_cases h0 : v < nI 0
    · simp only [h0, ↓reduceIte]
    · have h1 : nI 0 - nI 1 < v := Int32.lt_of_lt_of_le (by decide) (Int32.not_lt.mp h0)
      simp only [h0, h1, ↓reduceIte]
  · rw [nI_subv (by omega)]
    exact in_f (by omega) (by rw [Nat.sub_add_cancel hp]; exact hv)
theorem rg60 {x g : Nat} (hx : x < 60) (hg : g < 60) : nI x - nI 1 - nI g + nI 60 = nI (x + 59 - g) := by
  have : nI x - nI 1 - nI g + nI 60 = (nI x + nI 60) - nI 1 - nI g := by
    simp only [Int32.sub_eq_add_neg]; ac_rfl
  rw [this, nI_add, nI_subv (by omega), nI_subv (by omega)]
  congr 1
theorem p44 {s : mS} {y : Nat} {f : Nat → Int32} (h : RLg s y f) {n : Nat} (hn : n ≤ 60) (f6 : f 6 = nI n) {g w : Nat} (hg : g < n) (hw : w < 4) : q44 y (nI g) (nI w) s = rv (f (530 + 4 * g + w)) s := by
  obtain ⟨n', x, hn', hx, e6, y0, y1, hq⟩ := h
  have en : n' = n := (nI_eqv (by omega) (by omega)).mp (e6.symm.trans f6)
  subst en
  unfold q44
  have q := hq g w hg hw
  have hr : (x + 59 - g) % 60 < 60 := Nat.mod_lt _ (by omega)
  have q2 : (x + 59 - g) % 60 * 4 + w = 4 * ((x + 59 - g) % 60) + w := by omega
  simp only [nI_lit, y0, y1]
  rw [rg60 hx (by omega), nI_rem (by omega) (by omega) (by omega)]
  generalize hm : (x + 59 - g) % 60 = m at *
  simp (disch := omega) only [q2, q, nI_lit, nI_add, pk_mul, nI_clp, nI_eqv, nI_lev, nI_ltv, nI_neg, nI_neg', nI_subv, Nat.add_zero, Nat.zero_add, Nat.mul_zero, Nat.reduceAdd, bN_rv, bM_ru, bV_rv, bV_rx, bU_ru, bU_rx, bN_ite, bM_ite, bV_ite, bU_ite, ↓bx_e, ↓sp_e, gA_ok, gZ_n, gB_0, gB_1, gB_i, and_true, and_false, true_and, false_and, decide_true, decide_false, ↓reduceIte, not_true_eq_false, not_false_eq_true, Bool.false_eq_true, Bool.true_eq_false, Bool.and_true, Bool.and_false, Bool.true_and, Bool.false_and, Bool.or_true, Bool.or_false, Bool.true_or, Bool.false_or, Bool.not_true, Bool.not_false, le_f, le_t, lt_f, lt_t, eq_f, ↓reduceIte, not_true_eq_false, not_false_eq_true, ite_10, bt_0, bt_1]
/-- thrown: c in 'thrown', nothing else -/
theorem ZX_t {B : Nat} {cat : List (Nat × Nat × Int)} {qc qm : mS → Option mQ} {s : mS} {x u w c : Nat} {v : Int32} (hG : G B s) (h1 : qc s = rx x s) (hc : cat.find? (fun q => q.1 == x) = some (u, w, ((c : Nat) : Int))) (hc1 : 1 ≤ c) (hc3 : c ≤ 3) (h4 : ∀ t : mS, t.1 = s.1 → qm t = rv v (sI (sI t 512 0 (nI 0)) 512 0 (nI c))) : ZT B cat qc qm s :=
  ZX_look hG h1 hc hc1 hc3 (fun t ht => ⟨v, _, h4 t ht, Eq.trans rfl rfl, t0_0, Gq_t Gq_0 Gq_0⟩)
/-- only 'thrown' := 0 -/
theorem ZV_0 {B : Nat} {cat : List (Nat × Nat × Int)} {qc qm : mS → Option mQ} {s : mS} {v : Int32} (hG : G B s) (h1 : qc s = rv v s) (h4 : ∀ t : mS, t.1 = s.1 → qm t = rv v (sI t 512 0 (nI 0))) : ZT B cat qc qm s :=
  ZV_look hG h1 rfl Gq_r (fun t ht => ⟨_, h4 t ht, Eq.trans rfl rfl, t0_0, Gq_0⟩)
theorem ZN_0 {B : Nat} {qc qm : mS → Option mQ} {s : mS} {v : Int32} (hG : G B s) (h1 : qc s = rv v s) (h4 : ∀ t : mS, t.1 = s.1 → qm t = rv v (sI t 512 0 (nI 0))) : ZN B qc qm s :=
  ZN_look hG h1 rfl Gq_r (fun t ht => ⟨_, h4 t ht, Eq.trans rfl rfl, Gq_0⟩)
section LOOK
variable {B : Nat} {s : mS}
def kyA (f : Nat → Int32) (k w : Nat) : Int32 := if w = 4 then sWr f k else f (9 + 4 * k + w)
theorem z_key (hG : G B s) (v1 v2 : Int32) : ZT B [(2, 13, 1), (3, 17, 2)] (q136 v1 v2) (q278 v1 v2) s := by
  have hG0 := hG
  obtain ⟨⟨hR, hL, T, hT, hA⟩, -⟩ := hG0
  have bad1 : (v1 < nI 0 ∨ nI 10 ≤ v1) → ZT B [(2, 13, 1), (3, 17, 2)] (q136 v1 v2) (q278 v1 v2) s := fun h =>
    ZX_t (x := 2) (u := 2) (w := 13) (c := 1) hG (by unfold q136; rw [p180_f h]; rfl) rfl (by omega) (by omega) (fun t ht => by
      unfold q278
      rw [nI_lit, nI_lit]; simp only [sp_e]
      rw [m274_f h, bN_rv, m188_1, bN_rv, if_pos (by decide)])
  rcases ix_of v1 10 (by omega) with h | h | ⟨i, hi, e⟩
  · exact bad1 (Or.inl h)
  · exact bad1 (Or.inr h)
  · subst e
    have bad2 : (v2 < nI 0 ∨ nI 5 ≤ v2) → ZT B [(2, 13, 1), (3, 17, 2)] (q136 (nI i) v2) (q278 (nI i) v2) s := fun h =>
      ZX_t (x := 3) (u := 3) (w := 17) (c := 2) hG (by unfold q136; rw [p180_t hi, bU_ru, nI_lit, p184_f (by omega) h]; rfl) rfl (by omega) (by omega) (fun t ht => by
        unfold q278
        rw [nI_lit, nI_lit, nI_lit]; simp only [sp_e]
        rw [m274_t hi, bN_rv, m188_0, bN_rv, if_neg (not_not_intro rfl), in_f (by omega) h, bN_rv, if_neg (not_not_intro rfl)]
        unfold q278_32
        rw [nI_lit, m188_1, bN_rv, nI_lit, if_neg (by decide)])
    rcases ix_of v2 5 (by omega) with h | h | ⟨w, hw, e2⟩
    · exact bad2 (Or.inl h)
    · exact bad2 (Or.inr h)
    · subst e2
      refine ZV_look (v := kyA (s.1 513) i w) (s1 := s) hG ?_ rfl Gq_r (fun t ht => ⟨sI t 512 0 (nI 0), ?_, Eq.trans rfl rfl, t0_0, Gq_0⟩)
      · unfold q136
        rw [p180_t hi, bU_ru, nI_lit, p184_t (by omega) (by omega), bU_ru]
        obtain ⟨k1, k2, k3, k4⟩ := hR.2.2.1 i hi
        simp only [Nat.reduceAdd] at k1 k2 k3 k4
        rcases (by omega : w = 0 ∨ w = 1 ∨ w = 2 ∨ w = 3 ∨ w = 4) with e | e | e | e | e <;> subst e
        · simp (disch := omega) only [k1, nI_lit, nI_add, pk_mul, nI_clp, nI_eqv, nI_lev, nI_ltv, nI_neg, nI_neg', nI_subv, Nat.add_zero, Nat.zero_add, Nat.mul_zero, Nat.reduceAdd, bN_rv, bM_ru, bV_rv, bV_rx, bU_ru, bU_rx, bN_ite, bM_ite, bV_ite, bU_ite, ↓bx_e, ↓sp_e, gA_ok, gZ_n, gB_0, gB_1, gB_i, and_true, and_false, true_and, false_and, decide_true, decide_false, ↓reduceIte, not_true_eq_false, not_false_eq_true, Bool.false_eq_true, Bool.true_eq_false, Bool.and_true, Bool.and_false, Bool.true_and, Bool.false_and, Bool.or_true, Bool.or_false, Bool.true_or, Bool.false_or, Bool.not_true, Bool.not_false, le_f, le_t, lt_f, lt_t, eq_f, ↓reduceIte, not_true_eq_false, not_false_eq_true, ite_10, bt_0, bt_1]; rfl
        · simp (disch := omega) only [k2, nI_lit, nI_add, pk_mul, nI_clp, nI_eqv, nI_lev, nI_ltv, nI_neg, nI_neg', nI_subv, Nat.add_zero, Nat.zero_add, Nat.mul_zero, Nat.reduceAdd, bN_rv, bM_ru, bV_rv, bV_rx, bU_ru, bU_rx, bN_ite, bM_ite, bV_ite, bU_ite, ↓bx_e, ↓sp_e, gA_ok, gZ_n, gB_0, gB_1, gB_i, and_true, and_false, true_and, false_and, decide_true, decide_false, ↓reduceIte, not_true_eq_false, not_false_eq_true, Bool.false_eq_true, Bool.true_eq_false, Bool.and_true, Bool.and_false, Bool.true_and, Bool.false_and, Bool.or_true, Bool.or_false, Bool.true_or, Bool.false_or, Bool.not_true, Bool.not_false, le_f, le_t, lt_f, lt_t, eq_f, ↓reduceIte, not_true_eq_false, not_false_eq_true, ite_10, bt_0, bt_1]; rfl
        · simp (disch := omega) only [k3, nI_lit, nI_add, pk_mul, nI_clp, nI_eqv, nI_lev, nI_ltv, nI_neg, nI_neg', nI_subv, Nat.add_zero, Nat.zero_add, Nat.mul_zero, Nat.reduceAdd, bN_rv, bM_ru, bV_rv, bV_rx, bU_ru, bU_rx, bN_ite, bM_ite, bV_ite, bU_ite, ↓bx_e, ↓sp_e, gA_ok, gZ_n, gB_0, gB_1, gB_i, and_true, and_false, true_and, false_and, decide_true, decide_false, ↓reduceIte, not_true_eq_false, not_false_eq_true, Bool.false_eq_true, Bool.true_eq_false, Bool.and_true, Bool.and_false, Bool.true_and, Bool.false_and, Bool.or_true, Bool.or_false, Bool.true_or, Bool.false_or, Bool.not_true, Bool.not_false, le_f, le_t, lt_f, lt_t, eq_f, ↓reduceIte, not_true_eq_false, not_false_eq_true, ite_10, bt_0, bt_1]; rfl
        · simp (disch := omega) only [k4, nI_lit, nI_add, pk_mul, nI_clp, nI_eqv, nI_lev, nI_ltv, nI_neg, nI_neg', nI_subv, Nat.add_zero, Nat.zero_add, Nat.mul_zero, Nat.reduceAdd, bN_rv, bM_ru, bV_rv, bV_rx, bU_ru, bU_rx, bN_ite, bM_ite, bV_ite, bU_ite, ↓bx_e, ↓sp_e, gA_ok, gZ_n, gB_0, gB_1, gB_i, and_true, and_false, true_and, false_and, decide_true, decide_false, ↓reduceIte, not_true_eq_false, not_false_eq_true, Bool.false_eq_true, Bool.true_eq_false, Bool.and_true, Bool.and_false, Bool.true_and, Bool.false_and, Bool.or_true, Bool.or_false, Bool.true_or, Bool.false_or, Bool.not_true, Bool.not_false, le_f, le_t, lt_f, lt_t, eq_f, ↓reduceIte, not_true_eq_false, not_false_eq_true, ite_10, bt_0, bt_1]; rfl
        · have q := p72 hR.1 hi
          have q2 := sWr_eq hA.1.1 hi
          unfold sWri at q2
          simp (disch := omega) only [q, nI_lit, nI_add, pk_mul, nI_clp, nI_eqv, nI_lev, nI_ltv, nI_neg, nI_neg', nI_subv, Nat.add_zero, Nat.zero_add, Nat.mul_zero, Nat.reduceAdd, bN_rv, bM_ru, bV_rv, bV_rx, bU_ru, bU_rx, bN_ite, bM_ite, bV_ite, bU_ite, ↓bx_e, ↓sp_e, gA_ok, gZ_n, gB_0, gB_1, gB_i, and_true, and_false, true_and, false_and, decide_true, decide_false, ↓reduceIte, not_true_eq_false, not_false_eq_true, Bool.false_eq_true, Bool.true_eq_false, Bool.and_true, Bool.and_false, Bool.true_and, Bool.false_and, Bool.or_true, Bool.or_false, Bool.true_or, Bool.false_or, Bool.not_true, Bool.not_false, le_f, le_t, lt_f, lt_t, eq_f, ↓reduceIte, not_true_eq_false, not_false_eq_true, ite_10, bt_0, bt_1]
          unfold kyA
          rw [if_pos rfl, q2]
      · unfold q278
        rw [nI_lit, nI_lit, nI_lit]; simp only [sp_e]
        rw [m274_t hi, bN_rv, m188_0, bN_rv, if_neg (not_not_intro rfl), in_t (by omega) (by omega), bN_rv, if_pos (by decide)]
        unfold q278_32
        rw [nI_lit, m188_0, bN_rv, nI_lit, if_pos rfl]
        unfold kyA
        by_cases e : w = 4
        · subst e
          rw [if_pos rfl]
          simp (disch := omega) only [m210 hi, t0_513, ht, nI_lit, nI_add, pk_mul, nI_clp, nI_eqv, nI_lev, nI_ltv, nI_neg, nI_neg', nI_subv, Nat.add_zero, Nat.zero_add, Nat.mul_zero, Nat.reduceAdd, bN_rv, bM_ru, bV_rv, bV_rx, bU_ru, bU_rx, bN_ite, bM_ite, bV_ite, bU_ite, ↓bx_e, ↓sp_e, gA_ok, gZ_n, gB_0, gB_1, gB_i, and_true, and_false, true_and, false_and, decide_true, decide_false, ↓reduceIte, not_true_eq_false, not_false_eq_true, Bool.false_eq_true, Bool.true_eq_false, Bool.and_true, Bool.and_false, Bool.true_and, Bool.false_and, Bool.or_true, Bool.or_false, Bool.true_or, Bool.false_or, Bool.not_true, Bool.not_false, le_f, le_t, lt_f, lt_t, eq_f, ↓reduceIte, not_true_eq_false, not_false_eq_true, ite_10, bt_0, bt_1]
        · rw [if_neg e]
          have : ¬ nI w = nI 4 := fun q => e ((nI_eqv (by omega) (by omega)).mp q)
          simp (disch := omega) only [this, t0_513, ht, nI_lit, nI_add, pk_mul, nI_clp, nI_eqv, nI_lev, nI_ltv, nI_neg, nI_neg', nI_subv, Nat.add_zero, Nat.zero_add, Nat.mul_zero, Nat.reduceAdd, bN_rv, bM_ru, bV_rv, bV_rx, bU_ru, bU_rx, bN_ite, bM_ite, bV_ite, bU_ite, ↓bx_e, ↓sp_e, gA_ok, gZ_n, gB_0, gB_1, gB_i, and_true, and_false, true_and, false_and, decide_true, decide_false, ↓reduceIte, not_true_eq_false, not_false_eq_true, Bool.false_eq_true, Bool.true_eq_false, Bool.and_true, Bool.and_false, Bool.true_and, Bool.false_and, Bool.or_true, Bool.or_false, Bool.true_or, Bool.false_or, Bool.not_true, Bool.not_false, le_f, le_t, lt_f, lt_t, eq_f, ↓reduceIte, not_true_eq_false, not_false_eq_true, ite_10, bt_0, bt_1, q198, q199, q200, q201, q202, q203, q204, m190, m205, m206, b2_0, q189, q187]
theorem z_log (hG : G B s) (v1 v2 : Int32) : ZT B [(3, 13, 1)] (q153 v1 v2) (q337 v1 v2) s := by
  have hG0 := hG
  obtain ⟨⟨hR, hL, T, hT, hA⟩, -⟩ := hG0
  have bad : (v2 < nI 0 ∨ nI 4 ≤ v2) → ZT B [(3, 13, 1)] (q153 v1 v2) (q337 v1 v2) s := fun h =>
    ZX_t (x := 3) (u := 3) (w := 13) (c := 1) hG (by unfold q153; rw [nI_lit, p184_f (by omega) h]; rfl) rfl (by omega) (by omega) (fun t ht => by
      unfold q337
      rw [nI_lit, nI_lit]; simp only [sp_e]
      rw [in_f (by omega) h, bN_rv, if_neg (not_not_intro rfl)]
      unfold q337_20
      rw [nI_lit, m188_1, bN_rv, nI_lit, if_neg (by decide)])
  rcases ix_of v2 4 (by omega) with h | h | ⟨w, hw, e2⟩
  · exact bad (Or.inl h)
  · exact bad (Or.inr h)
  · subst e2
    obtain ⟨n, x, hn, hx, f6, y0, y1, hq⟩ := hR.2.2.2.1
    simp only [Nat.reduceAdd] at y0 y1 hq
    have hm : ∀ t : mS, t.1 = s.1 → q337 v1 (nI w) t = bN (q189 v1 (nI 0) (nI n - nI 1) (sI t 512 0 (nI 0))) fun x4 s3 => if x4 = nI 0 then (rv (-nI 1) s3) else (bN (q335 v1 (nI w) s3) fun x6 s5 => rv x6 s5) := fun t ht => by
      unfold q337
      rw [nI_lit, nI_lit]; simp only [sp_e]
      rw [in_t (by omega) (by omega), bN_rv, if_pos (by decide)]
      unfold q337_20
      rw [nI_lit, m188_0, bN_rv, nI_lit, if_pos rfl]
      have f6' : (sI t 512 0 (nI 0)).1 513 6 = nI n := by rw [t0_513, ht]; exact f6
      simp (disch := omega) only [nI_lit, nI_clp, gA_ok, f6', nI_neg']
    have out : (v1 < nI 0 ∨ nI n ≤ v1) → ZT B [(3, 13, 1)] (q153 v1 (nI w)) (q337 v1 (nI w)) s := fun h => by
      refine ZV_look (v := -nI 1) (s1 := s) hG ?_ rfl Gq_r (fun t ht => ⟨sI t 512 0 (nI 0), ?_, Eq.trans rfl rfl, t0_0, Gq_0⟩)
      · unfold q153 q44
        rw [nI_lit, p184_t (by omega) (by omega), bU_ru, nI_lit]
        simp only [Nat.reduceAdd, y0]
        by_cases h0 : v1 < nI 0
        · simp only [h0, ↓reduceIte, bN_rv]; rfl
        · have h1 : ¬ v1 < nI n := Int32.not_lt.mpr (h.resolve_left h0)
          simp only [h0, h1, ↓reduceIte, bN_rv]; rfl
      · rw [hm t ht, in_mf (by omega) h, bN_rv, if_pos rfl]
    rcases ix_of v1 n (by omega) with h | h | ⟨g, hg, e⟩
    · exact out (Or.inl h)
    · exact out (Or.inr h)
    · subst e
      refine ZV_look (v := s.1 513 (530 + 4 * g + w)) (s1 := s) hG ?_ rfl Gq_r (fun t ht => ⟨sI t 512 0 (nI 0), ?_, Eq.trans rfl rfl, t0_0, Gq_0⟩)
      · unfold q153
        rw [nI_lit, p184_t (by omega) (by omega), bU_ru, p44 hR.2.2.2.1 hn f6 hg hw, bN_rv]
      · rw [hm t ht, in_mt hg (by omega), bN_rv, if_neg (by decide)]
        unfold q335
        simp (disch := omega) only [t0_513, ht, nI_lit, nI_add, pk_mul, nI_clp, nI_eqv, nI_lev, nI_ltv, nI_neg, nI_neg', nI_subv, Nat.add_zero, Nat.zero_add, Nat.mul_zero, Nat.reduceAdd, bN_rv, bM_ru, bV_rv, bV_rx, bU_ru, bU_rx, bN_ite, bM_ite, bV_ite, bU_ite, ↓bx_e, ↓sp_e, gA_ok, gZ_n, gB_0, gB_1, gB_i, and_true, and_false, true_and, false_and, decide_true, decide_false, ↓reduceIte, not_true_eq_false, not_false_eq_true, Bool.false_eq_true, Bool.true_eq_false, Bool.and_true, Bool.and_false, Bool.true_and, Bool.false_and, Bool.or_true, Bool.or_false, Bool.true_or, Bool.false_or, Bool.not_true, Bool.not_false, le_f, le_t, lt_f, lt_t, eq_f, ↓reduceIte, not_true_eq_false, not_false_eq_true, ite_10, bt_0, bt_1]
end LOOK
