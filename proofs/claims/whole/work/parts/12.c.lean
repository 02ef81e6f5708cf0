/-! WHO, LIKELY, ASK: both sides -/
def us (s : mS) : mS := sI (sI s 1 1 (nI 0)) 1 2 (nI 0)
def um (t : mS) : mS := sI (sI (sI (sI t 512 0 (nI 0)) 512 11 (t.1 512 9)) 512 9 (nI 0)) 512 10 (nI 0)
theorem q99_e {s : mS} : q99 s = ru (us s) := by
  unfold q99 us
  simp only [nI_lit, sp_e]
theorem q224_e {t : mS} : q224 t = ru (um t) := by
  unfold q224 um
  simp only [nI_lit, sp_e]
  rw [sI_sm, ud_n (by omega)]
theorem us_n {s : mS} {b : Nat} (h : b ≠ 1) : (us s).1 b = s.1 b := by unfold us; rw [sI_fn h, sI_fn h]
theorem um_n {t : mS} {b : Nat} (h : b ≠ 512) : (um t).1 b = t.1 b := by unfold um; rw [sI_fn h, sI_fn h, sI_fn h, sI_fn h]
theorem um_j {t : mS} {j : Nat} (h : j ≠ 0 ∧ j ≠ 9 ∧ j ≠ 10 ∧ j ≠ 11) : (um t).1 512 j = t.1 512 j := by
  unfold um
  rw [sI_sm, ud_n h.2.2.1, sI_sm, ud_n h.2.1, sI_sm, ud_n h.2.2.2, sI_sm, ud_n h.1]
theorem um_11 {t : mS} : (um t).1 512 11 = t.1 512 9 := by
  unfold um
  rw [sI_sm, ud_n (by omega), sI_sm, ud_n (by omega), sI_sm, ud_e rfl]
theorem um_9 {t : mS} : (um t).1 512 9 = nI 0 := by
  unfold um
  rw [sI_sm, ud_n (by omega), sI_sm, ud_e rfl]
theorem um_0 {t : mS} : (um t).1 512 0 = nI 0 := by
  unfold um
  rw [sI_sm, ud_n (by omega), sI_sm, ud_n (by omega), sI_sm, ud_n (by omega), sI_sm, ud_e rfl]
theorem G_use {B : Nat} {s t t' : mS} (hG : G B s) (ht : t.1 = (us s).1) (h : ∀ b, b ≠ 512 → t'.1 b = t.1 b) (hj : ∀ j, j ≠ 0 → j ≠ 10 → j ≠ 11 → j ≠ 9 → t'.1 512 j = t.1 512 j) (h9 : t'.1 512 9 = nI 0) : G B t' := by
  have hG0 := hG
  obtain ⟨-, -, -, -, hF, -⟩ := hG0
  refine G_x hG ⟨fun b _ a1 _ _ _ _ _ _ _ _ a2 _ _ _ => by rw [h b a2, ht, us_n a1], fun j hj2 => by rw [hj j (by omega) (by omega) (by omega) (by omega), ht, us_n (by omega)], fun j _ => by rw [h 0 (by omega), ht, us_n (by omega)]⟩ ?_ ⟨0, by omega, ?_, ?_, h9, fun i hi => by omega⟩
  · rw [h 0 (by omega), ht, us_n (by omega), hj 14 (by omega) (by omega) (by omega) (by omega), ht, us_n (by omega)]; exact hF
  · rw [h 1 (by omega), ht]; unfold us; rw [sI_sm, ud_n (by omega), sI_sm, ud_e rfl]
  · rw [h 1 (by omega), ht]; unfold us; rw [sI_sm, ud_e rfl]
theorem ZT_use {B : Nat} {qc qm : mS → Option mQ} {s : mS} {v : Int32} {T : Bool} (hG : G B s) (hc : qc s = if T = true then rv v (us s) else rx 0 (us s)) (hm : ∀ t : mS, t.1 = (us s).1 → qm t = if T = true then rv v (um t) else rv (nI 0) (sI (um t) 512 0 (nI 1))) : ZT B [(0, 11, 1)] qc qm s := by
  cases T with
  | true =>
    rw [if_pos rfl] at hc
    refine Or.inl ⟨v, us s, hc, Eq.trans rfl rfl, fun t ht => ?_⟩
    have hm := hm t ht
    rw [if_pos rfl] at hm
    exact ⟨um t, hm, Lq_e (Eq.trans rfl rfl), um_0, G_use hG ht (fun b h => um_n h) (fun j a b c d => um_j (by omega)) um_9⟩
  | false =>
    rw [if_neg (by decide)] at hc
    refine Or.inr ⟨0, 0, 11, 1, us s, hc, Eq.trans rfl rfl, rfl, by omega, by omega, fun t ht => ?_⟩
    have hm := hm t ht
    rw [if_neg (by decide)] at hm
    exact ⟨nI 0, _, hm, Lq_e (Eq.trans rfl rfl), by rw [sI_sm, ud_e rfl], G_use hG ht (fun b h => by rw [sI_fn h, um_n h]) (fun j a b c d => by rw [sI_sm, ud_n a, um_j (by omega)]) (by rw [sI_sm, ud_n (by omega), um_9])⟩
/-- what the likely one is, the class's way -/
def lkS (w : Nat → Nat) (c : Nat) (a : Option Nat × Nat) : Option Nat × Nat := if w c < a.2 then (some c, w c) else a
theorem lk_0 {w : Nat → Nat} : ∀ r c a, fo (lkS w) r c (some a, 0) = (some a, 0) := by
  intro r
  induction r with
  | zero => intro c a; rfl
  | succ r ih =>
    intro c a
    rw [fo]
    have : lkS w c (some a, 0) = (some a, 0) := if_neg (by show ¬ (w c < 0); omega)
    rw [this]; exact ih _ _
theorem lk_1 {w : Nat → Nat} : ∀ r c a, (fo (lkS w) r c (some a, 1)).1 = match fs (fun c => decide (w c ≤ 0)) r c with
    | some j => some j
    | none => some a := by
  intro r
  induction r with
  | zero => intro c a; rfl
  | succ r ih =>
    intro c a
    rw [fo, fs]
    by_cases h : w c ≤ 0
    · have : lkS w c (some a, 1) = (some c, 0) := by unfold lkS; rw [if_pos (by show w c < 1; omega), show w c = 0 by omega]
      rw [this, lk_0, if_pos (decide_eq_true h)]
    · have : lkS w c (some a, 1) = (some a, 1) := if_neg (by show ¬ (w c < 1); omega)
      rw [this, ih, decide_eq_false h, if_neg (by decide)]
theorem lk_2 {w : Nat → Nat} : ∀ r c, (fo (lkS w) r c (none, 2)).1 = match fs (fun c => decide (w c ≤ 0)) r c with
    | some j => some j
    | none => fs (fun c => decide (w c ≤ 1)) r c := by
  intro r
  induction r with
  | zero => intro c; rfl
  | succ r ih =>
    intro c
    rw [fo, fs, fs]
    by_cases h : w c ≤ 0
    · have : lkS w c (none, 2) = (some c, 0) := by unfold lkS; rw [if_pos (by show w c < 2; omega), show w c = 0 by omega]
      rw [this, lk_0, if_pos (decide_eq_true h)]
    · by_cases h1 : w c ≤ 1
      · have : lkS w c (none, 2) = (some c, 1) := by unfold lkS; rw [if_pos (by show w c < 2; omega), show w c = 1 by omega]
        rw [this, lk_1, decide_eq_false h, if_neg (by decide), decide_eq_true h1, if_pos rfl]
      · have : lkS w c (none, 2) = (none, 2) := if_neg (by show ¬ (w c < 2); omega)
        rw [this, ih, decide_eq_false h, if_neg (by decide), decide_eq_false h1, if_neg (by decide)]
theorem lk_l {w : Nat → Nat} (hw : ∀ c, w c < 1000) : ∀ r c a, a.2 < 1000 → (fo (lkS w) r c a).2 < 1000 := by
  intro r
  induction r with
  | zero => intro c a h; exact h
  | succ r ih =>
    intro c a h
    rw [fo]
    apply ih
    unfold lkS
    split
    · exact hw c
    · exact h
theorem p165_15 {s : mS} {n : Nat} {w : Nat → Nat} {K : Int32 → Int32 → mS → Option mQ} (hn : n ≤ 5) (y0 : s.1 27 0 = nI n) (hl : ∀ c, w c < 1000) (hw : ∀ c, c < n → q168 (nI c) s = rv (nI (w c)) s) : ∀ r c (a : Option Nat × Nat) N, c + r = n → r < N → a.2 < 1000 → q165_15 K N (nI 1) (oI a.1) (nI a.2) (nI c) s = K (nI 1) (oI (fo (lkS w) r c a).1) s := by
  intro r
  induction r with
  | zero =>
    intro c a N hc hN ha
    cases N with
    | zero => omega
    | succ N =>
      rw [q165_15, fo]
      simp (disch := omega) only [y0, Nat.reduceAdd, nI_lit, nI_add, pk_mul, nI_clp, nI_eqv, nI_lev, nI_ltv, nI_neg, nI_neg', nI_subv, Nat.add_zero, Nat.zero_add, Nat.mul_zero, Nat.reduceAdd, bN_rv, bM_ru, bV_rv, bV_rx, bU_ru, bU_rx, bN_ite, bM_ite, bV_ite, bU_ite, ↓bx_e, ↓sp_e, gA_ok, gZ_n, gB_0, gB_1, gB_i, and_true, and_false, true_and, false_and, decide_true, decide_false, ↓reduceIte, not_true_eq_false, not_false_eq_true, Bool.false_eq_true, Bool.true_eq_false, Bool.and_true, Bool.and_false, Bool.true_and, Bool.false_and, Bool.or_true, Bool.or_false, Bool.true_or, Bool.false_or, Bool.not_true, Bool.not_false, le_f, le_t, lt_f, lt_t, eq_f, ↓reduceIte, not_true_eq_false, not_false_eq_true, ite_10, bt_0, bt_1]
  | succ r ih =>
    intro c a N hc hN ha
    cases N with
    | zero => omega
    | succ N =>
      have k1 := hw c (by omega)
      have k2 := hl c
      rw [q165_15, fo]
      by_cases h : w c < a.2
      · have e : lkS w c a = (some c, w c) := if_pos h
        have i1 := ih (c + 1) (some c, w c) N (by omega) (by omega) k2
        rw [e, ← i1, show oI (some c) = nI c from rfl]
        simp (disch := omega) only [y0, k1, q165_54, Nat.reduceAdd, nI_lit, nI_add, pk_mul, nI_clp, nI_eqv, nI_lev, nI_ltv, nI_neg, nI_neg', nI_subv, Nat.add_zero, Nat.zero_add, Nat.mul_zero, Nat.reduceAdd, bN_rv, bM_ru, bV_rv, bV_rx, bU_ru, bU_rx, bN_ite, bM_ite, bV_ite, bU_ite, ↓bx_e, ↓sp_e, gA_ok, gZ_n, gB_0, gB_1, gB_i, and_true, and_false, true_and, false_and, decide_true, decide_false, ↓reduceIte, not_true_eq_false, not_false_eq_true, Bool.false_eq_true, Bool.true_eq_false, Bool.and_true, Bool.and_false, Bool.true_and, Bool.false_and, Bool.or_true, Bool.or_false, Bool.true_or, Bool.false_or, Bool.not_true, Bool.not_false, le_f, le_t, lt_f, lt_t, eq_f, ↓reduceIte, not_true_eq_false, not_false_eq_true, ite_10, bt_0, bt_1]
      · have e : lkS w c a = a := if_neg h
        have i1 := ih (c + 1) a N (by omega) (by omega) ha
        rw [e, ← i1]
        simp (disch := omega) only [y0, k1, q165_54, Nat.reduceAdd, nI_lit, nI_add, pk_mul, nI_clp, nI_eqv, nI_lev, nI_ltv, nI_neg, nI_neg', nI_subv, Nat.add_zero, Nat.zero_add, Nat.mul_zero, Nat.reduceAdd, bN_rv, bM_ru, bV_rv, bV_rx, bU_ru, bU_rx, bN_ite, bM_ite, bV_ite, bU_ite, ↓bx_e, ↓sp_e, gA_ok, gZ_n, gB_0, gB_1, gB_i, and_true, and_false, true_and, false_and, decide_true, decide_false, ↓reduceIte, not_true_eq_false, not_false_eq_true, Bool.false_eq_true, Bool.true_eq_false, Bool.and_true, Bool.and_false, Bool.true_and, Bool.false_and, Bool.or_true, Bool.or_false, Bool.true_or, Bool.false_or, Bool.not_true, Bool.not_false, le_f, le_t, lt_f, lt_t, eq_f, ↓reduceIte, not_true_eq_false, not_false_eq_true, ite_10, bt_0, bt_1]
theorem fitW_b {w : Nat → Nat} {n m : Nat} (hn : n ≤ 5) (j : Nat) : bt (fitW w n m) j = (decide (j < n) && decide (w j ≤ m)) := by
  unfold fitW
  rw [fo_bits (by omega) j, bt_n0, Bool.false_or]
  congr 1
  by_cases h : j < n
  · rw [decide_eq_true (by omega), decide_eq_true h]
  · rw [decide_eq_false (by omega), decide_eq_false h]
theorem wd_S {W : Int32} {n : Nat} {p : Nat → Bool} (hn : n ≤ 5) (h : ∀ j, bt W j = (decide (j < n) && p j)) : ∃ S, S < 32 ∧ W = nI S ∧ ∀ j, j < 5 → S.testBit j = (decide (j < n) && p j) := by
  obtain ⟨S, h1, h2⟩ := w_of (show 5 ≤ 31 by omega) (fun j (hj : 5 ≤ j) => by rw [h j, decide_eq_false (by omega), Bool.false_and])
  have h1 : S < 32 := h1
  exact ⟨S, h1, h2, fun j hj => by rw [← bt_S S h1 j hj, ← h2, h j]⟩
theorem fit_f {w : Nat → Nat} {n m : Nat} (hn : n ≤ 5) : (fs (fun c => decide (w c ≤ m)) n 0 = none ∧ fitW w n m = nI 0) ∨ (∃ j, fs (fun c => decide (w c ≤ m)) n 0 = some j ∧ ¬ fitW w n m = nI 0 ∧ ntz (fitW w n m) = nI j) := by
  obtain ⟨S, h1, h2, h3⟩ := wd_S hn (fitW_b (w := w) (m := m) hn)
  cases e : fs (fun c => decide (w c ≤ m)) n 0 with
  | none =>
    left
    refine ⟨rfl, ?_⟩
    rw [h2]
    congr 1
    refine S_0 S h1 (fun j hj => ?_)
    rw [h3 j hj]
    by_cases hjn : j < n
    · have := fs_none e j (by omega) (by omega)
      rw [this, Bool.and_false]
    · rw [decide_eq_false hjn, Bool.false_and]
  | some j =>
    right
    obtain ⟨g1, g2, g3, g4⟩ := fs_some e
    have hb : S.testBit j = true := by rw [h3 j (by omega), decide_eq_true (by omega), Bool.true_and]; exact g3
    have h0 : 0 < S := by
      rcases Nat.eq_zero_or_pos S with e | e
      · rw [e, Nat.zero_testBit] at hb; cases hb
      · exact e
    refine ⟨j, rfl, ?_, ?_⟩
    · rw [h2, nI_eqv (by omega) (by omega)]; omega
    · rw [h2, lo_z S h1 h0, lo_i S h1 j (by omega) hb (fun i hi => ?_)]
      rw [h3 i (by omega)]
      have := g4 i (by omega) hi
      rw [this, Bool.and_false]
/-- how many are so -/
def cnn (p : Nat → Bool) (r c v : Nat) : Nat := fo (fun c v => v + bnt (p c)) r c v
theorem bnt_l (p : Bool) : bnt p ≤ 1 := by cases p <;> decide
theorem cnn_a {p : Nat → Bool} : ∀ r c v, cnn p r c v = v + cnn p r c 0 := by
  intro r
  induction r with
  | zero => intro c v; rfl
  | succ r ih =>
    intro c v
    have e1 : cnn p (r + 1) c v = cnn p r (c + 1) (v + bnt (p c)) := rfl
    have e2 : cnn p (r + 1) c 0 = cnn p r (c + 1) (0 + bnt (p c)) := rfl
    rw [e1, e2, ih _ (v + bnt (p c)), ih _ (0 + bnt (p c))]
    omega
theorem cnn_m {p q : Nat → Bool} (h : ∀ c, p c = true → q c = true) : ∀ r c v, cnn p r c v ≤ cnn q r c v := by
  intro r
  induction r with
  | zero => intro c v; exact Nat.le_refl _
  | succ r ih =>
    intro c v
    have e1 : cnn p (r + 1) c v = cnn p r (c + 1) (v + bnt (p c)) := rfl
    have e2 : cnn q (r + 1) c v = cnn q r (c + 1) (v + bnt (q c)) := rfl
    have hb : bnt (p c) ≤ bnt (q c) := by
      cases hp : p c with
      | false => exact Nat.zero_le _
      | true => rw [h c hp]; exact Nat.le_refl _
    rw [e1, e2]
    have i1 := ih (c + 1) (v + bnt (p c))
    have a1 := cnn_a (p := q) r (c + 1) (v + bnt (p c))
    have a2 := cnn_a (p := q) r (c + 1) (v + bnt (q c))
    omega
theorem cnn_l (p : Nat → Bool) : ∀ r c v, cnn p r c v ≤ v + r := by
  intro r
  induction r with
  | zero => intro c v; exact Nat.le_refl _
  | succ r ih =>
    intro c v
    have e1 : cnn p (r + 1) c v = cnn p r (c + 1) (v + bnt (p c)) := rfl
    have := ih (c + 1) (v + bnt (p c))
    have := bnt_l (p c)
    omega
theorem bc_5 : ∀ S, S < 32 → bc (nI S) = nI (cnn (fun j => S.testBit j) 5 0 0) := by decide +kernel
theorem bc_w {W : Int32} {n : Nat} {p : Nat → Bool} (hn : n ≤ 5) (h : ∀ j, bt W j = (decide (j < n) && p j)) : bc W = nI (cnn p n 0 0) := by
  obtain ⟨S, h1, h2, h3⟩ := wd_S hn h
  rw [h2, bc_5 S h1]
  congr 1
  unfold cnn
  have e : fo (fun c v => v + bnt (S.testBit c)) (n + (5 - n)) 0 0 = fo (fun c v => v + bnt (p c)) n 0 0 := by
    rw [fo_ap, fo_cg (g' := fun c v => v + bnt (p c)) n 0 0 (fun k b x y => by rw [h3 k (by omega), decide_eq_true (by omega), Bool.true_and])]
    generalize fo (fun c v => v + bnt (p c)) n 0 0 = z
    have : ∀ r c, n ≤ c → c + r ≤ 5 → fo (fun c v => v + bnt (S.testBit c)) r c z = z := by
      intro r
      induction r with
      | zero => intro c _ _; rfl
      | succ r ih =>
        intro c x y
        rw [fo, h3 c (by omega), decide_eq_false (by omega), Bool.false_and]
        exact ih (c + 1) (by omega) (by omega)
    exact this _ _ (by omega) (by omega)
  rw [show n + (5 - n) = 5 by omega] at e
  exact e
/-- which row to ask next -/
def askS (pt : Nat → Nat) (row : Nat) (a : Int32 × Nat) : Int32 × Nat := if pt row < a.2 then (nI row, pt row) else a
def ptA (p d : Nat → Bool) (n : Nat) : Nat := max (cnn (fun c => p c && d c) n 0 0) (cnn p n 0 0 - cnn (fun c => p c && d c) n 0 0)
theorem ptA_l (p d : Nat → Bool) (n : Nat) : ptA p d n ≤ cnn p n 0 0 := by
  unfold ptA
  have := cnn_m (p := fun c => p c && d c) (q := p) (fun c h => by simp only [Bool.and_eq_true] at h; exact h.1) n 0 0
  omega
theorem mx_n {a b : Nat} (ha : a < 2147483648) (hb : b < 2147483648) : mxI (nI a) (nI b) = nI (max a b) := by
  unfold mxI
  by_cases h : a < b
  · rw [if_pos (by rw [nI_ltv ha hb]; exact h), Nat.max_eq_right (by omega)]
  · rw [if_neg (by rw [nI_ltv ha hb]; exact h), Nat.max_eq_left (by omega)]
section ASK
variable {n : Nat} {f : Nat → Int32} {w : Nat → Nat}
theorem p166_48 {s : mS} (hn : n ≤ 5) (y0 : s.1 27 0 = nI n) (h1 : ∀ c, c < 5 → s.1 (27 + 1) c = f (49 + 5 * c)) (h2 : ∀ c, c < 5 → s.1 (27 + 2) c = f (49 + 5 * c + 1)) (hA : 2 ≤ cnn (fun c => decide (w c ≤ 1)) n 0 0) : ∀ r row (a : Int32 × Nat) N, row + r = 20 → r < N → a.2 < 1000 → q166_48 N (fitW w n 1) (nI (cnn (fun c => decide (w c ≤ 1)) n 0 0)) a.1 (nI a.2) (nI row) s = rv (fo (askS (fun row => ptA (fun c => decide (w c ≤ 1)) (fun c => dn f c row) n)) r row a).1 s := by
  have hl := cnn_l (fun c => decide (w c ≤ 1)) n 0 0
  intro r
  induction r with
  | zero =>
    intro row a N hr hN ha
    cases N with
    | zero => omega
    | succ N =>
      rw [q166_48, fo]
      simp (disch := omega) only [nI_lit, nI_add, pk_mul, nI_clp, nI_eqv, nI_lev, nI_ltv, nI_neg, nI_neg', nI_subv, Nat.add_zero, Nat.zero_add, Nat.mul_zero, Nat.reduceAdd, bN_rv, bM_ru, bV_rv, bV_rx, bU_ru, bU_rx, bN_ite, bM_ite, bV_ite, bU_ite, ↓bx_e, ↓sp_e, gA_ok, gZ_n, gB_0, gB_1, gB_i, and_true, and_false, true_and, false_and, decide_true, decide_false, ↓reduceIte, not_true_eq_false, not_false_eq_true, Bool.false_eq_true, Bool.true_eq_false, Bool.and_true, Bool.and_false, Bool.true_and, Bool.false_and, Bool.or_true, Bool.or_false, Bool.true_or, Bool.false_or, Bool.not_true, Bool.not_false, le_f, le_t, lt_f, lt_t, eq_f, ↓reduceIte, not_true_eq_false, not_false_eq_true, ite_10, bt_0, bt_1]
  | succ r ih =>
    intro row a N hr hN ha
    cases N with
    | zero => omega
    | succ N =>
      have k6 := p6 (s := s) hn (show row < 20 by omega) y0 h1 h2
      have kb : bc (fitW w n 1 &&& doW f n row) = nI (cnn (fun c => decide (w c ≤ 1) && dn f c row) n 0 0) := by
        apply bc_w hn
        intro j
        rw [b_and, fitW_b hn]
        by_cases hj : j < n
        · rw [doW_b hn hj, decide_eq_true hj, Bool.true_and, Bool.true_and]
        · rw [decide_eq_false hj, Bool.false_and, Bool.false_and, Bool.false_and]
      have m1 := cnn_m (p := fun c => decide (w c ≤ 1) && dn f c row) (q := fun c => decide (w c ≤ 1)) (fun c h => by simp only [Bool.and_eq_true] at h; exact h.1) n 0 0
      have m2 := mx_n (a := cnn (fun c => decide (w c ≤ 1) && dn f c row) n 0 0) (b := cnn (fun c => decide (w c ≤ 1)) n 0 0 - cnn (fun c => decide (w c ≤ 1) && dn f c row) n 0 0) (by omega) (by omega)
      have m3 : max (cnn (fun c => decide (w c ≤ 1) && dn f c row) n 0 0) (cnn (fun c => decide (w c ≤ 1)) n 0 0 - cnn (fun c => decide (w c ≤ 1) && dn f c row) n 0 0) = ptA (fun c => decide (w c ≤ 1)) (fun c => dn f c row) n := rfl
      have m4 := ptA_l (fun c => decide (w c ≤ 1)) (fun c => dn f c row) n
      rw [m3] at m2
      rw [q166_48, fo]
      by_cases h : ptA (fun c => decide (w c ≤ 1)) (fun c => dn f c row) n < a.2
      · have e : askS (fun row => ptA (fun c => decide (w c ≤ 1)) (fun c => dn f c row) n) row a = (nI row, ptA (fun c => decide (w c ≤ 1)) (fun c => dn f c row) n) := if_pos h
        rw [e, ← ih (row + 1) _ N (by omega) (by omega) (show ptA (fun c => decide (w c ≤ 1)) (fun c => dn f c row) n < 1000 by omega)]
        simp (disch := omega) only [k6, q343_e, kb, m2, q166_105, Nat.reduceAdd, nI_lit, nI_add, pk_mul, nI_clp, nI_eqv, nI_lev, nI_ltv, nI_neg, nI_neg', nI_subv, Nat.add_zero, Nat.zero_add, Nat.mul_zero, Nat.reduceAdd, bN_rv, bM_ru, bV_rv, bV_rx, bU_ru, bU_rx, bN_ite, bM_ite, bV_ite, bU_ite, ↓bx_e, ↓sp_e, gA_ok, gZ_n, gB_0, gB_1, gB_i, and_true, and_false, true_and, false_and, decide_true, decide_false, ↓reduceIte, not_true_eq_false, not_false_eq_true, Bool.false_eq_true, Bool.true_eq_false, Bool.and_true, Bool.and_false, Bool.true_and, Bool.false_and, Bool.or_true, Bool.or_false, Bool.true_or, Bool.false_or, Bool.not_true, Bool.not_false, le_f, le_t, lt_f, lt_t, eq_f, ↓reduceIte, not_true_eq_false, not_false_eq_true, ite_10, bt_0, bt_1]
      · have e : askS (fun row => ptA (fun c => decide (w c ≤ 1)) (fun c => dn f c row) n) row a = a := if_neg h
        rw [e, ← ih (row + 1) a N (by omega) (by omega) ha]
        simp (disch := omega) only [k6, q343_e, kb, m2, q166_105, Nat.reduceAdd, nI_lit, nI_add, pk_mul, nI_clp, nI_eqv, nI_lev, nI_ltv, nI_neg, nI_neg', nI_subv, Nat.add_zero, Nat.zero_add, Nat.mul_zero, Nat.reduceAdd, bN_rv, bM_ru, bV_rv, bV_rx, bU_ru, bU_rx, bN_ite, bM_ite, bV_ite, bU_ite, ↓bx_e, ↓sp_e, gA_ok, gZ_n, gB_0, gB_1, gB_i, and_true, and_false, true_and, false_and, decide_true, decide_false, ↓reduceIte, not_true_eq_false, not_false_eq_true, Bool.false_eq_true, Bool.true_eq_false, Bool.and_true, Bool.and_false, Bool.true_and, Bool.false_and, Bool.or_true, Bool.or_false, Bool.true_or, Bool.false_or, Bool.not_true, Bool.not_false, le_f, le_t, lt_f, lt_t, eq_f, ↓reduceIte, not_true_eq_false, not_false_eq_true, ite_10, bt_0, bt_1]
theorem m318_65 {t : mS} {row : Nat} {v2 v3 v4 : Int32} {K : Int32 → Int32 → Int32 → Int32 → Int32 → Int32 → mS → Option mQ} (hn : n ≤ 5) (hr : row < 20) (hf : t.1 513 = f) (f0 : f 0 = nI n) : ∀ r c v N, c + r = n → r < N → v ≤ c → q318_65 K N (fitW w n 1) v2 v3 v4 (nI row) (nI v) (nI c) t = K (fitW w n 1) v2 v3 v4 (nI row) (nI (cnn (fun c => decide (w c ≤ 1) && dn f c row) r c v)) t := by
  have e0 : t.1 513 0 = nI n := by rw [hf]; exact f0
  intro r
  induction r with
  | zero =>
    intro c v N hc hN hv
    cases N with
    | zero => omega
    | succ N =>
      rw [q318_65]
      simp (disch := omega) only [e0, nI_lit, nI_add, pk_mul, nI_clp, nI_eqv, nI_lev, nI_ltv, nI_neg, nI_neg', nI_subv, Nat.add_zero, Nat.zero_add, Nat.mul_zero, Nat.reduceAdd, bN_rv, bM_ru, bV_rv, bV_rx, bU_ru, bU_rx, bN_ite, bM_ite, bV_ite, bU_ite, ↓bx_e, ↓sp_e, gA_ok, gZ_n, gB_0, gB_1, gB_i, and_true, and_false, true_and, false_and, decide_true, decide_false, ↓reduceIte, not_true_eq_false, not_false_eq_true, Bool.false_eq_true, Bool.true_eq_false, Bool.and_true, Bool.and_false, Bool.true_and, Bool.false_and, Bool.or_true, Bool.or_false, Bool.true_or, Bool.false_or, Bool.not_true, Bool.not_false, le_f, le_t, lt_f, lt_t, eq_f, ↓reduceIte, not_true_eq_false, not_false_eq_true, ite_10, bt_0, bt_1, q198, q199, q200, q201, q202, q203, q204, m190, m205, m206, b2_0, q189, q187]
      rfl
  | succ r ih =>
    intro c v N hc hN hv
    cases N with
    | zero => omega
    | succ N =>
      have e1 : cnn (fun c => decide (w c ≤ 1) && dn f c row) (r + 1) c v = cnn (fun c => decide (w c ≤ 1) && dn f c row) r (c + 1) (v + bnt (decide (w c ≤ 1) && dn f c row)) := rfl
      have k1 := m190 (x := fitW w n 1) (show c < 32 by omega) (t := t)
      rw [fitW_b hn, decide_eq_true (show c < n by omega), Bool.true_and] at k1
      have k2 := m313 (t := t) (c := c) (row := row) (by omega) hr hf
      rw [e1, ← ih (c + 1) _ N (by omega) (by omega) (by have := bnt_l (decide (w c ≤ 1) && dn f c row); omega), q318_65]
      by_cases h : w c ≤ 1
      · rw [decide_eq_true h, b2_t] at k1
        rw [decide_eq_true h, Bool.true_and]
        cases hd : dn f c row with
        | true =>
          rw [hd, b2_t] at k2
          rw [show bnt true = 1 from rfl]
          simp (disch := omega) only [q198, e0, k1, k2, q318_97, nI_lit, nI_add, pk_mul, nI_clp, nI_eqv, nI_lev, nI_ltv, nI_neg, nI_neg', nI_subv, Nat.add_zero, Nat.zero_add, Nat.mul_zero, Nat.reduceAdd, bN_rv, bM_ru, bV_rv, bV_rx, bU_ru, bU_rx, bN_ite, bM_ite, bV_ite, bU_ite, ↓bx_e, ↓sp_e, gA_ok, gZ_n, gB_0, gB_1, gB_i, and_true, and_false, true_and, false_and, decide_true, decide_false, ↓reduceIte, not_true_eq_false, not_false_eq_true, Bool.false_eq_true, Bool.true_eq_false, Bool.and_true, Bool.and_false, Bool.true_and, Bool.false_and, Bool.or_true, Bool.or_false, Bool.true_or, Bool.false_or, Bool.not_true, Bool.not_false, le_f, le_t, lt_f, lt_t, eq_f, ↓reduceIte, not_true_eq_false, not_false_eq_true, ite_10, bt_0, bt_1]
        | false =>
          rw [hd, b2_f] at k2
          rw [show bnt false = 0 from rfl]
          simp (disch := omega) only [q198, e0, k1, k2, q318_97, nI_lit, nI_add, pk_mul, nI_clp, nI_eqv, nI_lev, nI_ltv, nI_neg, nI_neg', nI_subv, Nat.add_zero, Nat.zero_add, Nat.mul_zero, Nat.reduceAdd, bN_rv, bM_ru, bV_rv, bV_rx, bU_ru, bU_rx, bN_ite, bM_ite, bV_ite, bU_ite, ↓bx_e, ↓sp_e, gA_ok, gZ_n, gB_0, gB_1, gB_i, and_true, and_false, true_and, false_and, decide_true, decide_false, ↓reduceIte, not_true_eq_false, not_false_eq_true, Bool.false_eq_true, Bool.true_eq_false, Bool.and_true, Bool.and_false, Bool.true_and, Bool.false_and, Bool.or_true, Bool.or_false, Bool.true_or, Bool.false_or, Bool.not_true, Bool.not_false, le_f, le_t, lt_f, lt_t, eq_f, ↓reduceIte, not_true_eq_false, not_false_eq_true, ite_10, bt_0, bt_1]
      · rw [decide_eq_false h, b2_f] at k1
        rw [decide_eq_false h, Bool.false_and, show bnt false = 0 from rfl]
        simp (disch := omega) only [q198, e0, k1, q318_97, nI_lit, nI_add, pk_mul, nI_clp, nI_eqv, nI_lev, nI_ltv, nI_neg, nI_neg', nI_subv, Nat.add_zero, Nat.zero_add, Nat.mul_zero, Nat.reduceAdd, bN_rv, bM_ru, bV_rv, bV_rx, bU_ru, bU_rx, bN_ite, bM_ite, bV_ite, bU_ite, ↓bx_e, ↓sp_e, gA_ok, gZ_n, gB_0, gB_1, gB_i, and_true, and_false, true_and, false_and, decide_true, decide_false, ↓reduceIte, not_true_eq_false, not_false_eq_true, Bool.false_eq_true, Bool.true_eq_false, Bool.and_true, Bool.and_false, Bool.true_and, Bool.false_and, Bool.or_true, Bool.or_false, Bool.true_or, Bool.false_or, Bool.not_true, Bool.not_false, le_f, le_t, lt_f, lt_t, eq_f, ↓reduceIte, not_true_eq_false, not_false_eq_true, ite_10, bt_0, bt_1]
theorem m318_47 {t : mS} (hn : n ≤ 5) (hf : t.1 513 = f) (f0 : f 0 = nI n) (hA : 2 ≤ cnn (fun c => decide (w c ≤ 1)) n 0 0) : ∀ r row (a : Int32 × Nat) N, row + r = 20 → r < N → a.2 < 2000000 → q318_47 N (fitW w n 1) (nI (cnn (fun c => decide (w c ≤ 1)) n 0 0)) a.1 (nI a.2) (nI row) t = rv (fo (askS (fun row => ptA (fun c => decide (w c ≤ 1)) (fun c => dn f c row) n)) r row a).1 t := by
  have hl := cnn_l (fun c => decide (w c ≤ 1)) n 0 0
  intro r
  induction r with
  | zero =>
    intro row a N hr hN ha
    cases N with
    | zero => omega
    | succ N =>
      rw [q318_47, fo]
      simp (disch := omega) only [nI_lit, nI_add, pk_mul, nI_clp, nI_eqv, nI_lev, nI_ltv, nI_neg, nI_neg', nI_subv, Nat.add_zero, Nat.zero_add, Nat.mul_zero, Nat.reduceAdd, bN_rv, bM_ru, bV_rv, bV_rx, bU_ru, bU_rx, bN_ite, bM_ite, bV_ite, bU_ite, ↓bx_e, ↓sp_e, gA_ok, gZ_n, gB_0, gB_1, gB_i, and_true, and_false, true_and, false_and, decide_true, decide_false, ↓reduceIte, not_true_eq_false, not_false_eq_true, Bool.false_eq_true, Bool.true_eq_false, Bool.and_true, Bool.and_false, Bool.true_and, Bool.false_and, Bool.or_true, Bool.or_false, Bool.true_or, Bool.false_or, Bool.not_true, Bool.not_false, le_f, le_t, lt_f, lt_t, eq_f, ↓reduceIte, not_true_eq_false, not_false_eq_true, ite_10, bt_0, bt_1]
  | succ r ih =>
    intro row a N hr hN ha
    cases N with
    | zero => omega
    | succ N =>
      have k1 := m318_65 (t := t) (w := w) (row := row) (v2 := nI (cnn (fun c => decide (w c ≤ 1)) n 0 0)) (v3 := a.1) (v4 := nI a.2) (K := q318_106 (q318_47 N)) hn (by omega) hf f0 n 0 0 10000 (by omega) (by omega) (by omega)
      have m1 := cnn_m (p := fun c => decide (w c ≤ 1) && dn f c row) (q := fun c => decide (w c ≤ 1)) (fun c h => by simp only [Bool.and_eq_true] at h; exact h.1) n 0 0
      have m2 := mx_n (a := cnn (fun c => decide (w c ≤ 1) && dn f c row) n 0 0) (b := cnn (fun c => decide (w c ≤ 1)) n 0 0 - cnn (fun c => decide (w c ≤ 1) && dn f c row) n 0 0) (by omega) (by omega)
      have m3 : max (cnn (fun c => decide (w c ≤ 1) && dn f c row) n 0 0) (cnn (fun c => decide (w c ≤ 1)) n 0 0 - cnn (fun c => decide (w c ≤ 1) && dn f c row) n 0 0) = ptA (fun c => decide (w c ≤ 1)) (fun c => dn f c row) n := rfl
      have m4 := ptA_l (fun c => decide (w c ≤ 1)) (fun c => dn f c row) n
      rw [m3] at m2
      rw [q318_47, fo]
      by_cases h : ptA (fun c => decide (w c ≤ 1)) (fun c => dn f c row) n < a.2
      · have e : askS (fun row => ptA (fun c => decide (w c ≤ 1)) (fun c => dn f c row) n) row a = (nI row, ptA (fun c => decide (w c ≤ 1)) (fun c => dn f c row) n) := if_pos h
        have m5 : mnI (nI a.2) (nI (ptA (fun c => decide (w c ≤ 1)) (fun c => dn f c row) n)) = nI (ptA (fun c => decide (w c ≤ 1)) (fun c => dn f c row) n) := if_pos (by rw [nI_ltv (by omega) (by omega)]; exact h)
        rw [e, ← ih (row + 1) _ N (by omega) (by omega) (show ptA (fun c => decide (w c ≤ 1)) (fun c => dn f c row) n < 2000000 by omega)]
        simp (disch := omega) only [k1, m2, m5, q318_106, q318_130, nI_lit, nI_add, pk_mul, nI_clp, nI_eqv, nI_lev, nI_ltv, nI_neg, nI_neg', nI_subv, Nat.add_zero, Nat.zero_add, Nat.mul_zero, Nat.reduceAdd, bN_rv, bM_ru, bV_rv, bV_rx, bU_ru, bU_rx, bN_ite, bM_ite, bV_ite, bU_ite, ↓bx_e, ↓sp_e, gA_ok, gZ_n, gB_0, gB_1, gB_i, and_true, and_false, true_and, false_and, decide_true, decide_false, ↓reduceIte, not_true_eq_false, not_false_eq_true, Bool.false_eq_true, Bool.true_eq_false, Bool.and_true, Bool.and_false, Bool.true_and, Bool.false_and, Bool.or_true, Bool.or_false, Bool.true_or, Bool.false_or, Bool.not_true, Bool.not_false, le_f, le_t, lt_f, lt_t, eq_f, ↓reduceIte, not_true_eq_false, not_false_eq_true, ite_10, bt_0, bt_1]
      · have e : askS (fun row => ptA (fun c => decide (w c ≤ 1)) (fun c => dn f c row) n) row a = a := if_neg h
        have m5 : mnI (nI a.2) (nI (ptA (fun c => decide (w c ≤ 1)) (fun c => dn f c row) n)) = nI a.2 := if_neg (by rw [nI_ltv (by omega) (by omega)]; exact h)
        rw [e, ← ih (row + 1) a N (by omega) (by omega) ha]
        simp (disch := omega) only [k1, m2, m5, q318_106, q318_130, nI_lit, nI_add, pk_mul, nI_clp, nI_eqv, nI_lev, nI_ltv, nI_neg, nI_neg', nI_subv, Nat.add_zero, Nat.zero_add, Nat.mul_zero, Nat.reduceAdd, bN_rv, bM_ru, bV_rv, bV_rx, bU_ru, bU_rx, bN_ite, bM_ite, bV_ite, bU_ite, ↓bx_e, ↓sp_e, gA_ok, gZ_n, gB_0, gB_1, gB_i, and_true, and_false, true_and, false_and, decide_true, decide_false, ↓reduceIte, not_true_eq_false, not_false_eq_true, Bool.false_eq_true, Bool.true_eq_false, Bool.and_true, Bool.and_false, Bool.true_and, Bool.false_and, Bool.or_true, Bool.or_false, Bool.true_or, Bool.false_or, Bool.not_true, Bool.not_false, le_f, le_t, lt_f, lt_t, eq_f, ↓reduceIte, not_true_eq_false, not_false_eq_true, ite_10, bt_0, bt_1]
end ASK
