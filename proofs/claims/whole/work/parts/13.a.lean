/-! TEXTS: bytes, words, numbers -/
def rn (Q : Nat → Bool) : Nat → Nat → Nat
  | 0, p => p
  | m + 1, p => if Q p = true then rn Q m (p + 1) else p
theorem rn_p {Q : Nat → Bool} : ∀ m p, p ≤ rn Q m p ∧ rn Q m p ≤ p + m ∧ (∀ i, p ≤ i → i < rn Q m p → Q i = true) ∧ (rn Q m p < p + m → Q (rn Q m p) = false) := by
  intro m
  induction m with
  | zero => intro p; exact ⟨Nat.le_refl _, Nat.le_refl _, fun i h1 h2 => by rw [rn] at h2; omega, fun h => by rw [rn] at h; omega⟩
  | succ m ih =>
    intro p
    rw [rn]
    cases e : Q p with
    | true =>
      obtain ⟨h1, h2, h3, h4⟩ := ih (p + 1)
      rw [if_pos rfl]
      refine ⟨by omega, by omega, fun i a b => ?_, fun h => h4 (by omega)⟩
      by_cases q : i = p
      · rw [q]; exact e
      · exact h3 i (by omega) b
    | false =>
      rw [if_neg (by decide)]
      exact ⟨Nat.le_refl _, by omega, fun i a b => by omega, fun _ => e⟩
theorem rn_u {Q : Nat → Bool} : ∀ m p e, p ≤ e → e ≤ p + m → (∀ i, p ≤ i → i < e → Q i = true) → (e < p + m → Q e = false) → rn Q m p = e := by
  intro m p e h1 h2 h3 h4
  obtain ⟨a1, a2, a3, a4⟩ := rn_p (Q := Q) m p
  rcases Nat.lt_trichotomy (rn Q m p) e with h | h | h
  · have := h3 _ a1 h; rw [a4 (by omega)] at this; cases this
  · exact h
  · have := a3 e h1 h; rw [h4 (by omega)] at this; cases this
section BY
variable (b : Nat → Nat) (L : Nat)
def isB (lo hi q : Nat) : Bool := decide (q < L) && (decide (lo ≤ b q) && decide (b q ≤ hi))
def sk (p : Nat) : Nat := rn (isB b L 32 32) (L - p) p
def lw (p : Nat) : Nat := rn (isB b L 97 122) (L - p) p
def dg (p : Nat) : Nat := rn (isB b L 48 57) (L - p) p
def tln (tx : Nat) : Nat := (mm_txt tx).length
def tc (tx k : Nat) : Nat := ((mm_txt tx).getD k 0).toNatClampNeg
def wd (tx p : Nat) : Bool := decide (lw b L p = p + tln tx) && al (fun k => decide (b (p + k) = tc tx k)) (tln tx) 0
def val (p : Nat) : Nat → Nat
  | 0 => 0
  | k + 1 => 10 * val p k + (b (p + k) - 48)
def nm (hi p : Nat) : Option Nat := if dg b L p = p ∨ 3 < dg b L p - p ∨ hi < val b p (dg b L p - p) then none else some (val b p (dg b L p - p))
end BY
section BYT
variable {b : Nat → Nat} {L : Nat}
theorem isB_L {lo hi q : Nat} (h : L ≤ q) : isB b L lo hi q = false := by unfold isB; rw [decide_eq_false (by omega), Bool.false_and]
theorem isB_t {lo hi q : Nat} (h : isB b L lo hi q = true) : q < L ∧ lo ≤ b q ∧ b q ≤ hi := by
  unfold isB at h
  rw [Bool.and_eq_true, Bool.and_eq_true] at h
  exact ⟨of_decide_eq_true h.1, of_decide_eq_true h.2.1, of_decide_eq_true h.2.2⟩
theorem isB_y {lo hi q : Nat} (h : q < L ∧ lo ≤ b q ∧ b q ≤ hi) : isB b L lo hi q = true := by
  unfold isB
  rw [decide_eq_true h.1, decide_eq_true h.2.1, decide_eq_true h.2.2]; rfl
theorem rB {lo hi p : Nat} (hp : p ≤ L) : p ≤ rn (isB b L lo hi) (L - p) p ∧ rn (isB b L lo hi) (L - p) p ≤ L ∧ (∀ i, p ≤ i → i < rn (isB b L lo hi) (L - p) p → isB b L lo hi i = true) ∧ isB b L lo hi (rn (isB b L lo hi) (L - p) p) = false := by
  obtain ⟨a1, a2, a3, a4⟩ := rn_p (Q := isB b L lo hi) (L - p) p
  refine ⟨a1, by omega, a3, ?_⟩
  by_cases h : rn (isB b L lo hi) (L - p) p < p + (L - p)
  · exact a4 h
  · exact isB_L (by omega)
theorem rB_u {lo hi p e : Nat} (h1 : p ≤ e) (h2 : e ≤ L) (h3 : ∀ i, p ≤ i → i < e → isB b L lo hi i = true) (h4 : isB b L lo hi e = false) : rn (isB b L lo hi) (L - p) p = e := rn_u _ _ _ h1 (by omega) h3 (fun _ => h4)
theorem sk_s {p : Nat} (hp : p < L) (h : isB b L 32 32 p = true) : sk b L p = sk b L (p + 1) := by
  unfold sk
  obtain ⟨m, hm⟩ : ∃ m, L - p = m + 1 := ⟨L - p - 1, by omega⟩
  rw [hm, rn, if_pos h, show m = L - (p + 1) by omega]
theorem sk_n {p : Nat} (hp : p ≤ L) (h : isB b L 32 32 p = false) : sk b L p = p := rB_u (Nat.le_refl _) hp (fun i a c => by omega) h
theorem sk_p {p : Nat} (hp : p ≤ L) : p ≤ sk b L p ∧ sk b L p ≤ L ∧ isB b L 32 32 (sk b L p) = false ∧ sk b L (sk b L p) = sk b L p := by
  obtain ⟨a1, a2, a3, a4⟩ := rB (b := b) (lo := 32) (hi := 32) hp
  exact ⟨a1, a2, a4, sk_n a2 a4⟩
theorem lw_p {p : Nat} (hp : p ≤ L) : p ≤ lw b L p ∧ lw b L p ≤ L ∧ (∀ i, p ≤ i → i < lw b L p → isB b L 97 122 i = true) ∧ isB b L 97 122 (lw b L p) = false := rB hp
theorem dg_p {p : Nat} (hp : p ≤ L) : p ≤ dg b L p ∧ dg b L p ≤ L ∧ (∀ i, p ≤ i → i < dg b L p → isB b L 48 57 i = true) ∧ isB b L 48 57 (dg b L p) = false := rB hp
def txB (tx : Nat) : Bool := decide (0 < tln tx) && (decide (tln tx < 10) && al (fun k => decide ((mm_txt tx).getD k 0 = nI (tc tx k)) && (decide (97 ≤ tc tx k) && decide (tc tx k ≤ 122))) (tln tx) 0)
theorem tx_b : ∀ tx, tx < 22 → (tx = 7 ∨ tx = 8 ∨ txB tx = true) := by decide +kernel
theorem tx_ok : ∀ tx, tx < 22 → tx ≠ 7 → tx ≠ 8 → 0 < tln tx ∧ tln tx < 10 ∧ ∀ k, k < tln tx → (mm_txt tx).getD k (nI 0) = nI (tc tx k) ∧ 97 ≤ tc tx k ∧ tc tx k ≤ 122 := by
  intro tx h1 h7 h8
  have h : txB tx = true := by rcases tx_b tx h1 with e | e | e; exact absurd e h7; exact absurd e h8; exact e
  unfold txB at h
  rw [Bool.and_eq_true, Bool.and_eq_true] at h
  refine ⟨of_decide_eq_true h.1, of_decide_eq_true h.2.1, fun k hk => ?_⟩
  have := al_iff.mp h.2.2 k (by omega) (by omega)
  rw [Bool.and_eq_true, Bool.and_eq_true] at this
  exact ⟨of_decide_eq_true this.1, of_decide_eq_true this.2.1, of_decide_eq_true this.2.2⟩
/-- the class's tape -/
def CP (b : Nat → Nat) (L : Nat) (s : mS) : Prop := L ≤ 400 ∧ (∀ i, i < L → b i < 256) ∧ s.1 1 1 = nI L ∧ ∀ i, i < L → s.1 2 i = nI (b i)
def cAt (s : mS) (p : Nat) : mS := sI s 1 2 (nI p)
theorem upd_2 {g : Nat → Int32} {k : Nat} {x y : Int32} : upd (upd g k x) k y = upd g k y := by
  funext j
  by_cases h : j = k
  · rw [ud_e h, ud_e h]
  · rw [ud_n h, ud_n h, ud_n h]
theorem sI_2x {s : mS} {a k : Nat} {x y : Int32} : sI (sI s a k x) a k y = sI s a k y := by
  have : (sI (sI s a k x) a k y).1 = (sI s a k y).1 := by
    funext c
    by_cases h : c = a
    · subst h; rw [sI_sm, sI_sm, sI_sm, upd_2]
    · rw [sI_fn h, sI_fn h, sI_fn h]
  exact Prod.ext this rfl
theorem sI_id {s : mS} {a k : Nat} {x : Int32} (h : s.1 a k = x) : sI s a k x = s := by
  subst h
  have : (fun c => if c = a then upd (s.1 a) k (s.1 a k) else s.1 c) = s.1 := by
    funext c j
    by_cases h : c = a
    · subst h
      rw [if_pos rfl]
      by_cases e : j = k
      · subst e; rw [ud_e rfl]
      · rw [ud_n e]
    · rw [if_neg h]
  unfold sI
  rw [this]
theorem cAt_2 {s : mS} {p q : Nat} : cAt (cAt s p) q = cAt s q := sI_2x
theorem cAt_i {s : mS} {p : Nat} (h : s.1 1 2 = nI p) : cAt s p = s := sI_id h
theorem cAt_p {s : mS} {p : Nat} : (cAt s p).1 1 2 = nI p := by unfold cAt; rw [sI_sm, ud_e rfl]
theorem cAt_n {s : mS} {p c : Nat} (h : c ≠ 1) : (cAt s p).1 c = s.1 c := sI_fn h
theorem cAt_C {s : mS} {p : Nat} (h : CP b L s) : CP b L (cAt s p) := ⟨h.1, h.2.1, by unfold cAt; rw [sI_sm, ud_n (by omega)]; exact h.2.2.1, fun i hi => by rw [cAt_n (by omega)]; exact h.2.2.2 i hi⟩
theorem p103 {s : mS} {q lo hi : Nat} (h : CP b L s) (hq : q < 100000) (hlo : lo < 1000) (hhi : hi < 1000) : q103 (nI q) (nI lo) (nI hi) s = rv (b2 (isB b L lo hi q)) s := by
  obtain ⟨h1, h2, h3, h4⟩ := h
  unfold q103
  by_cases c : q < L
  · have e := h4 q c
    have e2 := h2 q c
    unfold isB
    rw [decide_eq_true c, Bool.true_and]
    by_cases c1 : lo ≤ b q
    · by_cases c2 : b q ≤ hi
      · rw [decide_eq_true c1, decide_eq_true c2, Bool.true_and, b2_t]
        simp (disch := omega) only [h3, e, nI_lit, nI_add, pk_mul, nI_clp, nI_eqv, nI_lev, nI_ltv, nI_neg, nI_neg', nI_subv, Nat.add_zero, Nat.zero_add, Nat.mul_zero, Nat.reduceAdd, bN_rv, bM_ru, bV_rv, bV_rx, bU_ru, bU_rx, bN_ite, bM_ite, bV_ite, bU_ite, ↓bx_e, ↓sp_e, gA_ok, gZ_n, gB_0, gB_1, gB_i, and_true, and_false, true_and, false_and, decide_true, decide_false, ↓reduceIte, not_true_eq_false, not_false_eq_true, Bool.false_eq_true, Bool.true_eq_false, Bool.and_true, Bool.and_false, Bool.true_and, Bool.false_and, Bool.or_true, Bool.or_false, Bool.true_or, Bool.false_or, Bool.not_true, Bool.not_false, le_f, le_t, lt_f, lt_t, eq_f, ↓reduceIte, not_true_eq_false, not_false_eq_true, ite_10, bt_0, bt_1]
      · rw [decide_eq_false c2, Bool.and_false, b2_f]
        simp (disch := omega) only [h3, e, nI_lit, nI_add, pk_mul, nI_clp, nI_eqv, nI_lev, nI_ltv, nI_neg, nI_neg', nI_subv, Nat.add_zero, Nat.zero_add, Nat.mul_zero, Nat.reduceAdd, bN_rv, bM_ru, bV_rv, bV_rx, bU_ru, bU_rx, bN_ite, bM_ite, bV_ite, bU_ite, ↓bx_e, ↓sp_e, gA_ok, gZ_n, gB_0, gB_1, gB_i, and_true, and_false, true_and, false_and, decide_true, decide_false, ↓reduceIte, not_true_eq_false, not_false_eq_true, Bool.false_eq_true, Bool.true_eq_false, Bool.and_true, Bool.and_false, Bool.true_and, Bool.false_and, Bool.or_true, Bool.or_false, Bool.true_or, Bool.false_or, Bool.not_true, Bool.not_false, le_f, le_t, lt_f, lt_t, eq_f, ↓reduceIte, not_true_eq_false, not_false_eq_true, ite_10, bt_0, bt_1]
    · rw [decide_eq_false c1, Bool.false_and, b2_f]
      simp (disch := omega) only [h3, e, nI_lit, nI_add, pk_mul, nI_clp, nI_eqv, nI_lev, nI_ltv, nI_neg, nI_neg', nI_subv, Nat.add_zero, Nat.zero_add, Nat.mul_zero, Nat.reduceAdd, bN_rv, bM_ru, bV_rv, bV_rx, bU_ru, bU_rx, bN_ite, bM_ite, bV_ite, bU_ite, ↓bx_e, ↓sp_e, gA_ok, gZ_n, gB_0, gB_1, gB_i, and_true, and_false, true_and, false_and, decide_true, decide_false, ↓reduceIte, not_true_eq_false, not_false_eq_true, Bool.false_eq_true, Bool.true_eq_false, Bool.and_true, Bool.and_false, Bool.true_and, Bool.false_and, Bool.or_true, Bool.or_false, Bool.true_or, Bool.false_or, Bool.not_true, Bool.not_false, le_f, le_t, lt_f, lt_t, eq_f, ↓reduceIte, not_true_eq_false, not_false_eq_true, ite_10, bt_0, bt_1]
  · rw [isB_L (by omega), b2_f]
    simp (disch := omega) only [h3, nI_lit, nI_add, pk_mul, nI_clp, nI_eqv, nI_lev, nI_ltv, nI_neg, nI_neg', nI_subv, Nat.add_zero, Nat.zero_add, Nat.mul_zero, Nat.reduceAdd, bN_rv, bM_ru, bV_rv, bV_rx, bU_ru, bU_rx, bN_ite, bM_ite, bV_ite, bU_ite, ↓bx_e, ↓sp_e, gA_ok, gZ_n, gB_0, gB_1, gB_i, and_true, and_false, true_and, false_and, decide_true, decide_false, ↓reduceIte, not_true_eq_false, not_false_eq_true, Bool.false_eq_true, Bool.true_eq_false, Bool.and_true, Bool.and_false, Bool.true_and, Bool.false_and, Bool.or_true, Bool.or_false, Bool.true_or, Bool.false_or, Bool.not_true, Bool.not_false, le_f, le_t, lt_f, lt_t, eq_f, ↓reduceIte, not_true_eq_false, not_false_eq_true, ite_10, bt_0, bt_1]
theorem p102_10 {s : mS} (h : CP b L s) : ∀ m p n, p + m = L → m < n → q102_10 n (cAt s p) = ru (cAt s (sk b L p)) := by
  intro m
  induction m with
  | zero =>
    intro p n hp hn
    cases n with
    | zero => omega
    | succ n =>
      have e1 := (cAt_C (p := p) h).2.2.1
      have e2 := cAt_p (s := s) (p := p)
      rw [sk_n (by omega) (isB_L (by omega)), q102_10]
      have := h.1
      simp (disch := omega) only [e1, e2, nI_lit, nI_add, pk_mul, nI_clp, nI_eqv, nI_lev, nI_ltv, nI_neg, nI_neg', nI_subv, Nat.add_zero, Nat.zero_add, Nat.mul_zero, Nat.reduceAdd, bN_rv, bM_ru, bV_rv, bV_rx, bU_ru, bU_rx, bN_ite, bM_ite, bV_ite, bU_ite, ↓bx_e, ↓sp_e, gA_ok, gZ_n, gB_0, gB_1, gB_i, and_true, and_false, true_and, false_and, decide_true, decide_false, ↓reduceIte, not_true_eq_false, not_false_eq_true, Bool.false_eq_true, Bool.true_eq_false, Bool.and_true, Bool.and_false, Bool.true_and, Bool.false_and, Bool.or_true, Bool.or_false, Bool.true_or, Bool.false_or, Bool.not_true, Bool.not_false, le_f, le_t, lt_f, lt_t, eq_f, ↓reduceIte, not_true_eq_false, not_false_eq_true, ite_10, bt_0, bt_1]
  | succ m ih =>
    intro p n hp hn
    cases n with
    | zero => omega
    | succ n =>
      have hc := cAt_C (p := p) h
      have e1 := hc.2.2.1
      have e2 := cAt_p (s := s) (p := p)
      have e3 := hc.2.2.2 p (by omega)
      have e4 := h.2.1 p (by omega)
      have hL := h.1
      rw [q102_10]
      by_cases c : b p = 32
      · rw [sk_s (by omega) (isB_y ⟨by omega, by omega, by omega⟩), ← ih (p + 1) n (by omega) (by omega)]
        rw [c] at e3
        have e5 : sI (cAt s p) 1 2 (nI (p + 1)) = cAt s (p + 1) := sI_2x
        simp (disch := omega) only [e1, e2, e3, e5, nI_lit, nI_add, pk_mul, nI_clp, nI_eqv, nI_lev, nI_ltv, nI_neg, nI_neg', nI_subv, Nat.add_zero, Nat.zero_add, Nat.mul_zero, Nat.reduceAdd, bN_rv, bM_ru, bV_rv, bV_rx, bU_ru, bU_rx, bN_ite, bM_ite, bV_ite, bU_ite, ↓bx_e, ↓sp_e, gA_ok, gZ_n, gB_0, gB_1, gB_i, and_true, and_false, true_and, false_and, decide_true, decide_false, ↓reduceIte, not_true_eq_false, not_false_eq_true, Bool.false_eq_true, Bool.true_eq_false, Bool.and_true, Bool.and_false, Bool.true_and, Bool.false_and, Bool.or_true, Bool.or_false, Bool.true_or, Bool.false_or, Bool.not_true, Bool.not_false, le_f, le_t, lt_f, lt_t, eq_f, ↓reduceIte, not_true_eq_false, not_false_eq_true, ite_10, bt_0, bt_1]
      · have : isB b L 32 32 p = false := by
          cases q : isB b L 32 32 p with
          | false => rfl
          | true => have := isB_t q; omega
        rw [sk_n (by omega) this]
        simp (disch := omega) only [e1, e2, e3, nI_lit, nI_add, pk_mul, nI_clp, nI_eqv, nI_lev, nI_ltv, nI_neg, nI_neg', nI_subv, Nat.add_zero, Nat.zero_add, Nat.mul_zero, Nat.reduceAdd, bN_rv, bM_ru, bV_rv, bV_rx, bU_ru, bU_rx, bN_ite, bM_ite, bV_ite, bU_ite, ↓bx_e, ↓sp_e, gA_ok, gZ_n, gB_0, gB_1, gB_i, and_true, and_false, true_and, false_and, decide_true, decide_false, ↓reduceIte, not_true_eq_false, not_false_eq_true, Bool.false_eq_true, Bool.true_eq_false, Bool.and_true, Bool.and_false, Bool.true_and, Bool.false_and, Bool.or_true, Bool.or_false, Bool.true_or, Bool.false_or, Bool.not_true, Bool.not_false, le_f, le_t, lt_f, lt_t, eq_f, ↓reduceIte, not_true_eq_false, not_false_eq_true, ite_10, bt_0, bt_1]
theorem p102 {s : mS} {p z : Nat} (h : CP b L s) (hp : s.1 1 2 = nI p) (hz : p + z ≤ L) : q102 (nI z) s = ru (cAt s (sk b L (p + z))) := by
  have k := p102_10 h (L - (p + z)) (p + z) 10000 (by omega) (by have := h.1; omega)
  unfold q102
  simp (disch := omega) only [hp, nI_lit, nI_add, pk_mul, nI_clp, nI_eqv, nI_lev, nI_ltv, nI_neg, nI_neg', nI_subv, Nat.add_zero, Nat.zero_add, Nat.mul_zero, Nat.reduceAdd, bN_rv, bM_ru, bV_rv, bV_rx, bU_ru, bU_rx, bN_ite, bM_ite, bV_ite, bU_ite, ↓bx_e, ↓sp_e, gA_ok, gZ_n, gB_0, gB_1, gB_i, and_true, and_false, true_and, false_and, decide_true, decide_false, ↓reduceIte, not_true_eq_false, not_false_eq_true, Bool.false_eq_true, Bool.true_eq_false, Bool.and_true, Bool.and_false, Bool.true_and, Bool.false_and, Bool.or_true, Bool.or_false, Bool.true_or, Bool.false_or, Bool.not_true, Bool.not_false, le_f, le_t, lt_f, lt_t, eq_f, ↓reduceIte, not_true_eq_false, not_false_eq_true, ite_10, bt_0, bt_1]
  exact k
theorem p104 {s : mS} {p c : Nat} (h : CP b L s) (hp : s.1 1 2 = nI p) (hpL : p ≤ L) (hc : c < 1000) : q104 (nI c) s = rv (b2 (isB b L c c p)) (cAt s (if isB b L c c p = true then sk b L (p + 1) else p)) := by
  have hL := h.1
  have k := p103 h (q := p) (lo := c) (hi := c) (by omega) hc hc
  unfold q104
  rw [hp, k, bN_rv]
  cases e : isB b L c c p with
  | true =>
    rw [b2_t, if_pos (by decide), if_pos rfl]
    have k2 := p102 (z := 1) h hp (by have := isB_t e; omega)
    simp only [nI_lit]
    rw [k2, bM_ru]
  | false =>
    rw [b2_f, if_neg (by decide), if_neg (by decide), cAt_i hp]
    rfl
theorem p105_7 {s : mS} {K : Int32 → mS → Option mQ} {p tx : Nat} (h : CP b L s) (hp : s.1 1 2 = nI p) (hpL : p ≤ L) (h1 : tx < 22) (h7 : tx ≠ 7) (h8 : tx ≠ 8) : ∀ r k n, k + r = tln tx → r < n → q105_7 K tx n (nI (tln tx)) (nI k) s = if al (fun k => decide (p + k < L) && decide (b (p + k) = tc tx k)) r k = true then K (nI (tln tx)) s else rv (nI 0) s := by
  obtain ⟨t1, t2, t3⟩ := tx_ok tx h1 h7 h8
  have hL := h.1
  obtain ⟨-, g2, g3, g4⟩ := h
  intro r
  induction r with
  | zero =>
    intro k n hk hn
    cases n with
    | zero => omega
    | succ n =>
      rw [q105_7, al, if_pos (by rw [nI_lev (by omega) (by omega)]; omega), if_pos rfl]
  | succ r ih =>
    intro k n hk hn
    cases n with
    | zero => omega
    | succ n =>
      rw [q105_7, al]
      obtain ⟨t4, t5, t6⟩ := t3 k (by omega)
      have lt : (mm_txt tx).length = tln tx := rfl
      by_cases c : p + k < L
      · have e := g4 (p + k) c
        have e2 := g2 (p + k) c
        rw [decide_eq_true c, Bool.true_and]
        by_cases c2 : b (p + k) = tc tx k
        · rw [decide_eq_true c2, Bool.true_and, ← ih (k + 1) n (by omega) (by omega)]
          rw [c2] at e
          simp (disch := omega) only [hp, g3, e, lt, t4, nI_lit, nI_add, pk_mul, nI_clp, nI_eqv, nI_lev, nI_ltv, nI_neg, nI_neg', nI_subv, Nat.add_zero, Nat.zero_add, Nat.mul_zero, Nat.reduceAdd, bN_rv, bM_ru, bV_rv, bV_rx, bU_ru, bU_rx, bN_ite, bM_ite, bV_ite, bU_ite, ↓bx_e, ↓sp_e, gA_ok, gZ_n, gB_0, gB_1, gB_i, and_true, and_false, true_and, false_and, decide_true, decide_false, ↓reduceIte, not_true_eq_false, not_false_eq_true, Bool.false_eq_true, Bool.true_eq_false, Bool.and_true, Bool.and_false, Bool.true_and, Bool.false_and, Bool.or_true, Bool.or_false, Bool.true_or, Bool.false_or, Bool.not_true, Bool.not_false, le_f, le_t, lt_f, lt_t, eq_f, ↓reduceIte, not_true_eq_false, not_false_eq_true, ite_10, bt_0, bt_1]
        · rw [decide_eq_false c2, Bool.false_and, if_neg (show ¬ (false = true) by decide)]
          simp (disch := omega) only [hp, g3, e, lt, t4, nI_lit, nI_add, pk_mul, nI_clp, nI_eqv, nI_lev, nI_ltv, nI_neg, nI_neg', nI_subv, Nat.add_zero, Nat.zero_add, Nat.mul_zero, Nat.reduceAdd, bN_rv, bM_ru, bV_rv, bV_rx, bU_ru, bU_rx, bN_ite, bM_ite, bV_ite, bU_ite, ↓bx_e, ↓sp_e, gA_ok, gZ_n, gB_0, gB_1, gB_i, and_true, and_false, true_and, false_and, decide_true, decide_false, ↓reduceIte, not_true_eq_false, not_false_eq_true, Bool.false_eq_true, Bool.true_eq_false, Bool.and_true, Bool.and_false, Bool.true_and, Bool.false_and, Bool.or_true, Bool.or_false, Bool.true_or, Bool.false_or, Bool.not_true, Bool.not_false, le_f, le_t, lt_f, lt_t, eq_f, ↓reduceIte, not_true_eq_false, not_false_eq_true, ite_10, bt_0, bt_1]
      · rw [decide_eq_false c, Bool.false_and, Bool.false_and, if_neg (show ¬ (false = true) by decide)]
        simp (disch := omega) only [hp, g3, nI_lit, nI_add, pk_mul, nI_clp, nI_eqv, nI_lev, nI_ltv, nI_neg, nI_neg', nI_subv, Nat.add_zero, Nat.zero_add, Nat.mul_zero, Nat.reduceAdd, bN_rv, bM_ru, bV_rv, bV_rx, bU_ru, bU_rx, bN_ite, bM_ite, bV_ite, bU_ite, ↓bx_e, ↓sp_e, gA_ok, gZ_n, gB_0, gB_1, gB_i, and_true, and_false, true_and, false_and, decide_true, decide_false, ↓reduceIte, not_true_eq_false, not_false_eq_true, Bool.false_eq_true, Bool.true_eq_false, Bool.and_true, Bool.and_false, Bool.true_and, Bool.false_and, Bool.or_true, Bool.or_false, Bool.true_or, Bool.false_or, Bool.not_true, Bool.not_false, le_f, le_t, lt_f, lt_t, eq_f, ↓reduceIte, not_true_eq_false, not_false_eq_true, ite_10, bt_0, bt_1]
/-- a word stands there: the class's way and the reference's -/
theorem wd_C {p tx : Nat} (hpL : p ≤ L) (h1 : tx < 22) (h7 : tx ≠ 7) (h8 : tx ≠ 8) : wd b L tx p = (al (fun k => decide (p + k < L) && decide (b (p + k) = tc tx k)) (tln tx) 0 && !isB b L 97 122 (p + tln tx)) := by
  obtain ⟨t1, t2, t3⟩ := tx_ok tx h1 h7 h8
  obtain ⟨l1, l2, l3, l4⟩ := lw_p (b := b) hpL
  unfold wd
  cases e : al (fun k => decide (p + k < L) && decide (b (p + k) = tc tx k)) (tln tx) 0 with
  | true =>
    have ha := al_iff.mp e
    have hm : al (fun k => decide (b (p + k) = tc tx k)) (tln tx) 0 = true := al_iff.mpr (fun k x y => by
      have := ha k x y
      simp only [Bool.and_eq_true] at this
      exact this.2)
    rw [hm, Bool.and_true, Bool.true_and]
    have hl : ∀ i, p ≤ i → i < p + tln tx → isB b L 97 122 i = true := fun i x y => by
      have := ha (i - p) (by omega) (by omega)
      simp only [Bool.and_eq_true, decide_eq_true_eq] at this
      obtain ⟨t4, t5, t6⟩ := t3 (i - p) (by omega)
      rw [show p + (i - p) = i by omega] at this
      exact isB_y ⟨this.1, by omega, by omega⟩
    have hle : p + tln tx ≤ L := by have := isB_t (hl (p + tln tx - 1) (by omega) (by omega)); omega
    cases e2 : isB b L 97 122 (p + tln tx) with
    | true =>
      rw [Bool.not_true]
      exact decide_eq_false (fun q => by rw [q, e2] at l4; cases l4)
    | false =>
      rw [Bool.not_false]
      exact decide_eq_true (rB_u (by omega) hle hl e2)
  | false =>
    rw [Bool.false_and]
    by_cases q : lw b L p = p + tln tx
    · rw [decide_eq_true q, Bool.true_and]
      cases e3 : al (fun k => decide (b (p + k) = tc tx k)) (tln tx) 0 with
      | false => rfl
      | true =>
        exfalso
        have : al (fun k => decide (p + k < L) && decide (b (p + k) = tc tx k)) (tln tx) 0 = true := al_iff.mpr (fun k x y => by
          have := al_iff.mp e3 k x y
          simp only [Bool.and_eq_true]
          exact ⟨decide_eq_true (by omega), this⟩)
        rw [e] at this; cases this
    · rw [decide_eq_false q, Bool.false_and]
theorem wd_l {p tx : Nat} (h : wd b L tx p = true) : lw b L p = p + tln tx := by
  unfold wd at h
  rw [Bool.and_eq_true] at h
  exact of_decide_eq_true h.1
theorem p105 {s : mS} {p tx : Nat} (h : CP b L s) (hp : s.1 1 2 = nI p) (hpL : p ≤ L) (h1 : tx < 22) (h7 : tx ≠ 7) (h8 : tx ≠ 8) : q105 tx s = rv (b2 (wd b L tx p)) (cAt s (if wd b L tx p = true then sk b L (p + tln tx) else p)) := by
  obtain ⟨t1, t2, t3⟩ := tx_ok tx h1 h7 h8
  have hL := h.1
  have k := p105_7 (K := q105_52 tx) h hp hpL h1 h7 h8 (tln tx) 0 10000 (by omega) (by omega)
  have ew := wd_C (b := b) (L := L) (p := p) hpL h1 h7 h8
  unfold q105
  simp only [bx_e, nI_lit]
  rw [show Int32.ofNat (mm_txt tx).length = nI (tln tx) from rfl]
  rw [k]
  cases e : al (fun k => decide (p + k < L) && decide (b (p + k) = tc tx k)) (tln tx) 0 with
  | false =>
    rw [e, Bool.false_and] at ew
    rw [if_neg (by decide), ew, if_neg (by decide), b2_f, cAt_i hp]
  | true =>
    rw [e, Bool.true_and] at ew
    rw [if_pos rfl]
    unfold q105_52
    have k2 := p103 h (q := p + tln tx) (lo := 97) (hi := 122) (by omega) (by omega) (by omega)
    rw [hp]
    simp only [nI_lit, nI_add]
    rw [k2, bN_rv]
    cases e2 : isB b L 97 122 (p + tln tx) with
    | true =>
      rw [e2, Bool.not_true] at ew
      rw [ew, b2_t, if_neg (show ¬ nI 1 = nI 0 by decide), if_neg (by decide), b2_f, cAt_i hp]
    | false =>
      rw [e2, Bool.not_false] at ew
      have hw := wd_l ew
      obtain ⟨l1, l2, -, -⟩ := lw_p (b := b) hpL
      rw [ew, b2_f, if_pos (show nI 0 = nI 0 from rfl), if_pos rfl, b2_t, p102 h hp (by omega), bM_ru]
theorem p101 {s : mS} {p : Nat} (h : CP b L s) (hp : s.1 1 2 = nI p) (hpL : p ≤ L) : q101 s = rv (b2 (decide (p = L))) s := by
  obtain ⟨g1, -, g3, -⟩ := h
  unfold q101
  by_cases c : p = L
  · rw [decide_eq_true c, b2_t]
    simp (disch := omega) only [hp, g3, nI_lit, nI_add, pk_mul, nI_clp, nI_eqv, nI_lev, nI_ltv, nI_neg, nI_neg', nI_subv, Nat.add_zero, Nat.zero_add, Nat.mul_zero, Nat.reduceAdd, bN_rv, bM_ru, bV_rv, bV_rx, bU_ru, bU_rx, bN_ite, bM_ite, bV_ite, bU_ite, ↓bx_e, ↓sp_e, gA_ok, gZ_n, gB_0, gB_1, gB_i, and_true, and_false, true_and, false_and, decide_true, decide_false, ↓reduceIte, not_true_eq_false, not_false_eq_true, Bool.false_eq_true, Bool.true_eq_false, Bool.and_true, Bool.and_false, Bool.true_and, Bool.false_and, Bool.or_true, Bool.or_false, Bool.true_or, Bool.false_or, Bool.not_true, Bool.not_false, le_f, le_t, lt_f, lt_t, eq_f, ↓reduceIte, not_true_eq_false, not_false_eq_true, ite_10, bt_0, bt_1]
  · rw [decide_eq_false c, b2_f]
    simp (disch := omega) only [hp, g3, nI_lit, nI_add, pk_mul, nI_clp, nI_eqv, nI_lev, nI_ltv, nI_neg, nI_neg', nI_subv, Nat.add_zero, Nat.zero_add, Nat.mul_zero, Nat.reduceAdd, bN_rv, bM_ru, bV_rv, bV_rx, bU_ru, bU_rx, bN_ite, bM_ite, bV_ite, bU_ite, ↓bx_e, ↓sp_e, gA_ok, gZ_n, gB_0, gB_1, gB_i, and_true, and_false, true_and, false_and, decide_true, decide_false, ↓reduceIte, not_true_eq_false, not_false_eq_true, Bool.false_eq_true, Bool.true_eq_false, Bool.and_true, Bool.and_false, Bool.true_and, Bool.false_and, Bool.or_true, Bool.or_false, Bool.true_or, Bool.false_or, Bool.not_true, Bool.not_false, le_f, le_t, lt_f, lt_t, eq_f, ↓reduceIte, not_true_eq_false, not_false_eq_true, ite_10, bt_0, bt_1]
theorem p100 {s : mS} (h : CP b L s) : q100 s = ru (cAt s (sk b L 0)) := by
  have k := p102 (z := 0) (cAt_C (p := 0) h) cAt_p (by omega)
  rw [cAt_2, Nat.add_zero] at k
  unfold q100
  simp only [nI_lit, sp_e]
  have k' : q102 (nI 0) (sI s 1 2 (nI 0)) = ru (cAt s (sk b L 0)) := k
  rw [k', bM_ru]
theorem p106 {s : mS} {p : Nat} (h : CP b L s) (hp : s.1 1 2 = nI p) (hpL : p ≤ L) : q106 s = rv (b2 (isB b L 48 57 p)) s := by
  have hL := h.1
  have k := p103 h (q := p) (lo := 48) (hi := 57) (by omega) (by omega) (by omega)
  unfold q106
  simp only [nI_lit]
  rw [hp, k, bN_rv, gB_b]
theorem val_l {p : Nat} : ∀ k, (∀ i, i < k → b (p + i) ≤ 57) → val b p k < 10 ^ k := by
  intro k
  induction k with
  | zero => intro _; show 0 < 10 ^ 0; omega
  | succ k ih =>
    intro h
    have h1 := ih (fun i hi => h i (by omega))
    have h2 := h k (by omega)
    rw [val, Nat.pow_succ]
    omega
theorem p107_4 {s : mS} {K : Int32 → Int32 → Int32 → mS → Option mQ} {v1 : Int32} {p : Nat} (h : CP b L s) (hp : s.1 1 2 = nI p) (hpL : p ≤ L) : ∀ r k n, k + r = 4 → r < n → p + k ≤ dg b L p → q107_4 K n v1 (nI (val b p k)) (nI k) s = K v1 (nI (val b p (min 4 (dg b L p - p)))) (nI (min 4 (dg b L p - p))) s := by
  obtain ⟨d1, d2, d3, d4⟩ := dg_p (b := b) hpL
  have hL := h.1
  intro r
  induction r with
  | zero =>
    intro k n hk hn hd
    cases n with
    | zero => omega
    | succ n =>
      have : k = 4 := by omega
      subst this
      rw [show min 4 (dg b L p - p) = 4 by omega, q107_4]
      simp (disch := omega) only [nI_lit, nI_add, pk_mul, nI_clp, nI_eqv, nI_lev, nI_ltv, nI_neg, nI_neg', nI_subv, Nat.add_zero, Nat.zero_add, Nat.mul_zero, Nat.reduceAdd, bN_rv, bM_ru, bV_rv, bV_rx, bU_ru, bU_rx, bN_ite, bM_ite, bV_ite, bU_ite, ↓bx_e, ↓sp_e, gA_ok, gZ_n, gB_0, gB_1, gB_i, and_true, and_false, true_and, false_and, decide_true, decide_false, ↓reduceIte, not_true_eq_false, not_false_eq_true, Bool.false_eq_true, Bool.true_eq_false, Bool.and_true, Bool.and_false, Bool.true_and, Bool.false_and, Bool.or_true, Bool.or_false, Bool.true_or, Bool.false_or, Bool.not_true, Bool.not_false, le_f, le_t, lt_f, lt_t, eq_f, ↓reduceIte, not_true_eq_false, not_false_eq_true, ite_10, bt_0, bt_1]
  | succ r ih =>
    intro k n hk hn hd
    cases n with
    | zero => omega
    | succ n =>
      have k1 := p103 h (q := p + k) (lo := 48) (hi := 57) (by omega) (by omega) (by omega)
      rw [q107_4]
      by_cases c : p + k = dg b L p
      · rw [← c] at d4
        rw [d4, b2_f] at k1
        rw [show min 4 (dg b L p - p) = k by omega]
        simp (disch := omega) only [hp, k1, nI_lit, nI_add, pk_mul, nI_clp, nI_eqv, nI_lev, nI_ltv, nI_neg, nI_neg', nI_subv, Nat.add_zero, Nat.zero_add, Nat.mul_zero, Nat.reduceAdd, bN_rv, bM_ru, bV_rv, bV_rx, bU_ru, bU_rx, bN_ite, bM_ite, bV_ite, bU_ite, ↓bx_e, ↓sp_e, gA_ok, gZ_n, gB_0, gB_1, gB_i, and_true, and_false, true_and, false_and, decide_true, decide_false, ↓reduceIte, not_true_eq_false, not_false_eq_true, Bool.false_eq_true, Bool.true_eq_false, Bool.and_true, Bool.and_false, Bool.true_and, Bool.false_and, Bool.or_true, Bool.or_false, Bool.true_or, Bool.false_or, Bool.not_true, Bool.not_false, le_f, le_t, lt_f, lt_t, eq_f, ↓reduceIte, not_true_eq_false, not_false_eq_true, ite_10, bt_0, bt_1]
      · have e := d3 (p + k) (by omega) (by omega)
        rw [e, b2_t] at k1
        obtain ⟨x1, x2, x3⟩ := isB_t e
        have e3 := h.2.2.2 (p + k) x1
        have hv := val_l (b := b) (p := p) k (fun i hi => (isB_t (d3 (p + i) (by omega) (by omega))).2.2)
        have hv2 : 10 ^ k ≤ 1000 := (by decide : ∀ k, k ≤ 3 → 10 ^ k ≤ 1000) k (by omega)
        have hm : nI (val b p k) * nI 10 + nI (b (p + k)) - nI 48 = nI (val b p (k + 1)) := by
          have : nI (val b p k) * nI 10 = nI (val b p k * 10) := pk_mul _ _
          rw [this, nI_add, nI_subv (by omega), val]
          congr 1; omega
        rw [← ih (k + 1) n (by omega) (by omega) (by omega)]
        simp (disch := omega) only [hp, k1, e3, nI_lit, bN_rv, bx_e, nI_add, gA_ok, nI_clp, hm, nI_ltv, lt_f, ↓reduceIte]
        simp (disch := omega) only [nI_lit, nI_add, pk_mul, nI_clp, nI_eqv, nI_lev, nI_ltv, nI_neg, nI_neg', nI_subv, Nat.add_zero, Nat.zero_add, Nat.mul_zero, Nat.reduceAdd, bN_rv, bM_ru, bV_rv, bV_rx, bU_ru, bU_rx, bN_ite, bM_ite, bV_ite, bU_ite, ↓bx_e, ↓sp_e, gA_ok, gZ_n, gB_0, gB_1, gB_i, and_true, and_false, true_and, false_and, decide_true, decide_false, ↓reduceIte, not_true_eq_false, not_false_eq_true, Bool.false_eq_true, Bool.true_eq_false, Bool.and_true, Bool.and_false, Bool.true_and, Bool.false_and, Bool.or_true, Bool.or_false, Bool.true_or, Bool.false_or, Bool.not_true, Bool.not_false, le_f, le_t, lt_f, lt_t, eq_f, ↓reduceIte, not_true_eq_false, not_false_eq_true, ite_10, bt_0, bt_1]
theorem p107 {s : mS} {p hi : Nat} (h : CP b L s) (hp : s.1 1 2 = nI p) (hpL : p ≤ L) (hhi : hi < 10000) : q107 (nI hi) s = rv (oI (nm b L hi p)) s := by
  obtain ⟨d1, d2, d3, d4⟩ := dg_p (b := b) hpL
  have k := p107_4 (K := q107_52) (v1 := nI hi) h hp hpL 4 0 10000 (by omega) (by omega) (by omega)
  have hv := val_l (b := b) (p := p) (min 4 (dg b L p - p)) (fun i hi => (isB_t (d3 (p + i) (by omega) (by omega))).2.2)
  have hv2 : 10 ^ (min 4 (dg b L p - p)) ≤ 10000 := (by decide : ∀ k, k ≤ 4 → 10 ^ k ≤ 10000) _ (by omega)
  unfold q107
  simp only [nI_lit]
  rw [show val b p 0 = 0 from rfl] at k
  rw [k]
  unfold q107_52 q107_66 nm
  simp only [nI_lit]
  by_cases c1 : dg b L p = p
  · rw [if_pos (Or.inl c1), show min 4 (dg b L p - p) = 0 by omega, if_pos rfl]; rfl
  · by_cases c2 : 3 < dg b L p - p
    · rw [if_pos (Or.inr (Or.inl c2)), if_neg (by rw [nI_eqv (by omega) (by omega)]; omega), if_pos (by rw [nI_ltv (by omega) (by omega)]; omega)]; rfl
    · rw [show min 4 (dg b L p - p) = dg b L p - p by omega] at hv hv2 ⊢
      rw [if_neg (by rw [nI_eqv (by omega) (by omega)]; omega), if_neg (by rw [nI_ltv (by omega) (by omega)]; omega)]
      by_cases c3 : hi < val b p (dg b L p - p)
      · rw [if_pos (Or.inr (Or.inr c3)), if_neg (by rw [nI_lev (by omega) (by omega)]; omega)]; rfl
      · rw [if_pos (show nI (val b p (dg b L p - p)) ≤ nI hi by rw [nI_lev (by omega) (by omega)]; omega), if_neg (show ¬ (dg b L p = p ∨ 3 < dg b L p - p ∨ hi < val b p (dg b L p - p)) by omega)]; rfl
theorem nm_s {hi p v : Nat} (h : nm b L hi p = some v) : p < dg b L p ∨ dg b L p < p := by
  unfold nm at h
  split at h
  · cases h
  · rename_i q; omega
theorem nm_p {hi p v : Nat} (h : nm b L hi p = some v) : dg b L p ≠ p ∧ dg b L p - p ≤ 3 ∧ v ≤ hi := by
  unfold nm at h
  split at h
  · cases h
  · rename_i q
    injection h with h
    omega
theorem p108 {s : mS} {p hi : Nat} (h : CP b L s) (hp : s.1 1 2 = nI p) (hpL : p ≤ L) (hhi : hi < 10000) : q108 (nI hi) s = rv (oI (nm b L hi p)) (cAt s (if (nm b L hi p).isSome = true then sk b L (dg b L p) else p)) := by
  obtain ⟨d1, d2, d3, d4⟩ := dg_p (b := b) hpL
  have hL := h.1
  unfold q108
  rw [p107 h hp hpL hhi, bN_rv]
  cases e : nm b L hi p with
  | none =>
    rw [if_neg (show ¬ (none : Option Nat).isSome = true by decide), show oI none = -1 from rfl, if_neg (not_not_intro rfl), cAt_i hp]
  | some v =>
    obtain ⟨e1, e2, e3⟩ := nm_p e
    rw [if_pos (show (some v).isSome = true from rfl), show oI (some v) = nI v from rfl]
    have main : ∀ r k n, k + r = dg b L p - p → r < n → q108_15 q108_43 n (nI v) (nI k) s = rv (nI v) (cAt s (sk b L (dg b L p))) := by
      have kl := p102 (z := dg b L p - p) h hp (by omega)
      rw [show p + (dg b L p - p) = dg b L p by omega] at kl
      intro r
      induction r with
      | zero =>
        intro k n hk hn
        cases n with
        | zero => omega
        | succ n =>
          rw [Nat.add_zero] at hk
          subst hk
          rw [q108_15]
          by_cases c : 3 ≤ dg b L p - p
          · simp (disch := omega) only [q108_43, kl, nI_lit, nI_add, pk_mul, nI_clp, nI_eqv, nI_lev, nI_ltv, nI_neg, nI_neg', nI_subv, Nat.add_zero, Nat.zero_add, Nat.mul_zero, Nat.reduceAdd, bN_rv, bM_ru, bV_rv, bV_rx, bU_ru, bU_rx, bN_ite, bM_ite, bV_ite, bU_ite, ↓bx_e, ↓sp_e, gA_ok, gZ_n, gB_0, gB_1, gB_i, and_true, and_false, true_and, false_and, decide_true, decide_false, ↓reduceIte, not_true_eq_false, not_false_eq_true, Bool.false_eq_true, Bool.true_eq_false, Bool.and_true, Bool.and_false, Bool.true_and, Bool.false_and, Bool.or_true, Bool.or_false, Bool.true_or, Bool.false_or, Bool.not_true, Bool.not_false, le_f, le_t, lt_f, lt_t, eq_f, ↓reduceIte, not_true_eq_false, not_false_eq_true, ite_10, bt_0, bt_1]
          · have k1 := p103 h (q := p + (dg b L p - p)) (lo := 48) (hi := 57) (by omega) (by omega) (by omega)
            rw [show p + (dg b L p - p) = dg b L p by omega, d4, b2_f] at k1
            have ep : p + (dg b L p - p) = dg b L p := by omega
            simp (disch := omega) only [hp, q108_43, ep, k1, kl, nI_lit, nI_add, pk_mul, nI_clp, nI_eqv, nI_lev, nI_ltv, nI_neg, nI_neg', nI_subv, Nat.add_zero, Nat.zero_add, Nat.mul_zero, Nat.reduceAdd, bN_rv, bM_ru, bV_rv, bV_rx, bU_ru, bU_rx, bN_ite, bM_ite, bV_ite, bU_ite, ↓bx_e, ↓sp_e, gA_ok, gZ_n, gB_0, gB_1, gB_i, and_true, and_false, true_and, false_and, decide_true, decide_false, ↓reduceIte, not_true_eq_false, not_false_eq_true, Bool.false_eq_true, Bool.true_eq_false, Bool.and_true, Bool.and_false, Bool.true_and, Bool.false_and, Bool.or_true, Bool.or_false, Bool.true_or, Bool.false_or, Bool.not_true, Bool.not_false, le_f, le_t, lt_f, lt_t, eq_f, ↓reduceIte, not_true_eq_false, not_false_eq_true, ite_10, bt_0, bt_1]
      | succ r ih =>
        intro k n hk hn
        cases n with
        | zero => omega
        | succ n =>
          have k1 := p103 h (q := p + k) (lo := 48) (hi := 57) (by omega) (by omega) (by omega)
          rw [d3 (p + k) (by omega) (by omega), b2_t] at k1
          rw [← ih (k + 1) n (by omega) (by omega), q108_15]
          simp (disch := omega) only [hp, k1, nI_lit, nI_add, pk_mul, nI_clp, nI_eqv, nI_lev, nI_ltv, nI_neg, nI_neg', nI_subv, Nat.add_zero, Nat.zero_add, Nat.mul_zero, Nat.reduceAdd, bN_rv, bM_ru, bV_rv, bV_rx, bU_ru, bU_rx, bN_ite, bM_ite, bV_ite, bU_ite, ↓bx_e, ↓sp_e, gA_ok, gZ_n, gB_0, gB_1, gB_i, and_true, and_false, true_and, false_and, decide_true, decide_false, ↓reduceIte, not_true_eq_false, not_false_eq_true, Bool.false_eq_true, Bool.true_eq_false, Bool.and_true, Bool.and_false, Bool.true_and, Bool.false_and, Bool.or_true, Bool.or_false, Bool.true_or, Bool.false_or, Bool.not_true, Bool.not_false, le_f, le_t, lt_f, lt_t, eq_f, ↓reduceIte, not_true_eq_false, not_false_eq_true, ite_10, bt_0, bt_1]
    have k := main (dg b L p - p - 1) 1 10000 (by omega) (by omega)
    simp (disch := omega) only [nI_lit, nI_add, pk_mul, nI_clp, nI_eqv, nI_lev, nI_ltv, nI_neg, nI_neg', nI_subv, Nat.add_zero, Nat.zero_add, Nat.mul_zero, Nat.reduceAdd, bN_rv, bM_ru, bV_rv, bV_rx, bU_ru, bU_rx, bN_ite, bM_ite, bV_ite, bU_ite, ↓bx_e, ↓sp_e, gA_ok, gZ_n, gB_0, gB_1, gB_i, and_true, and_false, true_and, false_and, decide_true, decide_false, ↓reduceIte, not_true_eq_false, not_false_eq_true, Bool.false_eq_true, Bool.true_eq_false, Bool.and_true, Bool.and_false, Bool.true_and, Bool.false_and, Bool.or_true, Bool.or_false, Bool.true_or, Bool.false_or, Bool.not_true, Bool.not_false, le_f, le_t, lt_f, lt_t, eq_f, ↓reduceIte, not_true_eq_false, not_false_eq_true, ite_10, bt_0, bt_1]
    exact k
end BYT
