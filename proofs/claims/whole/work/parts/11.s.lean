/-! ROUNDS: the first in order, by trying deeper and by counting up -/
def nud (d : Nat → Nat) (i c : Nat) : Nat → Nat := fun j => if j = i then c else d j
theorem nu_e {d : Nat → Nat} {i c : Nat} : nud d i c i = c := if_pos rfl
theorem nu_n {d : Nat → Nat} {i c j : Nat} (h : j ≠ i) : nud d i c j = d j := if_neg h
def tr {α : Type} (P : Nat → Option α) : Nat → Nat → Option α
  | 0, _ => none
  | r + 1, c => match P c with
    | some x => some x
    | none => tr P r (c + 1)
theorem tr_no {α : Type} {P : Nat → Option α} : ∀ r c, (∀ k, c ≤ k → P k = none) → tr P r c = none := by
  intro r
  induction r with
  | zero => intro c _; rfl
  | succ r ih =>
    intro c h
    rw [tr, h c (Nat.le_refl _)]
    exact ih (c + 1) (fun k hk => h k (by omega))
theorem tr_yes {α : Type} {P : Nat → Option α} : ∀ r c k, c ≤ k → k < c + r → P k ≠ none → tr P r c ≠ none := by
  intro r
  induction r with
  | zero => intro c k h1 h2 _; omega
  | succ r ih =>
    intro c k h1 h2 h3
    rw [tr]
    cases e : P c with
    | some x => simp
    | none =>
      have : c ≠ k := fun q => h3 (q ▸ e)
      exact ih (c + 1) k (by omega) (by omega) h3
/-- client i fits into round c beside those ahead of it -/
def fitR (X : Nat → Nat → Bool) (d : Nat → Nat) (i c : Nat) : Bool := al (fun j => !(decide (d j = c) && X j i)) i 0
def nxR (m c : Nat) : Nat := if c = m then m + 1 else m
def dfR (X : Nat → Nat → Bool) (L : Nat) : Nat → Nat → Nat → (Nat → Nat) → Option (Nat → Nat)
  | 0, _, _, d => some d
  | k + 1, i, m, d => tr (fun c => if c ≤ m ∧ c < L ∧ fitR X d i c = true then dfR X L k (i + 1) (nxR m c) (nud d i c) else none) 5 0
def okR (X : Nat → Nat → Bool) (L : Nat) (d : Nat → Nat) : Nat → Nat → Nat → Bool
  | 0, _, _ => true
  | k + 1, i, m => decide (d i ≤ m ∧ d i < L ∧ fitR X d i (d i) = true) && okR X L d k (i + 1) (nxR m (d i))
def dgR (n code i : Nat) : Nat := code / 5 ^ (n - 1 - i) % 5
theorem fitR_c {X : Nat → Nat → Bool} {d d' : Nat → Nat} {i c : Nat} (h : ∀ j, j < i → d j = d' j) : fitR X d i c = fitR X d' i c := by
  rw [Bool.eq_iff_iff]
  unfold fitR
  rw [al_iff, al_iff]
  constructor
  · intro q k h1 h2; have := q k h1 h2; rw [h k (by omega)] at this; exact this
  · intro q k h1 h2; rw [h k (by omega)]; exact q k h1 h2
theorem fs_add {p : Nat → Bool} : ∀ a b i, fs p (a + b) i = match fs p a i with
    | some x => some x
    | none => fs p b (i + a) := by
  intro a
  induction a with
  | zero => intro b i; simp [fs]
  | succ a ih =>
    intro b i
    rw [show a + 1 + b = (a + b) + 1 by omega, fs, fs]
    cases p i
    · simp only [Bool.false_eq_true, if_false]; rw [ih b (i + 1), show i + 1 + a = i + (a + 1) by omega]
    · simp only [if_true]
theorem fs_no {p : Nat → Bool} : ∀ m i, (∀ k, i ≤ k → k < i + m → p k = false) → fs p m i = none := by
  intro m
  induction m with
  | zero => intro i _; rfl
  | succ m ih =>
    intro i h
    rw [fs, h i (by omega) (by omega), if_neg (by decide)]
    exact ih (i + 1) (fun k a b => h k (by omega) (by omega))
theorem fs_c {p q : Nat → Bool} : ∀ m i, (∀ k, i ≤ k → k < i + m → p k = q k) → fs p m i = fs q m i := by
  intro m
  induction m with
  | zero => intro i _; rfl
  | succ m ih =>
    intro i h
    rw [fs, fs, h i (by omega) (by omega), ih (i + 1) (fun k a b => h k (by omega) (by omega))]
theorem okR_df {X : Nat → Nat → Bool} {L n : Nat} : ∀ k i m d q, i + k = n → m ≤ i → n ≤ 5 → (∀ code, q * 5 ^ k ≤ code → code < (q + 1) * 5 ^ k → ∀ j, j < i → dgR n code j = d j) →
    match fs (fun code => okR X L (dgR n code) k i m) (5 ^ k) (q * 5 ^ k) with
    | none => dfR X L k i m d = none
    | some code => ∃ d', dfR X L k i m d = some d' ∧ ∀ j, j < n → dgR n code j = d' j := by
  intro k
  induction k with
  | zero =>
    intro i m d q hi hm hn H
    simp only [Nat.pow_zero, Nat.mul_one, fs, okR, if_true, dfR]
    exact ⟨d, rfl, fun j hj => H q (by omega) (by omega) j (by omega)⟩
  | succ k ih =>
    intro i m d q hi hm hn H
    have hp : 0 < 5 ^ k := Nat.pow_pos (by omega)
    have e5 : 5 ^ (k + 1) = 5 * 5 ^ k := by rw [Nat.pow_succ, Nat.mul_comm]
    have main : ∀ r c, c + r = 5 → 
        match fs (fun code => okR X L (dgR n code) (k + 1) i m) (r * 5 ^ k) ((5 * q + c) * 5 ^ k) with
        | none => tr (fun c => if c ≤ m ∧ c < L ∧ fitR X d i c = true then dfR X L k (i + 1) (nxR m c) (nud d i c) else none) r c = none
        | some code => ∃ d', tr (fun c => if c ≤ m ∧ c < L ∧ fitR X d i c = true then dfR X L k (i + 1) (nxR m c) (nud d i c) else none) r c = some d' ∧ ∀ j, j < n → dgR n code j = d' j := by
      intro r
      induction r with
      | zero => intro c _; rw [Nat.zero_mul]; rfl
      | succ r ihr =>
        intro c hc
        have blk : ∀ code, (5 * q + c) * 5 ^ k ≤ code → code < (5 * q + c + 1) * 5 ^ k → dgR n code i = c ∧ ∀ j, j < i → dgR n code j = d j := by
          intro code h1 h2
          refine ⟨?_, H code ?_ ?_⟩
          · unfold dgR
            rw [show n - 1 - i = k by omega, show code / 5 ^ k = 5 * q + c from Nat.div_eq_of_lt_le h1 h2]
            omega
          · rw [e5]
            have : q * (5 * 5 ^ k) ≤ (5 * q + c) * 5 ^ k := by rw [← Nat.mul_assoc]; exact Nat.mul_le_mul_right _ (by omega)
            omega
          · rw [e5]
            have : (5 * q + c + 1) * 5 ^ k ≤ (q + 1) * (5 * 5 ^ k) := by rw [← Nat.mul_assoc]; exact Nat.mul_le_mul_right _ (by omega)
            omega
        have hm1 : (5 * q + c) * 5 ^ k + 5 ^ k = (5 * q + (c + 1)) * 5 ^ k := by rw [← Nat.add_assoc, Nat.add_mul (5 * q + c), Nat.one_mul]
        rw [show (r + 1) * 5 ^ k = 5 ^ k + r * 5 ^ k by rw [Nat.add_mul, Nat.one_mul, Nat.add_comm], fs_add, hm1, tr]
        have hr := ihr (c + 1) (by omega)
        by_cases hP : c ≤ m ∧ c < L ∧ fitR X d i c = true
        · have e1 : fs (fun code => okR X L (dgR n code) (k + 1) i m) (5 ^ k) ((5 * q + c) * 5 ^ k) = fs (fun code => okR X L (dgR n code) k (i + 1) (nxR m c)) (5 ^ k) ((5 * q + c) * 5 ^ k) := by
            refine fs_c _ _ (fun code h1 h2 => ?_)
            obtain ⟨b1, b2⟩ := blk code h1 (by rw [Nat.add_mul (5 * q + c), Nat.one_mul]; omega)
            show okR X L (dgR n code) (k + 1) i m = _
            rw [okR, b1, fitR_c b2, decide_eq_true hP, Bool.true_and]
          have h2 := ih (i + 1) (nxR m c) (nud d i c) (5 * q + c) (by omega) (by unfold nxR; split <;> omega) hn (fun code h1 h2 j hj => by
            obtain ⟨b1, b2⟩ := blk code h1 h2
            by_cases e : j = i
            · subst e; rw [nu_e]; exact b1
            · rw [nu_n e]; exact b2 j (by omega))
          rw [e1, if_pos hP]
          generalize fs (fun code => okR X L (dgR n code) k (i + 1) (nxR m c)) (5 ^ k) ((5 * q + c) * 5 ^ k) = o at h2
          cases o with
          | none => simp only at h2; rw [h2]; exact hr
          | some code =>
            obtain ⟨d', h3, h4⟩ := h2
            rw [h3]
            exact ⟨d', rfl, h4⟩
        · have e1 : fs (fun code => okR X L (dgR n code) (k + 1) i m) (5 ^ k) ((5 * q + c) * 5 ^ k) = none := by
            refine fs_no _ _ (fun code h1 h2 => ?_)
            obtain ⟨b1, b2⟩ := blk code h1 (by rw [Nat.add_mul (5 * q + c), Nat.one_mul]; omega)
            show okR X L (dgR n code) (k + 1) i m = _
            rw [okR, b1, fitR_c b2, decide_eq_false hP, Bool.false_and]
          rw [e1, if_neg hP]
          exact hr
    have := main 5 0 rfl
    rw [show (5 * q + 0) * 5 ^ k = q * 5 ^ (k + 1) by rw [e5, ← Nat.mul_assoc, Nat.mul_comm q 5]; rfl, ← e5] at this
    exact this
theorem dfR_all {X : Nat → Nat → Bool} {n : Nat} (hn : n ≤ 5) : ∀ k i d, i + k = n → (∀ j, j < i → d j < i) → dfR X n k i i d ≠ none := by
  intro k
  induction k with
  | zero => intro i d _ _; rw [dfR]; simp
  | succ k ih =>
    intro i d hi hd
    rw [dfR]
    refine tr_yes 5 0 i (by omega) (by omega) ?_
    have hf : fitR X d i i = true := by
      unfold fitR
      rw [al_iff]
      intro j h1 h2
      have : d j ≠ i := by have := hd j (by omega); omega
      rw [decide_eq_false this]; rfl
    show (if i ≤ i ∧ i < n ∧ fitR X d i i = true then dfR X n k (i + 1) (nxR i i) (nud d i i) else none) ≠ none
    rw [if_pos ⟨Nat.le_refl _, by omega, hf⟩, show nxR i i = i + 1 from if_pos rfl]
    exact ih (i + 1) _ (by omega) (fun j hj => by
      by_cases e : j = i
      · subst e; rw [nu_e]; omega
      · rw [nu_n e]; have := hd j (by omega); omega)
section RND
variable {f : Nat → Int32} {n L : Nat}
theorem p54 {s : mS} {d : Nat → Nat} {i c : Nat} (h1 : ∀ c, c < 5 → s.1 (27 + 1) c = f (49 + 5 * c)) (h2 : ∀ c, c < 5 → s.1 (27 + 2) c = f (49 + 5 * c + 1)) (hi : i < 5) (hc : c < 5) (hd : ∀ j, j < i → s.1 124 j = nI (d j) ∧ d j ≤ 5) : q54 (nI i) (nI c) s = rv (b2 (fitR (clX f) d i c)) s := by
  unfold q54
  rw [nI_lit]
  have := lp_fs (Q := fun m j => q54_2 m (nI i) (nI c) j s) (p := fun j => decide (d j = c) && clX f j i) (e := i) (no := rv (nI 1) s) (yes := fun _ => rv (nI 0) s) (fun m => by simp (disch := omega) only [q54_2, nI_lit, nI_add, pk_mul, nI_clp, nI_eqv, nI_lev, nI_ltv, nI_neg, nI_neg', nI_subv, Nat.add_zero, Nat.zero_add, Nat.mul_zero, Nat.reduceAdd, bN_rv, bM_ru, bV_rv, bV_rx, bU_ru, bU_rx, bN_ite, bM_ite, bV_ite, bU_ite, ↓bx_e, ↓sp_e, gA_ok, gZ_n, gB_0, gB_1, gB_i, and_true, and_false, true_and, false_and, decide_true, decide_false, ↓reduceIte, not_true_eq_false, not_false_eq_true, Bool.false_eq_true, Bool.true_eq_false, Bool.and_true, Bool.and_false, Bool.true_and, Bool.false_and, Bool.or_true, Bool.or_false, Bool.true_or, Bool.false_or, Bool.not_true, Bool.not_false, le_f, le_t, lt_f, lt_t, eq_f, ↓reduceIte, not_true_eq_false, not_false_eq_true, ite_10, bt_0, bt_1]) (fun m j hj => by
    have k5 := p5 (s := s) (y := 27) (f := f) (show j < 5 by omega) (show i < 5 by omega) h1 h2
    obtain ⟨hd1, hd2⟩ := hd j hj
    simp (disch := omega) only [q54_2, q54_31, k5, hd1, b2_0, nI_lit, nI_add, pk_mul, nI_clp, nI_eqv, nI_lev, nI_ltv, nI_neg, nI_neg', nI_subv, Nat.add_zero, Nat.zero_add, Nat.mul_zero, Nat.reduceAdd, bN_rv, bM_ru, bV_rv, bV_rx, bU_ru, bU_rx, bN_ite, bM_ite, bV_ite, bU_ite, ↓bx_e, ↓sp_e, gA_ok, gZ_n, gB_0, gB_1, gB_i, and_true, and_false, true_and, false_and, decide_true, decide_false, ↓reduceIte, not_true_eq_false, not_false_eq_true, Bool.false_eq_true, Bool.true_eq_false, Bool.and_true, Bool.and_false, Bool.true_and, Bool.false_and, Bool.or_true, Bool.or_false, Bool.true_or, Bool.false_or, Bool.not_true, Bool.not_false, le_f, le_t, lt_f, lt_t, eq_f, ↓reduceIte, not_true_eq_false, not_false_eq_true, ite_10, bt_0, bt_1]
    by_cases e : d j = c
    · cases clX f j i <;> simp only [e, and_true, and_false, true_and, false_and, decide_true, decide_false, ↓reduceIte, not_true_eq_false, not_false_eq_true, Bool.false_eq_true, Bool.true_eq_false, Bool.and_true, Bool.and_false, Bool.true_and, Bool.false_and, Bool.or_true, Bool.or_false, Bool.true_or, Bool.false_or, Bool.not_true, Bool.not_false]
    · simp only [e, and_true, and_false, true_and, false_and, decide_true, decide_false, ↓reduceIte, not_true_eq_false, not_false_eq_true, Bool.false_eq_true, Bool.true_eq_false, Bool.and_true, Bool.and_false, Bool.true_and, Bool.false_and, Bool.or_true, Bool.or_false, Bool.true_or, Bool.false_or, Bool.not_true, Bool.not_false]) i 0 10000 (by omega) (by omega)
  refine this.trans ((fs_al (x := rv (nI 1) s) (y := rv (nI 0) s) i 0).trans ?_)
  unfold fitR
  cases al (fun j => !(decide (d j = c) && clX f j i)) i 0 <;> simp only [b2_t, b2_f, and_true, and_false, true_and, false_and, decide_true, decide_false, ↓reduceIte, not_true_eq_false, not_false_eq_true, Bool.false_eq_true, Bool.true_eq_false, Bool.and_true, Bool.and_false, Bool.true_and, Bool.false_and, Bool.or_true, Bool.or_false, Bool.true_or, Bool.false_or, Bool.not_true, Bool.not_false]
theorem p53 {s0 : mS} (hn : n ≤ 5) (hL : L ≤ 5) (y0 : s0.1 27 0 = nI n) (h1 : ∀ c, c < 5 → s0.1 (27 + 1) c = f (49 + 5 * c)) (h2 : ∀ c, c < 5 → s0.1 (27 + 2) c = f (49 + 5 * c + 1)) : ∀ k i m d N s, F1 124 s0 s → i + k = n → k < N → m ≤ i → (∀ j, j < i → s.1 124 j = nI (d j) ∧ d j ≤ 5) → ∃ s', F1 124 s0 s' ∧ (∀ j, j < i → s'.1 124 j = s.1 124 j) ∧ (match dfR (clX f) L k i m d with
    | none => q53 N (nI i) (nI m) (nI L) s = rv (nI 0) s'
    | some d' => q53 N (nI i) (nI m) (nI L) s = rv (nI 1) s' ∧ ∀ j, j < n → s'.1 124 j = nI (d' j)) := by
  intro k
  induction k with
  | zero =>
    intro i m d N s hF hi hN hm hd
    cases N with
    | zero => omega
    | succ N =>
      have e0 : s.1 27 0 = nI n := by rw [hF.1 27 (by omega)]; exact y0
      refine ⟨s, hF, fun _ _ => rfl, ?_⟩
      rw [dfR]
      refine ⟨?_, fun j hj => (hd j (by omega)).1⟩
      unfold q53 q53F
      simp (disch := omega) only [e0, nI_lit, nI_add, pk_mul, nI_clp, nI_eqv, nI_lev, nI_ltv, nI_neg, nI_neg', nI_subv, Nat.add_zero, Nat.zero_add, Nat.mul_zero, Nat.reduceAdd, bN_rv, bM_ru, bV_rv, bV_rx, bU_ru, bU_rx, bN_ite, bM_ite, bV_ite, bU_ite, ↓bx_e, ↓sp_e, gA_ok, gZ_n, gB_0, gB_1, gB_i, and_true, and_false, true_and, false_and, decide_true, decide_false, ↓reduceIte, not_true_eq_false, not_false_eq_true, Bool.false_eq_true, Bool.true_eq_false, Bool.and_true, Bool.and_false, Bool.true_and, Bool.false_and, Bool.or_true, Bool.or_false, Bool.true_or, Bool.false_or, Bool.not_true, Bool.not_false, le_f, le_t, lt_f, lt_t, eq_f, ↓reduceIte, not_true_eq_false, not_false_eq_true, ite_10, bt_0, bt_1]
  | succ k ih =>
    intro i m d N s hF hi hN hm hd
    cases N with
    | zero => omega
    | succ N =>
      have e0 : s.1 27 0 = nI n := by rw [hF.1 27 (by omega)]; exact y0
      have main : ∀ r c K s1, F1 124 s0 s1 → (∀ j, j < i → s1.1 124 j = s.1 124 j) → c + r = 5 → r < K → ∃ s', F1 124 s0 s' ∧ (∀ j, j < i → s'.1 124 j = s.1 124 j) ∧ (match tr (fun c => if c ≤ m ∧ c < L ∧ fitR (clX f) d i c = true then dfR (clX f) L k (i + 1) (nxR m c) (nud d i c) else none) r c with
          | none => q53_16 (q53 N) K (nI i) (nI m) (nI L) (nI c) s1 = rv (nI 0) s'
          | some d' => q53_16 (q53 N) K (nI i) (nI m) (nI L) (nI c) s1 = rv (nI 1) s' ∧ ∀ j, j < n → s'.1 124 j = nI (d' j)) := by
        intro r
        induction r with
        | zero =>
          intro c K s1 g1 g2 hc hK
          cases K with
          | zero => omega
          | succ K =>
            refine ⟨s1, g1, g2, ?_⟩
            rw [tr]
            show q53_16 _ _ _ _ _ _ _ = _
            have : c = 5 := by omega
            subst this
            simp (disch := omega) only [q53_16, nI_lit, nI_add, pk_mul, nI_clp, nI_eqv, nI_lev, nI_ltv, nI_neg, nI_neg', nI_subv, Nat.add_zero, Nat.zero_add, Nat.mul_zero, Nat.reduceAdd, bN_rv, bM_ru, bV_rv, bV_rx, bU_ru, bU_rx, bN_ite, bM_ite, bV_ite, bU_ite, ↓bx_e, ↓sp_e, gA_ok, gZ_n, gB_0, gB_1, gB_i, and_true, and_false, true_and, false_and, decide_true, decide_false, ↓reduceIte, not_true_eq_false, not_false_eq_true, Bool.false_eq_true, Bool.true_eq_false, Bool.and_true, Bool.and_false, Bool.true_and, Bool.false_and, Bool.or_true, Bool.or_false, Bool.true_or, Bool.false_or, Bool.not_true, Bool.not_false, le_f, le_t, lt_f, lt_t, eq_f, ↓reduceIte, not_true_eq_false, not_false_eq_true, ite_10, bt_0, bt_1]
        | succ r ihr =>
          intro c K s1 g1 g2 hc hK
          cases K with
          | zero => omega
          | succ K =>
            by_cases hP : c ≤ m ∧ c < L
            · obtain ⟨hP1, hP2⟩ := hP
              have k54 := p54 (s := s1) (f := f) (d := d) (i := i) (c := c) (fun c hc => by rw [g1.1 _ (by omega)]; exact h1 c hc) (fun c hc => by rw [g1.1 _ (by omega)]; exact h2 c hc) (by omega) (by omega) (fun j hj => by rw [g2 j hj]; exact hd j hj)
              rw [tr]
              by_cases hf : fitR (clX f) d i c = true
              · rw [hf, b2_t] at k54
                rw [if_pos ⟨hP1, hP2, hf⟩]
                have E : q53_16 (q53 N) (K + 1) (nI i) (nI m) (nI L) (nI c) s1 = bN (q53 N (nI (i + 1)) (nI (nxR m c)) (nI L) (sI s1 124 i (nI c))) (fun x s2 => if x = nI 0 then q53_16 (q53 N) K (nI i) (nI m) (nI L) (nI (c + 1)) s2 else rv (nI 1) s2) := by
                  unfold nxR
                  by_cases e : c = m
                  · subst e
                    simp (disch := omega) only [q53_16, q53_63, q53_72, k54, nI_lit, nI_add, pk_mul, nI_clp, nI_eqv, nI_lev, nI_ltv, nI_neg, nI_neg', nI_subv, Nat.add_zero, Nat.zero_add, Nat.mul_zero, Nat.reduceAdd, bN_rv, bM_ru, bV_rv, bV_rx, bU_ru, bU_rx, bN_ite, bM_ite, bV_ite, bU_ite, ↓bx_e, ↓sp_e, gA_ok, gZ_n, gB_0, gB_1, gB_i, and_true, and_false, true_and, false_and, decide_true, decide_false, ↓reduceIte, not_true_eq_false, not_false_eq_true, Bool.false_eq_true, Bool.true_eq_false, Bool.and_true, Bool.and_false, Bool.true_and, Bool.false_and, Bool.or_true, Bool.or_false, Bool.true_or, Bool.false_or, Bool.not_true, Bool.not_false, le_f, le_t, lt_f, lt_t, eq_f, ↓reduceIte, not_true_eq_false, not_false_eq_true, ite_10, bt_0, bt_1]
                  · simp (disch := omega) only [q53_16, q53_63, q53_72, k54, e, nI_lit, nI_add, pk_mul, nI_clp, nI_eqv, nI_lev, nI_ltv, nI_neg, nI_neg', nI_subv, Nat.add_zero, Nat.zero_add, Nat.mul_zero, Nat.reduceAdd, bN_rv, bM_ru, bV_rv, bV_rx, bU_ru, bU_rx, bN_ite, bM_ite, bV_ite, bU_ite, ↓bx_e, ↓sp_e, gA_ok, gZ_n, gB_0, gB_1, gB_i, and_true, and_false, true_and, false_and, decide_true, decide_false, ↓reduceIte, not_true_eq_false, not_false_eq_true, Bool.false_eq_true, Bool.true_eq_false, Bool.and_true, Bool.and_false, Bool.true_and, Bool.false_and, Bool.or_true, Bool.or_false, Bool.true_or, Bool.false_or, Bool.not_true, Bool.not_false, le_f, le_t, lt_f, lt_t, eq_f, ↓reduceIte, not_true_eq_false, not_false_eq_true, ite_10, bt_0, bt_1]
                obtain ⟨s3, a1, a2, a3⟩ := ih (i + 1) (nxR m c) (nud d i c) N (sI s1 124 i (nI c)) (F1_J g1 _ _) (by omega) (by omega) (by unfold nxR; split <;> omega) (fun j hj => by
                  rw [sI_sm]
                  by_cases e : j = i
                  · subst e; rw [ud_e rfl, nu_e]; exact ⟨rfl, by omega⟩
                  · rw [ud_n e, nu_n e, g2 j (by omega)]; exact hd j (by omega))
                have a2' : ∀ j, j < i → s3.1 124 j = s.1 124 j := fun j hj => by rw [a2 j (by omega), sI_sm, ud_n (by omega)]; exact g2 j hj
                cases e : dfR (clX f) L k (i + 1) (nxR m c) (nud d i c) with
                | none =>
                  rw [e] at a3
                  obtain ⟨s4, b1, b2, b3⟩ := ihr (c + 1) K s3 a1 a2' (by omega) (by omega)
                  refine ⟨s4, b1, b2, ?_⟩
                  rw [E, a3, bN_rv, if_pos rfl]
                  exact b3
                | some d' =>
                  rw [e] at a3
                  refine ⟨s3, a1, a2', ?_⟩
                  rw [E]
                  refine ⟨?_, a3.2⟩
                  rw [a3.1, bN_rv, if_neg (by decide)]
              · have hf' : fitR (clX f) d i c = false := Bool.eq_false_iff.mpr hf
                rw [hf', b2_f] at k54
                rw [if_neg (fun q => hf q.2.2)]
                have E : q53_16 (q53 N) (K + 1) (nI i) (nI m) (nI L) (nI c) s1 = q53_16 (q53 N) K (nI i) (nI m) (nI L) (nI (c + 1)) s1 := by
                  simp (disch := omega) only [q53_16, q53_72, k54, nI_lit, nI_add, pk_mul, nI_clp, nI_eqv, nI_lev, nI_ltv, nI_neg, nI_neg', nI_subv, Nat.add_zero, Nat.zero_add, Nat.mul_zero, Nat.reduceAdd, bN_rv, bM_ru, bV_rv, bV_rx, bU_ru, bU_rx, bN_ite, bM_ite, bV_ite, bU_ite, ↓bx_e, ↓sp_e, gA_ok, gZ_n, gB_0, gB_1, gB_i, and_true, and_false, true_and, false_and, decide_true, decide_false, ↓reduceIte, not_true_eq_false, not_false_eq_true, Bool.false_eq_true, Bool.true_eq_false, Bool.and_true, Bool.and_false, Bool.true_and, Bool.false_and, Bool.or_true, Bool.or_false, Bool.true_or, Bool.false_or, Bool.not_true, Bool.not_false, le_f, le_t, lt_f, lt_t, eq_f, ↓reduceIte, not_true_eq_false, not_false_eq_true, ite_10, bt_0, bt_1]
                rw [E]
                exact ihr (c + 1) K s1 g1 g2 (by omega) (by omega)
            · rw [tr_no (r + 1) c (fun k hk => if_neg (fun q => hP ⟨by omega, by omega⟩))]
              refine ⟨s1, g1, g2, ?_⟩
              show q53_16 _ _ _ _ _ _ _ = _
              by_cases e : m < c
              · simp (disch := omega) only [q53_16, nI_lit, nI_add, pk_mul, nI_clp, nI_eqv, nI_lev, nI_ltv, nI_neg, nI_neg', nI_subv, Nat.add_zero, Nat.zero_add, Nat.mul_zero, Nat.reduceAdd, bN_rv, bM_ru, bV_rv, bV_rx, bU_ru, bU_rx, bN_ite, bM_ite, bV_ite, bU_ite, ↓bx_e, ↓sp_e, gA_ok, gZ_n, gB_0, gB_1, gB_i, and_true, and_false, true_and, false_and, decide_true, decide_false, ↓reduceIte, not_true_eq_false, not_false_eq_true, Bool.false_eq_true, Bool.true_eq_false, Bool.and_true, Bool.and_false, Bool.true_and, Bool.false_and, Bool.or_true, Bool.or_false, Bool.true_or, Bool.false_or, Bool.not_true, Bool.not_false, le_f, le_t, lt_f, lt_t, eq_f, ↓reduceIte, not_true_eq_false, not_false_eq_true, ite_10, bt_0, bt_1]
              · have e2 : L ≤ c := by omega
                have e3 : c ≤ m := by omega
                simp (disch := omega) only [q53_16, nI_lit, nI_add, pk_mul, nI_clp, nI_eqv, nI_lev, nI_ltv, nI_neg, nI_neg', nI_subv, Nat.add_zero, Nat.zero_add, Nat.mul_zero, Nat.reduceAdd, bN_rv, bM_ru, bV_rv, bV_rx, bU_ru, bU_rx, bN_ite, bM_ite, bV_ite, bU_ite, ↓bx_e, ↓sp_e, gA_ok, gZ_n, gB_0, gB_1, gB_i, and_true, and_false, true_and, false_and, decide_true, decide_false, ↓reduceIte, not_true_eq_false, not_false_eq_true, Bool.false_eq_true, Bool.true_eq_false, Bool.and_true, Bool.and_false, Bool.true_and, Bool.false_and, Bool.or_true, Bool.or_false, Bool.true_or, Bool.false_or, Bool.not_true, Bool.not_false, le_f, le_t, lt_f, lt_t, eq_f, ↓reduceIte, not_true_eq_false, not_false_eq_true, ite_10, bt_0, bt_1]
      obtain ⟨s', b1, b2, b3⟩ := main 5 0 10000 s hF (fun _ _ => rfl) rfl (by omega)
      refine ⟨s', b1, b2, ?_⟩
      have E : q53 (N + 1) (nI i) (nI m) (nI L) s = q53_16 (q53 N) 10000 (nI i) (nI m) (nI L) (nI 0) s := by
        unfold q53 q53F
        simp (disch := omega) only [e0, nI_lit, nI_add, pk_mul, nI_clp, nI_eqv, nI_lev, nI_ltv, nI_neg, nI_neg', nI_subv, Nat.add_zero, Nat.zero_add, Nat.mul_zero, Nat.reduceAdd, bN_rv, bM_ru, bV_rv, bV_rx, bU_ru, bU_rx, bN_ite, bM_ite, bV_ite, bU_ite, ↓bx_e, ↓sp_e, gA_ok, gZ_n, gB_0, gB_1, gB_i, and_true, and_false, true_and, false_and, decide_true, decide_false, ↓reduceIte, not_true_eq_false, not_false_eq_true, Bool.false_eq_true, Bool.true_eq_false, Bool.and_true, Bool.and_false, Bool.true_and, Bool.false_and, Bool.or_true, Bool.or_false, Bool.true_or, Bool.false_or, Bool.not_true, Bool.not_false, le_f, le_t, lt_f, lt_t, eq_f, ↓reduceIte, not_true_eq_false, not_false_eq_true, ite_10, bt_0, bt_1]
      rw [E, dfR]
      exact b3
/-- how many rounds -/
def rdL (X : Nat → Nat → Bool) (n r j : Nat) : Nat := match fs (fun L => (dfR X L n 0 0 (fun _ => 0)).isSome) r j with
  | none => n
  | some L => L
theorem p51 {s0 : mS} (hn : n ≤ 5) (y0 : s0.1 27 0 = nI n) (h1 : ∀ c, c < 5 → s0.1 (27 + 1) c = f (49 + 5 * c)) (h2 : ∀ c, c < 5 → s0.1 (27 + 2) c = f (49 + 5 * c + 1)) : ∃ s' d', q51 s0 = rv (nI (rdL (clX f) n n 0)) s' ∧ F1 124 s0 s' ∧ dfR (clX f) (rdL (clX f) n n 0) n 0 0 (fun _ => 0) = some d' ∧ ∀ j, j < n → s'.1 124 j = nI (d' j) := by
  have main : ∀ r L K s1, F1 124 s0 s1 → L + r = n → r < K → ∃ s' d', q51_2 q51_31 K (nI L) s1 = rv (nI (rdL (clX f) n r L)) s' ∧ F1 124 s0 s' ∧ dfR (clX f) (rdL (clX f) n r L) n 0 0 (fun _ => 0) = some d' ∧ ∀ j, j < n → s'.1 124 j = nI (d' j) := by
    intro r
    induction r with
    | zero =>
      intro L K s1 g1 hL hK
      cases K with
      | zero => omega
      | succ K =>
        have : L = n := by omega
        subst this
        have e0 : s1.1 27 0 = nI L := by rw [g1.1 27 (by omega)]; exact y0
        obtain ⟨s', a1, a2, a3⟩ := p53 (L := L) hn hn y0 h1 h2 L 0 0 (fun _ => 0) 7 s1 g1 (by omega) (by omega) (by omega) (fun j hj => by omega)
        have e0' : s'.1 27 0 = nI L := by rw [a1.1 27 (by omega)]; exact y0
        have hs := dfR_all (X := clX f) hn L 0 (fun _ => 0) (by omega) (fun j hj => by omega)
        cases e : dfR (clX f) L L 0 0 (fun _ => 0) with
        | none => exact absurd e hs
        | some d' =>
          rw [e] at a3
          refine ⟨s', d', ?_, a1, e, a3.2⟩
          have a31 := a3.1
          show q51_2 _ _ _ _ = rv (nI L) s'
          simp (disch := omega) only [q51_2, q51_31, e0, a31, e0', nI_lit, nI_add, pk_mul, nI_clp, nI_eqv, nI_lev, nI_ltv, nI_neg, nI_neg', nI_subv, Nat.add_zero, Nat.zero_add, Nat.mul_zero, Nat.reduceAdd, bN_rv, bM_ru, bV_rv, bV_rx, bU_ru, bU_rx, bN_ite, bM_ite, bV_ite, bU_ite, ↓bx_e, ↓sp_e, gA_ok, gZ_n, gB_0, gB_1, gB_i, and_true, and_false, true_and, false_and, decide_true, decide_false, ↓reduceIte, not_true_eq_false, not_false_eq_true, Bool.false_eq_true, Bool.true_eq_false, Bool.and_true, Bool.and_false, Bool.true_and, Bool.false_and, Bool.or_true, Bool.or_false, Bool.true_or, Bool.false_or, Bool.not_true, Bool.not_false, le_f, le_t, lt_f, lt_t, eq_f, ↓reduceIte, not_true_eq_false, not_false_eq_true, ite_10, bt_0, bt_1]
    | succ r ih =>
      intro L K s1 g1 hL hK
      cases K with
      | zero => omega
      | succ K =>
        have e0 : s1.1 27 0 = nI n := by rw [g1.1 27 (by omega)]; exact y0
        obtain ⟨s', a1, a2, a3⟩ := p53 (L := L) hn (by omega) y0 h1 h2 n 0 0 (fun _ => 0) 7 s1 g1 (by omega) (by omega) (by omega) (fun j hj => by omega)
        cases e : dfR (clX f) L n 0 0 (fun _ => 0) with
        | none =>
          rw [e] at a3
          have er : rdL (clX f) n (r + 1) L = rdL (clX f) n r (L + 1) := by
            unfold rdL
            rw [fs, e, if_neg (by decide)]
          rw [er]
          obtain ⟨s'', d', b1, b2, b3, b4⟩ := ih (L + 1) K s' a1 (by omega) (by omega)
          refine ⟨s'', d', ?_, b2, b3, b4⟩
          rw [← b1]
          simp (disch := omega) only [q51_2, e0, a3, nI_lit, nI_add, pk_mul, nI_clp, nI_eqv, nI_lev, nI_ltv, nI_neg, nI_neg', nI_subv, Nat.add_zero, Nat.zero_add, Nat.mul_zero, Nat.reduceAdd, bN_rv, bM_ru, bV_rv, bV_rx, bU_ru, bU_rx, bN_ite, bM_ite, bV_ite, bU_ite, ↓bx_e, ↓sp_e, gA_ok, gZ_n, gB_0, gB_1, gB_i, and_true, and_false, true_and, false_and, decide_true, decide_false, ↓reduceIte, not_true_eq_false, not_false_eq_true, Bool.false_eq_true, Bool.true_eq_false, Bool.and_true, Bool.and_false, Bool.true_and, Bool.false_and, Bool.or_true, Bool.or_false, Bool.true_or, Bool.false_or, Bool.not_true, Bool.not_false, le_f, le_t, lt_f, lt_t, eq_f, ↓reduceIte, not_true_eq_false, not_false_eq_true, ite_10, bt_0, bt_1]
        | some d' =>
          rw [e] at a3
          have er : rdL (clX f) n (r + 1) L = L := by
            unfold rdL
            rw [fs, e, Option.isSome_some, if_pos rfl]
          rw [er]
          refine ⟨s', d', ?_, a1, e, a3.2⟩
          have a31 := a3.1
          simp (disch := omega) only [q51_2, e0, a31, nI_lit, nI_add, pk_mul, nI_clp, nI_eqv, nI_lev, nI_ltv, nI_neg, nI_neg', nI_subv, Nat.add_zero, Nat.zero_add, Nat.mul_zero, Nat.reduceAdd, bN_rv, bM_ru, bV_rv, bV_rx, bU_ru, bU_rx, bN_ite, bM_ite, bV_ite, bU_ite, ↓bx_e, ↓sp_e, gA_ok, gZ_n, gB_0, gB_1, gB_i, and_true, and_false, true_and, false_and, decide_true, decide_false, ↓reduceIte, not_true_eq_false, not_false_eq_true, Bool.false_eq_true, Bool.true_eq_false, Bool.and_true, Bool.and_false, Bool.true_and, Bool.false_and, Bool.or_true, Bool.or_false, Bool.true_or, Bool.false_or, Bool.not_true, Bool.not_false, le_f, le_t, lt_f, lt_t, eq_f, ↓reduceIte, not_true_eq_false, not_false_eq_true, ite_10, bt_0, bt_1]
  unfold q51
  rw [nI_lit]
  exact main n 0 10000 s0 F1_r (by omega) (by omega)
end RND
