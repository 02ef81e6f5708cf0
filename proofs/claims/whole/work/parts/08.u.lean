/-! TIDY: LEAVING -/
def oG (f : Nat → Int32) (p : Nat → Bool) (i : Nat) (b : Option Nat) : Option Nat := if p i = true then (match b with
    | none => some i
    | some j => if f (74 + 21 * j + 3) ≤ f (74 + 21 * i + 3) then some j else some i) else b
theorem oOld_e {f : Nat → Int32} {p : Nat → Bool} : oOld f p = fo (oG f p) 8 0 none := Eq.trans rfl rfl
theorem oG_n {f : Nat → Int32} {p : Nat → Bool} {i : Nat} : oG f p i none = if p i = true then some i else none := Eq.trans rfl rfl
theorem oG_s {f : Nat → Int32} {p : Nat → Bool} {i j : Nat} : oG f p i (some j) = if p i = true then (if f (74 + 21 * j + 3) ≤ f (74 + 21 * i + 3) then some j else some i) else some j := Eq.trans rfl rfl
theorem oOld_ch {f : Nat → Int32} {p : Nat → Bool} : ∀ m i b, i + m ≤ 8 →
    (∀ j, b = some j → j < i ∧ p j = true ∧ (∀ k, k < i → p k = true → f (74 + 21 * j + 3) ≤ f (74 + 21 * k + 3)) ∧ (∀ k, k < j → p k = true → ¬ f (74 + 21 * k + 3) ≤ f (74 + 21 * j + 3))) →
    (b = none → ∀ k, k < i → p k = false) →
    (∀ j, fo (oG f p) m i b = some j → j < i + m ∧ p j = true ∧ (∀ k, k < i + m → p k = true → f (74 + 21 * j + 3) ≤ f (74 + 21 * k + 3)) ∧ (∀ k, k < j → p k = true → ¬ f (74 + 21 * k + 3) ≤ f (74 + 21 * j + 3))) ∧
    (fo (oG f p) m i b = none → ∀ k, k < i + m → p k = false) := by
  intro m
  induction m with
  | zero => intro i b _ h1 h2; exact ⟨h1, h2⟩
  | succ m ih =>
    intro i b hi h1 h2
    rw [fo_s]
    have := ih (i + 1) (oG f p i b) (by omega) ?_ ?_
    · rw [show i + 1 + m = i + (m + 1) by omega] at this
      exact this
    · intro j hj
      by_cases hp : p i = true
      · cases b with
        | none =>
          rw [oG_n, if_pos hp] at hj
          cases hj
          have h2' := h2 rfl
          refine ⟨by omega, hp, fun k hk hpk => ?_, fun k hk hpk => ?_⟩
          · by_cases e : k = i
            · subst e; exact Int32.le_refl _
            · rw [h2' k (by omega)] at hpk; cases hpk
          · rw [h2' k (by omega)] at hpk; cases hpk
        | some z =>
          obtain ⟨a1, a2, a3, a4⟩ := h1 z rfl
          rw [oG_s, if_pos hp] at hj
          by_cases hle : f (74 + 21 * z + 3) ≤ f (74 + 21 * i + 3)
          · rw [if_pos hle] at hj
            cases hj
            refine ⟨by omega, a2, fun k hk hpk => ?_, a4⟩
            by_cases e : k = i
            · subst e; exact hle
            · exact a3 k (by omega) hpk
          · rw [if_neg hle] at hj
            cases hj
            have hlt := Int32.not_le.mp hle
            refine ⟨by omega, hp, fun k hk hpk => ?_, fun k hk hpk => ?_⟩
            · by_cases e : k = i
              · subst e; exact Int32.le_refl _
              · exact Int32.le_trans (Int32.le_of_lt hlt) (a3 k (by omega) hpk)
            · intro hq
              exact absurd (Int32.le_trans (a3 k (by omega) hpk) hq) hle
      · have hj' : b = some j := by
          cases b with
          | none => rw [oG_n, if_neg hp] at hj; exact hj
          | some z => rw [oG_s, if_neg hp] at hj; exact hj
        obtain ⟨a1, a2, a3, a4⟩ := h1 j hj'
        refine ⟨by omega, a2, fun k hk hpk => ?_, a4⟩
        by_cases e : k = i
        · subst e; exact absurd hpk hp
        · exact a3 k (by omega) hpk
    · intro hn k hk
      cases b with
      | none =>
        rw [oG_n] at hn
        by_cases hp : p i = true
        · rw [if_pos hp] at hn; cases hn
        · by_cases e : k = i
          · subst e; exact Bool.eq_false_iff.mpr hp
          · exact h2 rfl k (by omega)
      | some z =>
        rw [oG_s] at hn
        split at hn
        · split at hn <;> cases hn
        · cases hn
theorem oOld_s {f : Nat → Int32} {p : Nat → Bool} {j : Nat} (h : oOld f p = some j) : j < 8 ∧ p j = true ∧ (∀ k, k < 8 → p k = true → f (74 + 21 * j + 3) ≤ f (74 + 21 * k + 3)) ∧ (∀ k, k < j → p k = true → ¬ f (74 + 21 * k + 3) ≤ f (74 + 21 * j + 3)) :=
  (oOld_ch 8 0 none (by omega) (fun _ h => by cases h) (fun _ k hk => by omega)).1 j (oOld_e.symm.trans h)
theorem oOld_n {f : Nat → Int32} {p : Nat → Bool} (h : oOld f p = none) : ∀ k, k < 8 → p k = false :=
  fun k hk => (oOld_ch (f := f) (p := p) 8 0 none (by omega) (fun _ h => by cases h) (fun _ k hk => by omega)).2 (oOld_e.symm.trans h) k (by omega)
theorem oOld_c {f : Nat → Int32} {p q : Nat → Bool} (h : ∀ k, k < 8 → p k = q k) : oOld f p = oOld f q := by
  unfold oOld
  exact fo_cong (fun k b _ hk => by rw [h k (by omega)])
/-- those that may be forgotten -/
def sDn (f : Nat → Int32) (j : Nat) : Bool := sF f j && al (fun o => !(sR f o) || decide (f (74 + 21 * j + 3) < f (74 + 21 * o + 2))) 8 0
theorem sDn_i {f : Nat → Int32} {j : Nat} : sDn f j = true ↔ sF f j = true ∧ ∀ o, o < 8 → sR f o = true → f (74 + 21 * j + 3) < f (74 + 21 * o + 2) := by
  unfold sDn
  rw [Bool.and_eq_true, al_iff]
  constructor
  · intro h
    refine ⟨h.1, fun o ho hr => ?_⟩
    have := h.2 o (by omega) (by omega)
    rw [hr] at this
    simpa using this
  · intro h
    refine ⟨h.1, fun o _ ho => ?_⟩
    cases e : sR f o with
    | false => rfl
    | true => simpa using h.2 o (by omega) e
theorem oOld_dn {f : Nat → Int32} : oOld f (sDn f) = (match oOld f (sF f) with
    | none => none
    | some j => if sDn f j = true then some j else none) := by
  cases e : oOld f (sF f) with
  | none =>
    have h := oOld_n e
    cases e2 : oOld f (sDn f) with
    | none => rfl
    | some j =>
      obtain ⟨a1, a2, -, -⟩ := oOld_s e2
      rw [sDn_i] at a2
      rw [h j a1] at a2
      cases a2.1
  | some j =>
    obtain ⟨a1, a2, a3, a4⟩ := oOld_s e
    dsimp only
    cases e2 : oOld f (sDn f) with
    | none =>
      have h := oOld_n e2
      rw [h j a1, if_neg (by decide)]
    | some k =>
      obtain ⟨b1, b2, b3, b4⟩ := oOld_s e2
      rw [sDn_i] at b2
      have hle := a3 k b1 b2.1
      have hj : sDn f j = true := by
        rw [sDn_i]
        exact ⟨a2, fun o ho hr => Int32.lt_of_le_of_lt hle (b2.2 o ho hr)⟩
      rw [if_pos hj]
      congr 1
      have h2 := b3 j a1 hj
      rcases Nat.lt_trichotomy k j with q | q | q
      · exact absurd h2 (a4 k q b2.1)
      · exact q
      · exact absurd hle (b4 j q hj)
theorem lt_fo {f : Nat → Int32} {x : Int32} : ∀ m i b, (x < fo (fun i b => if (sR f i && !(decide (b ≤ f (74 + 21 * i + 2)))) = true then f (74 + 21 * i + 2) else b) m i b) ↔ (x < b ∧ ∀ o, i ≤ o → o < i + m → sR f o = true → x < f (74 + 21 * o + 2)) := by
  intro m
  induction m with
  | zero => intro i b; exact ⟨fun h => ⟨h, fun o h1 h2 => by omega⟩, fun h => h.1⟩
  | succ m ih =>
    intro i b
    rw [fo_s, ih]
    cases e : sR f i with
    | false =>
      simp only [and_true, and_false, true_and, false_and, decide_true, decide_false, ↓reduceIte, not_true_eq_false, not_false_eq_true, Bool.false_eq_true, Bool.true_eq_false, Bool.and_true, Bool.and_false, Bool.true_and, Bool.false_and, Bool.or_true, Bool.or_false, Bool.true_or, Bool.false_or, Bool.not_true, Bool.not_false]
      constructor
      · intro h
        refine ⟨h.1, fun o h1 h2 h3 => ?_⟩
        by_cases q : o = i
        · subst q; rw [e] at h3; cases h3
        · exact h.2 o (by omega) (by omega) h3
      · intro h
        exact ⟨h.1, fun o h1 h2 h3 => h.2 o (by omega) (by omega) h3⟩
    | true =>
      by_cases hb : b ≤ f (74 + 21 * i + 2)
      · simp only [hb, and_true, and_false, true_and, false_and, decide_true, decide_false, ↓reduceIte, not_true_eq_false, not_false_eq_true, Bool.false_eq_true, Bool.true_eq_false, Bool.and_true, Bool.and_false, Bool.true_and, Bool.false_and, Bool.or_true, Bool.or_false, Bool.true_or, Bool.false_or, Bool.not_true, Bool.not_false]
        constructor
        · intro h
          refine ⟨h.1, fun o h1 h2 h3 => ?_⟩
          by_cases q : o = i
          · subst q; exact Int32.lt_of_lt_of_le h.1 hb
          · exact h.2 o (by omega) (by omega) h3
        · intro h
          exact ⟨h.1, fun o h1 h2 h3 => h.2 o (by omega) (by omega) h3⟩
      · simp only [hb, and_true, and_false, true_and, false_and, decide_true, decide_false, ↓reduceIte, not_true_eq_false, not_false_eq_true, Bool.false_eq_true, Bool.true_eq_false, Bool.and_true, Bool.and_false, Bool.true_and, Bool.false_and, Bool.or_true, Bool.or_false, Bool.true_or, Bool.false_or, Bool.not_true, Bool.not_false]
        have hlt := Int32.not_le.mp hb
        constructor
        · intro h
          refine ⟨Int32.lt_trans h.1 hlt, fun o h1 h2 h3 => ?_⟩
          by_cases q : o = i
          · subst q; exact h.1
          · exact h.2 o (by omega) (by omega) h3
        · intro h
          exact ⟨h.2 i (by omega) (by omega) e, fun o h1 h2 h3 => h.2 o (by omega) (by omega) h3⟩
theorem lt_sLb {f : Nat → Int32} {x : Int32} : (x < sLb f) ↔ (x < nI 2147483647 ∧ ∀ o, o < 8 → sR f o = true → x < f (74 + 21 * o + 2)) := by
  unfold sLb
  rw [lt_fo]
  exact ⟨fun h => ⟨h.1, fun o ho => h.2 o (by omega) (by omega)⟩, fun h => ⟨h.1, fun o _ ho => h.2 o (by omega)⟩⟩
/-- leaving, and the rest of the row -/
theorem mLe_n {f : Nat → Int32} {i j : Nat} {w : Int32} (hi : i < 8) (h6 : j ≠ 6) (h : j < 74 ∨ (242 ≤ j ∧ j < 530) ∨ 770 ≤ j) : mLeave f i w j = f j := by
  unfold mLeave
  rw [mFree_x hi (by omega), mLv_n (fun o ho => by omega), mLog_n h6 (by omega)]
theorem mLe_l {f : Nat → Int32} {i j : Nat} {w : Int32} (hi : i < 8) (h : j = 6 ∨ (530 ≤ j ∧ j < 770)) : mLeave f i w j = mLog f i w j := by
  unfold mLeave
  rw [mFree_x hi (by omega), mLv_n (fun o ho => by omega)]
theorem mLe_o {f : Nat → Int32} {i j k : Nat} {w : Int32} (hj : j < 8) (e : j ≠ i) (hk : k < 21) (h7 : k ≠ 7) (h8 : k ≠ 8) (h9 : k ≠ 9) : mLeave f i w (74 + 21 * j + k) = f (74 + 21 * j + k) := by
  unfold mLeave
  rw [mFree_o e hk h7, mLv_n (fun o ho => by omega), mLog_n (by omega) (by omega)]
theorem mLe_i {f : Nat → Int32} {i k : Nat} {w : Int32} (hk : k < 21) : mLeave f i w (74 + 21 * i + k) = nI 0 := by
  unfold mLeave
  exact mFree_i hk
theorem mLe_0 {f : Nat → Int32} {i j : Nat} {w : Int32} (hj : j < 8) (e : j ≠ i) : mLeave f i w (74 + 21 * j) = f (74 + 21 * j) := mLe_o (k := 0) hj e (by omega) (by omega) (by omega) (by omega)
theorem sX_le {f : Nat → Int32} {i j : Nat} {w : Int32} (hj : j < 8) : sR (mLeave f i w) j = (sR f j && !(decide (j = i))) ∧ sF (mLeave f i w) j = (sF f j && !(decide (j = i))) ∧ sU (mLeave f i w) j = (sU f j && !(decide (j = i))) := by
  by_cases e : j = i
  · subst e
    have h0 : mLeave f j w (74 + 21 * j) = nI 0 := mLe_i (k := 0) (by omega)
    refine ⟨?_, ?_, ?_⟩
    · unfold sR; rw [h0]; simp only [show (nI 0 = nI 1) = False from by decide, and_true, and_false, true_and, false_and, decide_true, decide_false, ↓reduceIte, not_true_eq_false, not_false_eq_true, Bool.false_eq_true, Bool.true_eq_false, Bool.and_true, Bool.and_false, Bool.true_and, Bool.false_and, Bool.or_true, Bool.or_false, Bool.true_or, Bool.false_or, Bool.not_true, Bool.not_false]
    · unfold sF; rw [h0]; simp only [show (nI 0 = nI 2) = False from by decide, and_true, and_false, true_and, false_and, decide_true, decide_false, ↓reduceIte, not_true_eq_false, not_false_eq_true, Bool.false_eq_true, Bool.true_eq_false, Bool.and_true, Bool.and_false, Bool.true_and, Bool.false_and, Bool.or_true, Bool.or_false, Bool.true_or, Bool.false_or, Bool.not_true, Bool.not_false]
    · unfold sU; rw [h0]; simp only [and_true, and_false, true_and, false_and, decide_true, decide_false, ↓reduceIte, not_true_eq_false, not_false_eq_true, Bool.false_eq_true, Bool.true_eq_false, Bool.and_true, Bool.and_false, Bool.true_and, Bool.false_and, Bool.or_true, Bool.or_false, Bool.true_or, Bool.false_or, Bool.not_true, Bool.not_false]
  · have h0 : mLeave f i w (74 + 21 * j) = f (74 + 21 * j) := mLe_0 hj e
    exact ⟨by rw [sR_c h0]; simp only [e, and_true, and_false, true_and, false_and, decide_true, decide_false, ↓reduceIte, not_true_eq_false, not_false_eq_true, Bool.false_eq_true, Bool.true_eq_false, Bool.and_true, Bool.and_false, Bool.true_and, Bool.false_and, Bool.or_true, Bool.or_false, Bool.true_or, Bool.false_or, Bool.not_true, Bool.not_false], by rw [sF_c h0]; simp only [e, and_true, and_false, true_and, false_and, decide_true, decide_false, ↓reduceIte, not_true_eq_false, not_false_eq_true, Bool.false_eq_true, Bool.true_eq_false, Bool.and_true, Bool.and_false, Bool.true_and, Bool.false_and, Bool.or_true, Bool.or_false, Bool.true_or, Bool.false_or, Bool.not_true, Bool.not_false], by rw [sU_c h0]; simp only [e, and_true, and_false, true_and, false_and, decide_true, decide_false, ↓reduceIte, not_true_eq_false, not_false_eq_true, Bool.false_eq_true, Bool.true_eq_false, Bool.and_true, Bool.and_false, Bool.true_and, Bool.false_and, Bool.or_true, Bool.or_false, Bool.true_or, Bool.false_or, Bool.not_true, Bool.not_false]⟩
theorem pLv {s : mS} {a T : Nat} {f : Nat → Int32} (h : RW s a f) (hL : RLw s f) (hm : IM T f) (ha : 10 ≤ a) {i : Nat} (hi : i < 8) (hu : sU f i = true) {w : Int32} : ∃ s1 s', q43 (a + 26) (f 3) (f (74 + 21 * i + 1)) w (nI i) s = ru s1 ∧ q81 (a + 6) (nI i) s1 = ru s' ∧ RW s' a (mLeave f i w) ∧ RLw s' (mLeave f i w) ∧ IS (mLeave f i w) ∧ Fw a s s' := by
  obtain ⟨hS, hC, hW, hT, hk⟩ := hm
  obtain ⟨hR, hCl, hK, hLg, hH, e9, e10, e11, e12, e13⟩ := h
  obtain ⟨s1, j1, j2, j3⟩ := p43 hLg hi (w := w)
  have c1 : ∀ b, b < a + 26 ∨ a + 28 ≤ b → s1.1 b = s.1 b := fun b hb => j3.1 b (by omega)
  have R1 : RS s1 (a + 6) (mLog f i w) := RS_c hR hS.1 (fun b x y => c1 b (by omega)) (fun j x y => mLog_n (by omega) (by omega)) (fun c hc => mLog_n (by omega) (by omega))
  have S1 : IS (mLog f i w) := IS_c hS (fun j x y => mLog_n (by omega) (by omega))
  obtain ⟨s2, k1, k2, k3, k4⟩ := p81 R1 S1 hi (by rw [sU_c (mLog_n (by omega) (by omega))]; exact hu)
  have em : mFree (mLv (mLog f i w) (mLog f i w (74 + 21 * i + 3)) i) i = mLeave f i w := by
    unfold mLeave; rw [mLog_n (f := f) (j := 74 + 21 * i + 3) (by omega) (by omega)]
  rw [em] at k2 k3
  have c2 : ∀ b, b < a + 6 ∨ a + 18 ≤ b → s2.1 b = s1.1 b := fun b hb => k4.1 b (by omega)
  refine ⟨s1, s2, j1, k1, ⟨k2, ?_, ?_, ?_, ?_, ?_, ?_, ?_, ?_, ?_⟩, ?_, k3, Fw_t (Fw_f j3 (by omega) (by omega)) (Fw_z k4 (by omega) (by omega))⟩
  · exact RC_c hCl (fun b x y => by rw [c2 b (by omega), c1 b (by omega)]) (mLe_n hi (by omega) (by omega)) (fun j x y => mLe_n hi (by omega) (by omega))
  · exact RK_c hK (fun b x y => by rw [c2 b (by omega), c1 b (by omega)]) (fun j x y => mLe_n hi (by omega) (by omega))
  · exact RLg_c j2 (fun b x y => by rw [c2 b (by omega)]) (mLe_l hi (by omega)) (fun j x y => mLe_l hi (by omega))
  · exact RH_c hH (fun b x y => by rw [c2 b (by omega), c1 b (by omega)]) (mLe_n hi (by omega) (by omega)) (fun j x y => mLe_n hi (by omega) (by omega))
  · rw [c2 _ (by omega), c1 _ (by omega), mLe_n hi (by omega) (by omega)]; exact e9
  · rw [c2 _ (by omega), c1 _ (by omega), mLe_n hi (by omega) (by omega)]; exact e10
  · rw [c2 _ (by omega), c1 _ (by omega), mLe_n hi (by omega) (by omega)]; exact e11
  · rw [c2 _ (by omega), c1 _ (by omega), mLe_n hi (by omega) (by omega)]; exact e12
  · rw [c2 _ (by omega), c1 _ (by omega), mLe_n hi (by omega) (by omega)]; exact e13
  · exact RLw_c hW (mLe_n hi (by omega) (by omega)) (fun j x y => mLe_n hi (by omega) (by omega)) (fun b x y => by rw [c2 b (by omega), c1 b (by omega)]) hL
