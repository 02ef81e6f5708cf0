/-! PAIRS: the heaviest, and of these the first -/
def clB (S j : Nat) : Nat := if S.testBit j then S - 2 ^ j else S
def loB (S : Nat) : Nat := (fs (fun j => S.testBit j) 5 0).getD 0
theorem clB_le (S j : Nat) : clB S j ≤ S := by unfold clB; split; exact Nat.sub_le _ _; exact Nat.le_refl _
theorem lo_b : ∀ S, S < 32 → 0 < S → S.testBit (loB S) = true ∧ loB S < 5 ∧ clB S (loB S) < S := by decide
theorem lo_i : ∀ S, S < 32 → ∀ i, i < 5 → S.testBit i = true → (∀ j, j < i → S.testBit j = false) → loB S = i := by decide
theorem clB_b : ∀ S, S < 32 → ∀ j, j < 5 → ∀ k, k < 5 → (clB S j).testBit k = (S.testBit k && !decide (k = j)) := by decide
theorem clB_lt {S j : Nat} (h : S < 32) : clB S j < 32 := Nat.lt_of_le_of_lt (clB_le S j) h
section PR
variable (n : Nat) (X : Nat → Nat → Bool) (w : Nat → Nat)
/-- what the p-th choice for the lowest of S is worth: 0 leaves it alone, j + 1 pairs it with j -/
def vO (P : Nat → Nat) (S : Nat) : Nat → Option Nat
  | 0 => some (P (clB S (loB S)))
  | j + 1 => if (clB S (loB S)).testBit j = true ∧ X (loB S) j = false then some (w (loB S) + w j + P (clB (clB S (loB S)) j)) else none
def pB : Nat → Nat → Nat
  | 0, _ => 0
  | k + 1, S => if S = 0 then 0 else fo (fun p b => max b ((vO X w (pB k) S p).getD 0)) (n + 1) 0 0
end PR
theorem fo_cg {σ : Type} {g g' : Nat → σ → σ} : ∀ m i b, (∀ k b, i ≤ k → k < i + m → g k b = g' k b) → fo g m i b = fo g' m i b := by
  intro m
  induction m with
  | zero => intro i b _; rfl
  | succ m ih =>
    intro i b h
    rw [fo, fo, h i b (by omega) (by omega)]
    exact ih (i + 1) _ (fun k b h1 h2 => h k b (by omega) (by omega))
theorem fo_ap {σ : Type} {g : Nat → σ → σ} : ∀ a b i x, fo g (a + b) i x = fo g b (i + a) (fo g a i x) := by
  intro a
  induction a with
  | zero => intro b i x; rw [Nat.zero_add, Nat.add_zero]; rfl
  | succ a ih =>
    intro b i x
    rw [show a + 1 + b = (a + b) + 1 by omega, fo, fo, ih b (i + 1), show i + 1 + a = i + (a + 1) by omega]
theorem vO_c {X : Nat → Nat → Bool} {w P P' : Nat → Nat} {S : Nat} (h5 : S < 32) (h0 : 0 < S) (h : ∀ S', S' < S → P S' = P' S') : ∀ p, vO X w P S p = vO X w P' S p := by
  have hl := (lo_b S h5 h0).2.2
  intro p
  cases p with
  | zero => show some _ = some _; rw [h _ hl]
  | succ j =>
    show (if _ then _ else _) = (if _ then _ else _)
    rw [h _ (Nat.lt_of_le_of_lt (clB_le _ j) hl)]
theorem pB_st {n : Nat} {X : Nat → Nat → Bool} {w : Nat → Nat} : ∀ k k' S, S < 32 → S ≤ k → S ≤ k' → pB n X w k S = pB n X w k' S := by
  intro k
  induction k with
  | zero =>
    intro k' S _ h _
    have : S = 0 := by omega
    subst this
    cases k' with
    | zero => rfl
    | succ k' => rw [pB, pB, if_pos rfl]
  | succ k ih =>
    intro k' S h5 h h'
    by_cases e : S = 0
    · subst e
      cases k' with
      | zero => rw [pB, pB, if_pos rfl]
      | succ k' => rw [pB, pB, if_pos rfl, if_pos rfl]
    · cases k' with
      | zero => omega
      | succ k' =>
        rw [pB, pB, if_neg e, if_neg e]
        exact fo_cg _ _ _ (fun p b _ _ => by rw [vO_c h5 (by omega) (fun S' hS' => ih k' S' (by omega) (by omega) (by omega)) p])
/-- the heaviest weight of pairs within S -/
def pW (n : Nat) (X : Nat → Nat → Bool) (w : Nat → Nat) (S : Nat) : Nat := pB n X w 32 S
theorem pW_0 {n : Nat} {X : Nat → Nat → Bool} {w : Nat → Nat} : pW n X w 0 = 0 := by unfold pW; rw [pB, if_pos rfl]
theorem pW_s {n : Nat} {X : Nat → Nat → Bool} {w : Nat → Nat} {S : Nat} (h5 : S < 32) (h0 : 0 < S) : pW n X w S = fo (fun p b => max b ((vO X w (pW n X w) S p).getD 0)) (n + 1) 0 0 := by
  have : pW n X w S = pB n X w (31 + 1) S := rfl
  rw [this, pB, if_neg (by omega)]
  exact fo_cg _ _ _ (fun p b _ _ => by rw [vO_c h5 h0 (fun S' hS' => (pB_st 31 32 S' (by omega) (by omega) (by omega))) p]; rfl)
theorem mx_le {v : Nat → Option Nat} : ∀ r p b, b ≤ fo (fun p b => max b ((v p).getD 0)) r p b ∧ ∀ q x, p ≤ q → q < p + r → v q = some x → x ≤ fo (fun p b => max b ((v p).getD 0)) r p b := by
  intro r
  induction r with
  | zero => intro p b; exact ⟨Nat.le_refl _, fun q x h1 h2 _ => by omega⟩
  | succ r ih =>
    intro p b
    rw [fo]
    obtain ⟨h1, h2⟩ := ih (p + 1) (max b ((v p).getD 0))
    refine ⟨by omega, fun q x a1 a2 a3 => ?_⟩
    by_cases e : q = p
    · subst e
      rw [a3, Option.getD_some] at h1 ⊢
      omega
    · exact h2 q x (by omega) (by omega) a3
theorem mx_at {v : Nat → Option Nat} : ∀ r p b, fo (fun p b => max b ((v p).getD 0)) r p b = b ∨ ∃ q, p ≤ q ∧ q < p + r ∧ v q = some (fo (fun p b => max b ((v p).getD 0)) r p b) := by
  intro r
  induction r with
  | zero => intro p b; exact Or.inl rfl
  | succ r ih =>
    intro p b
    rw [fo]
    rcases ih (p + 1) (max b ((v p).getD 0)) with h | ⟨q, h1, h2, h3⟩
    · rw [h]
      cases e : v p with
      | none => left; rw [Option.getD_none]; omega
      | some x =>
        rw [Option.getD_some]
        by_cases g : x ≤ b
        · left; omega
        · right; exact ⟨p, by omega, by omega, by rw [e]; congr 1; omega⟩
    · exact Or.inr ⟨q, by omega, by omega, h3⟩
theorem fs_first {p : Nat → Bool} : ∀ m i, (∃ k, i ≤ k ∧ k < i + m ∧ p k = true) → ∃ k, fs p m i = some k ∧ i ≤ k ∧ k < i + m ∧ p k = true ∧ ∀ j, i ≤ j → j < k → p j = false := by
  intro m
  induction m with
  | zero => rintro i ⟨k, h1, h2, _⟩; omega
  | succ m ih =>
    rintro i ⟨k, h1, h2, h3⟩
    rw [fs]
    cases e : p i with
    | true => rw [if_pos rfl]; exact ⟨i, rfl, by omega, by omega, e, fun j a b => by omega⟩
    | false =>
      have : k ≠ i := fun q => by rw [q, e] at h3; cases h3
      obtain ⟨k', g1, g2, g3, g4, g5⟩ := ih (i + 1) ⟨k, by omega, by omega, h3⟩
      rw [if_neg (by decide)]
      exact ⟨k', g1, by omega, by omega, g4, fun j a b => by
        by_cases q : j = i
        · rw [q]; exact e
        · exact g5 j (by omega) b⟩
/-- the first choice that is worth most -/
def oP (n : Nat) (X : Nat → Nat → Bool) (w : Nat → Nat) (S : Nat) : Nat := (fs (fun p => decide (vO X w (pW n X w) S p = some (pW n X w S))) (n + 1) 0).getD 0
theorem oP_s {n : Nat} {X : Nat → Nat → Bool} {w : Nat → Nat} {S : Nat} (h5 : S < 32) (h0 : 0 < S) : fs (fun p => decide (vO X w (pW n X w) S p = some (pW n X w S))) (n + 1) 0 = some (oP n X w S) ∧ oP n X w S < n + 1 ∧ vO X w (pW n X w) S (oP n X w S) = some (pW n X w S) ∧ (∀ q, q < oP n X w S → vO X w (pW n X w) S q ≠ some (pW n X w S)) ∧ ∀ q x, q < n + 1 → vO X w (pW n X w) S q = some x → x ≤ pW n X w S := by
  have hle := (mx_le (v := vO X w (pW n X w) S) (n + 1) 0 0).2
  have hat := mx_at (v := vO X w (pW n X w) S) (n + 1) 0 0
  rw [← pW_s h5 h0] at hle hat
  have hex : ∃ q, 0 ≤ q ∧ q < 0 + (n + 1) ∧ decide (vO X w (pW n X w) S q = some (pW n X w S)) = true := by
    rcases hat with h | ⟨q, h1, h2, h3⟩
    · refine ⟨0, by omega, by omega, decide_eq_true ?_⟩
      have := hle 0 (pW n X w (clB S (loB S))) (by omega) (by omega) rfl
      show some _ = _
      congr 1; omega
    · exact ⟨q, h1, h2, decide_eq_true h3⟩
  obtain ⟨k, g1, g2, g3, g4, g5⟩ := fs_first (n + 1) 0 hex
  have e : oP n X w S = k := by unfold oP; rw [g1]; rfl
  rw [e]
  exact ⟨g1, by omega, of_decide_eq_true g4, fun q hq => of_decide_eq_false (g5 q (by omega) hq), fun q x h1 h2 => hle q x (by omega) (by omega) h2⟩
/-- the class's turn over the choices: what is better than the best so far takes its place -/
def stP {α : Type} (T : Nat) (v : Nat → Option Nat) (ov : Nat → α) (p : Nat) (b : Nat × α) : Nat × α := match v p with
  | none => b
  | some x => if b.1 ≤ T + x then (T + x + 1, ov p) else b
theorem st_keep {α : Type} {T : Nat} {v : Nat → Option Nat} {ov : Nat → α} : ∀ r p b, (∀ q x, p ≤ q → q < p + r → v q = some x → T + x < b.1) → fo (stP T v ov) r p b = b := by
  intro r
  induction r with
  | zero => intro p b _; rfl
  | succ r ih =>
    intro p b h
    have : stP T v ov p b = b := by
      unfold stP
      cases e : v p with
      | none => rfl
      | some x => have := h p x (by omega) (by omega) e; exact if_neg (by omega)
    rw [fo, this]
    exact ih (p + 1) b (fun q x h1 h2 h3 => h q x (by omega) (by omega) h3)
theorem st_bef {α : Type} {T M : Nat} {v : Nat → Option Nat} {ov : Nat → α} : ∀ r p b, b.1 ≤ M → (∀ q x, p ≤ q → q < p + r → v q = some x → T + x < M) → (fo (stP T v ov) r p b).1 ≤ M := by
  intro r
  induction r with
  | zero => intro p b h _; exact h
  | succ r ih =>
    intro p b hb h
    rw [fo]
    refine ih (p + 1) _ ?_ (fun q x h1 h2 h3 => h q x (by omega) (by omega) h3)
    unfold stP
    cases e : v p with
    | none => exact hb
    | some x =>
      have := h p x (by omega) (by omega) e
      show (if b.1 ≤ T + x then (T + x + 1, ov p) else b).1 ≤ M
      split
      · show T + x + 1 ≤ M; omega
      · exact hb
theorem st_all {α : Type} {T V o r : Nat} {v : Nat → Option Nat} {ov : Nat → α} (ho : o < r) (hv : v o = some V) (h1 : ∀ q, q < o → v q ≠ some V) (h2 : ∀ q x, q < r → v q = some x → x ≤ V) (b : Nat × α) : fo (stP T v ov) r 0 b = if b.1 ≤ T + V then (T + V + 1, ov o) else b := by
  split
  · rename_i h
    rw [show r = o + (1 + (r - o - 1)) by omega, fo_ap, fo_ap]
    have hb := st_bef (T := T) (M := T + V) (v := v) (ov := ov) o 0 b h (fun q x a1 a2 a3 => by
      have := h2 q x (by omega) a3
      have : x ≠ V := fun e => h1 q (by omega) (by rw [a3, e])
      omega)
    have e1 : fo (stP T v ov) 1 (0 + o) (fo (stP T v ov) o 0 b) = (T + V + 1, ov o) := by
      rw [fo, fo, Nat.zero_add]
      unfold stP
      rw [hv]
      exact if_pos hb
    rw [e1]
    exact st_keep _ _ _ (fun q x a1 a2 a3 => by have := h2 q x (by omega) a3; show T + x < T + V + 1; omega)
  · exact st_keep _ _ _ (fun q x a1 a2 a3 => by have := h2 q x (by omega) a3; omega)
theorem pW_le {n : Nat} {X : Nat → Nat → Bool} {w : Nat → Nat} (hw : ∀ c, w c ≤ 64) : ∀ S, S < 32 → pW n X w S ≤ 128 * S := by
  have : ∀ m S, S ≤ m → S < 32 → pW n X w S ≤ 128 * S := by
    intro m
    induction m with
    | zero => intro S h _; have : S = 0 := by omega
              subst this; rw [pW_0]; omega
    | succ m ih =>
      intro S hS h5
      by_cases e : S = 0
      · subst e; rw [pW_0]; omega
      · obtain ⟨-, -, h3, -, -⟩ := oP_s (n := n) (X := X) (w := w) h5 (by omega)
        have hl := (lo_b S h5 (by omega)).2.2
        cases eo : oP n X w S with
        | zero =>
          rw [eo] at h3
          have := ih (clB S (loB S)) (by omega) (by omega)
          have h4 : pW n X w (clB S (loB S)) = pW n X w S := by injection h3
          omega
        | succ j =>
          rw [eo] at h3
          have hj := clB_le (clB S (loB S)) j
          have := ih (clB (clB S (loB S)) j) (by omega) (by omega)
          unfold vO at h3
          simp only at h3
          split at h3
          · injection h3 with h3
            have a := hw (loB S)
            have b := hw j
            omega
          · cases h3
  exact fun S h => this S S (Nat.le_refl _) h
/-- i and j are paired -/
def upB (A : Nat → Int32) (i j : Nat) : Nat → Int32 := fun c => if c = i then nI j else if c = j then nI i else A c
def ovP (n : Nat) (X : Nat → Nat → Bool) (w : Nat → Nat) : Nat → Nat → (Nat → Int32) → Nat → Int32
  | 0, _, A => A
  | k + 1, S, A => if S = 0 then A else match oP n X w S with
    | 0 => ovP n X w k (clB S (loB S)) A
    | j + 1 => ovP n X w k (clB (clB S (loB S)) j) (upB A (loB S) j)
theorem ovP_st {n : Nat} {X : Nat → Nat → Bool} {w : Nat → Nat} : ∀ k k' S A, S < 32 → S ≤ k → S ≤ k' → ovP n X w k S A = ovP n X w k' S A := by
  intro k
  induction k with
  | zero =>
    intro k' S A _ h _
    have : S = 0 := by omega
    subst this
    cases k' with
    | zero => rfl
    | succ k' => rw [ovP, ovP, if_pos rfl]
  | succ k ih =>
    intro k' S A h5 h h'
    by_cases e : S = 0
    · subst e
      cases k' with
      | zero => rw [ovP, ovP, if_pos rfl]
      | succ k' => rw [ovP, ovP, if_pos rfl, if_pos rfl]
    · cases k' with
      | zero => omega
      | succ k' =>
        have hl := (lo_b S h5 (by omega)).2.2
        rw [ovP, ovP, if_neg e, if_neg e]
        cases oP n X w S with
        | zero => exact ih k' _ _ (by omega) (by omega) (by omega)
        | succ j =>
          have := clB_le (clB S (loB S)) j
          exact ih k' _ _ (by omega) (by omega) (by omega)
def mP (n : Nat) (X : Nat → Nat → Bool) (w : Nat → Nat) (S : Nat) (A : Nat → Int32) : Nat → Int32 := ovP n X w 32 S A
def oV (n : Nat) (X : Nat → Nat → Bool) (w : Nat → Nat) (S : Nat) (A : Nat → Int32) : Nat → Nat → Int32
  | 0 => mP n X w (clB S (loB S)) A
  | j + 1 => mP n X w (clB (clB S (loB S)) j) (upB A (loB S) j)
theorem mP_0 {n : Nat} {X : Nat → Nat → Bool} {w : Nat → Nat} {A : Nat → Int32} : mP n X w 0 A = A := by unfold mP; rw [ovP, if_pos rfl]
theorem mP_s {n : Nat} {X : Nat → Nat → Bool} {w : Nat → Nat} {S : Nat} {A : Nat → Int32} (h5 : S < 32) (h0 : 0 < S) : mP n X w S A = oV n X w S A (oP n X w S) := by
  have hl := (lo_b S h5 h0).2.2
  have : mP n X w S A = ovP n X w (31 + 1) S A := rfl
  rw [this, ovP, if_neg (by omega)]
  cases oP n X w S with
  | zero => exact ovP_st 31 32 _ _ (by omega) (by omega) (by omega)
  | succ j =>
    have := clB_le (clB S (loB S)) j
    exact ovP_st 31 32 _ _ (by omega) (by omega) (by omega)
/-- who is not in S is left alone -/
theorem mP_n {n : Nat} {X : Nat → Nat → Bool} {w : Nat → Nat} : ∀ m S A c, S ≤ m → S < 32 → c < 5 → n ≤ 5 → S.testBit c = false → mP n X w S A c = A c := by
  intro m
  induction m with
  | zero =>
    intro S A c h _ _ _ _
    have : S = 0 := by omega
    subst this
    rw [mP_0]
  | succ m ih =>
    intro S A c h h5 hc hn hb
    by_cases e : S = 0
    · subst e; rw [mP_0]
    · obtain ⟨l1, l2, l3⟩ := lo_b S h5 (by omega)
      obtain ⟨-, g1, g2, -⟩ := oP_s (n := n) (X := X) (w := w) h5 (by omega)
      rw [mP_s h5 (by omega)]
      have b1 := clB_b S h5 (loB S) l2 c hc
      rw [hb, Bool.false_and] at b1
      cases eo : oP n X w S with
      | zero => exact ih _ A c (by omega) (by omega) hc hn b1
      | succ j =>
        rw [eo] at g1 g2
        have h2 := clB_le (clB S (loB S)) j
        have b2 := clB_b _ (show clB S (loB S) < 32 by omega) j (by omega) c hc
        rw [b1, Bool.false_and] at b2
        have hj : (clB S (loB S)).testBit j = true := by
          unfold vO at g2
          simp only at g2
          split at g2
          · rename_i q; exact q.1
          · cases g2
        show mP n X w (clB (clB S (loB S)) j) (upB A (loB S) j) c = A c
        rw [ih _ _ c (by omega) (by omega) hc hn b2]
        unfold upB
        rw [if_neg (fun q => by rw [q, l1] at hb; cases hb), if_neg (fun q => by rw [q, hj] at b1; cases b1)]
def bst (b : Nat) : Int32 := if b = 0 then -nI 1 else nI (b - 1)
theorem bst_le {T b : Nat} (hT : T < 2000000) (hb : b < 2000000) : (nI T ≤ bst b) = (T < b) := by
  unfold bst
  by_cases e : b = 0
  · rw [if_pos e]
    have h1 : (-nI 1 : Int32).toInt = -1 := by decide
    rw [Int32.le_iff_toInt_le, nI_toInt (by omega), h1]
    exact propext ⟨fun h => by omega, fun h => by omega⟩
  · rw [if_neg e, nI_lev (by omega) (by omega)]
    exact propext ⟨fun h => by omega, fun h => by omega⟩
theorem bc_nat (x : Int32) : ∃ k, k ≤ 63 ∧ bc x = nI k := by
  have : ∀ y : Int32, ∃ k, k ≤ 63 ∧ y &&& 63 = nI k := fun y => by
    refine ⟨(y &&& 63).toBitVec.toNat, ?_, Int32.toBitVec_inj.mp ?_⟩
    · rw [Int32.toBitVec_and, BitVec.toNat_and]
      exact Nat.and_le_right
    · show (y &&& 63).toBitVec = BitVec.ofNat 32 (y &&& 63).toBitVec.toNat
      simp
  unfold bc
  exact this _
noncomputable def wP (f : Nat → Int32) (c : Nat) : Nat := (bc_nat (clU f c)).choose
theorem wP_e (f : Nat → Int32) (c : Nat) : bc (clU f c) = nI (wP f c) := (bc_nat (clU f c)).choose_spec.2
theorem wP_l (f : Nat → Int32) (c : Nat) : wP f c ≤ 64 := Nat.le_trans (bc_nat (clU f c)).choose_spec.1 (by omega)
/-- the class at work on pairs: the pairs so far, the best so far and its pairs -/
def PS (s0 s : mS) (A : Nat → Int32) (b : Nat × (Nat → Int32)) : Prop := (∀ c, c ≠ 123 → c ≠ 125 → c ≠ 126 → s.1 c = s0.1 c) ∧ s.2 = s0.2 ∧ (∀ j, j < 5 → s.1 125 j = A j) ∧ s.1 123 4 = bst b.1 ∧ (∀ j, j < 5 → s.1 126 j = b.2 j) ∧ b.1 ≤ 100001
theorem S_0 : ∀ S, S < 32 → (∀ j, j < 5 → S.testBit j = false) → S = 0 := by decide
theorem p58 {s0 : mS} {n : Nat} {f : Nat → Int32} (hn : n ≤ 5) (y0 : s0.1 27 0 = nI n) (h1 : ∀ c, c < 5 → s0.1 (27 + 1) c = f (49 + 5 * c)) (h2 : ∀ c, c < 5 → s0.1 (27 + 2) c = f (49 + 5 * c + 1)) : ∀ k i S A b T N s, i + k = n → k < N → S < 32 → (∀ j, j < i → S.testBit j = false) → (∀ j, n ≤ j → j < 5 → S.testBit j = false) → (∀ j, i ≤ j → j < n → S.testBit j = decide (A j = -nI 1)) → T + 128 * S ≤ 100000 → PS s0 s A b → ∃ s', q58 N (nI i) (nI T) s = ru s' ∧ PS s0 s' A (if b.1 ≤ T + pW n (clX f) (wP f) S then (T + pW n (clX f) (wP f) S + 1, mP n (clX f) (wP f) S A) else b) := by
  intro k
  induction k with
  | zero =>
    intro i S A b T N s hi hN h5 b1 b2 b3 hT hP
    cases N with
    | zero => omega
    | succ N =>
      have hz : S = 0 := S_0 S h5 (fun j hj => by
        by_cases e : j < i
        · exact b1 j e
        · exact b2 j (by omega) hj)
      subst hz
      obtain ⟨c1, c2, c3, c4, c5, c6⟩ := hP
      have e0 : s.1 27 0 = nI n := by rw [c1 27 (by omega) (by omega) (by omega)]; exact y0
      simp only [pW_0, mP_0, Nat.add_zero]
      unfold q58 q58F
      rw [e0, if_neg (by rw [nI_ltv (by omega) (by omega)]; omega), c4]
      by_cases e : b.1 ≤ T
      · rw [if_pos e, if_neg (by rw [bst_le (by omega) (by omega)]; omega)]
        simp only [nI_lit, sp_e]
        rw [gC_ok (by omega) (by omega) (by omega) (by omega)]
        have z0 : (nI 0).toNatClampNeg = 0 := nI_clp (by omega)
        have z5 : (nI 5).toNatClampNeg = 5 := nI_clp (by omega)
        rw [z0, z5]
        refine ⟨_, rfl, fun c x y z => ?_, ?_, fun j hj => ?_, ?_, fun j hj => ?_, by show T + 1 ≤ 100001; omega⟩
        · rw [sC_fn z, sI_fn x]; exact c1 c x y z
        · exact c2
        · rw [sC_fn (by omega), sI_fn (by omega)]; exact c3 j hj
        · rw [sC_fn (by omega), sI_sm, ud_e rfl]
          show nI T = bst (T + 1)
          unfold bst
          rw [if_neg (by omega), Nat.add_sub_cancel]
        · rw [sC_at, if_pos rfl, if_pos (by omega), sI_fn (by omega), show 0 + (j - 0) = j by omega]
          exact c3 j hj
      · rw [if_neg e, if_pos (by rw [bst_le (by omega) (by omega)]; omega)]
        exact ⟨s, rfl, c1, c2, c3, c4, c5, c6⟩
  | succ k ih =>
    intro i S A b T N s hi hN h5 b1 b2 b3 hT hP
    cases N with
    | zero => omega
    | succ N =>
      have e0 : ∀ s : mS, (∀ c, c ≠ 123 → c ≠ 125 → c ≠ 126 → s.1 c = s0.1 c) → s.1 27 0 = nI n := fun s h => by rw [h 27 (by omega) (by omega) (by omega)]; exact y0
      have E : q58 (N + 1) (nI i) (nI T) s = bM (q58 N (nI (i + 1)) (nI T) s) (fun s18 => q58_58 (q58 N) 10000 (nI i) (nI T) (nI (i + 1)) s18) := by
        show q58F (q58 N) (nI i) (nI T) s = _
        unfold q58F
        rw [e0 s hP.1, if_pos (by rw [nI_ltv (by omega) (by omega)]; omega)]
        simp only [nI_lit, bx_e, nI_add]
      cases hb : S.testBit i with
      | false =>
        obtain ⟨s', g1, g2⟩ := ih (i + 1) S A b T N s (by omega) (by omega) h5 (fun j hj => by
          by_cases e : j = i
          · rw [e]; exact hb
          · exact b1 j (by omega)) b2 (fun j x y => b3 j (by omega) y) hT hP
        refine ⟨s', ?_, g2⟩
        have ha := b3 i (by omega) (by omega)
        rw [hb] at ha
        have ha' : ¬ A i = -nI 1 := of_decide_eq_false ha.symm
        have e5 := g2.2.2.1 i (by omega)
        rw [E, g1, bM_ru, show (10000 : Nat) = 9999 + 1 from rfl, q58_58, gA_ok (by omega) (by omega), nI_clp (show i < 2147483648 by omega), e5, nI_lit, if_pos ha']
      | true =>
        have h0 : 0 < S := by
          rcases Nat.eq_zero_or_pos S with e | e
          · rw [e, Nat.zero_testBit] at hb; cases hb
          · exact e
        have hlo : loB S = i := lo_i S h5 i (by omega) hb b1
        obtain ⟨-, -, l3⟩ := lo_b S h5 h0
        rw [hlo] at l3
        obtain ⟨-, g1, g2, g3, g4⟩ := oP_s (n := n) (X := clX f) (w := wP f) h5 h0
        have hAi : A i = -nI 1 := by have := b3 i (by omega) (by omega); rw [hb] at this; exact of_decide_eq_true this.symm
        have hcl : ∀ j, j < 5 → (clB S i).testBit j = (S.testBit j && !decide (j = i)) := fun j hj => clB_b S h5 i (by omega) j hj
        have v0 : vO (clX f) (wP f) (pW n (clX f) (wP f)) S 0 = some (pW n (clX f) (wP f) (clB S i)) := by rw [← hlo]; rfl
        have vj : ∀ j, vO (clX f) (wP f) (pW n (clX f) (wP f)) S (j + 1) = if (clB S i).testBit j = true ∧ clX f i j = false then some (wP f i + wP f j + pW n (clX f) (wP f) (clB (clB S i) j)) else none := fun j => by rw [← hlo]; rfl
        -- the choices from j on
        have main : ∀ r j K s b, j + r = n → i < j → r < K → PS s0 s A b → ∃ s', q58_58 (q58 N) K (nI i) (nI T) (nI j) s = ru s' ∧ PS s0 s' A (fo (stP T (vO (clX f) (wP f) (pW n (clX f) (wP f)) S) (oV n (clX f) (wP f) S A)) r (j + 1) b) := by
          intro r
          induction r with
          | zero =>
            intro j K s b hj hij hK hP
            cases K with
            | zero => omega
            | succ K =>
              refine ⟨s, ?_, hP⟩
              have e5 := hP.2.2.1 i (by omega)
              have e0' := e0 s hP.1
              rw [hAi] at e5
              rw [q58_58, gA_ok (by omega) (by omega), nI_clp (show i < 2147483648 by omega), e5, e0', nI_lit, if_neg (not_not_intro rfl), if_pos (by rw [nI_lev (by omega) (by omega)]; omega)]
          | succ r ihr =>
            intro j K s b hj hij hK hP
            cases K with
            | zero => omega
            | succ K =>
              have e5 := hP.2.2.1 i (by omega)
              have e5j := hP.2.2.1 j (by omega)
              have e0' := e0 s hP.1
              rw [hAi] at e5
              have hcj := hcl j (by omega)
              have hne : j ≠ i := by omega
              rw [decide_eq_false hne, Bool.not_false, Bool.and_true] at hcj
              have hbj := b3 j (by omega) (by omega)
              have k5 := p5 (s := s) (y := 27) (f := f) (show i < 5 by omega) (show j < 5 by omega) (fun c hc => by rw [hP.1 _ (by omega) (by omega) (by omega)]; exact h1 c hc) (fun c hc => by rw [hP.1 _ (by omega) (by omega) (by omega)]; exact h2 c hc)
              have skip : vO (clX f) (wP f) (pW n (clX f) (wP f)) S (j + 1) = none → q58_58 (q58 N) (K + 1) (nI i) (nI T) (nI j) s = q58_58 (q58 N) K (nI i) (nI T) (nI (j + 1)) s → ∃ s', q58_58 (q58 N) (K + 1) (nI i) (nI T) (nI j) s = ru s' ∧ PS s0 s' A (fo (stP T (vO (clX f) (wP f) (pW n (clX f) (wP f)) S) (oV n (clX f) (wP f) S A)) (r + 1) (j + 1) b) := fun q1 q2 => by
                have : stP T (vO (clX f) (wP f) (pW n (clX f) (wP f)) S) (oV n (clX f) (wP f) S A) (j + 1) b = b := by unfold stP; rw [q1]
                rw [fo, this, q2]
                exact ihr (j + 1) K s b (by omega) (by omega) (by omega) hP
              by_cases ea : A j = -nI 1
              · rw [decide_eq_true ea] at hbj
                rw [ea] at e5j
                cases ex : clX f i j with
                | true =>
                  rw [ex, b2_t] at k5
                  refine skip (by rw [vj j, if_neg (fun q => by have := q.2; rw [ex] at this; cases this)]) ?_
                  simp (disch := omega) only [q58_58, q58_148, e5, e5j, e0', k5, nI_lit, nI_add, pk_mul, nI_clp, nI_eqv, nI_lev, nI_ltv, nI_neg, nI_neg', nI_subv, Nat.add_zero, Nat.zero_add, Nat.mul_zero, Nat.reduceAdd, bN_rv, bM_ru, bV_rv, bV_rx, bU_ru, bU_rx, bN_ite, bM_ite, bV_ite, bU_ite, ↓bx_e, ↓sp_e, gA_ok, gZ_n, gB_0, gB_1, gB_i, and_true, and_false, true_and, false_and, decide_true, decide_false, ↓reduceIte, not_true_eq_false, not_false_eq_true, Bool.false_eq_true, Bool.true_eq_false, Bool.and_true, Bool.and_false, Bool.true_and, Bool.false_and, Bool.or_true, Bool.or_false, Bool.true_or, Bool.false_or, Bool.not_true, Bool.not_false, le_f, le_t, lt_f, lt_t, eq_f, ↓reduceIte, not_true_eq_false, not_false_eq_true, ite_10, bt_0, bt_1]
                | false =>
                  rw [ex, b2_f] at k5
                  have hv : vO (clX f) (wP f) (pW n (clX f) (wP f)) S (j + 1) = some (wP f i + wP f j + pW n (clX f) (wP f) (clB (clB S i) j)) := by rw [vj j, if_pos ⟨by rw [hcj]; exact hbj, ex⟩]
                  have hc2 := clB_le (clB S i) j
                  have wi := wP_l f i
                  have wj := wP_l f j
                  have hl5 := pW_le (n := n) (X := clX f) (wP_l f) (clB (clB S i) j) (by omega)
                  have hcc : ∀ c, c < 5 → (clB (clB S i) j).testBit c = ((S.testBit c && !decide (c = i)) && !decide (c = j)) := fun c hc => by rw [clB_b _ (by omega) j (by omega) c hc, hcl c hc]
                  have hP2 : PS s0 (sI (sI s 125 i (nI j)) 125 j (nI i)) (upB A i j) b := by
                    obtain ⟨c1, c2, c3, c4, c5, c6⟩ := hP
                    refine ⟨fun c x y z => by rw [sI_fn y, sI_fn y]; exact c1 c x y z, c2, fun c hc => ?_, by rw [sI_fn (by omega), sI_fn (by omega)]; exact c4, fun c hc => by rw [sI_fn (by omega), sI_fn (by omega)]; exact c5 c hc, c6⟩
                    rw [sI_sm]
                    unfold upB
                    by_cases q1 : c = j
                    · subst q1; rw [ud_e rfl, if_neg hne, if_pos rfl]
                    · rw [ud_n q1, sI_sm]
                      by_cases q2 : c = i
                      · subst q2; rw [ud_e rfl, if_pos rfl]
                      · rw [ud_n q2, if_neg q2, if_neg q1]; exact c3 c hc
                  obtain ⟨s1, a1, a2⟩ := ih (i + 1) (clB (clB S i) j) (upB A i j) b (T + (wP f i + wP f j)) N _ (by omega) (by omega) (by omega) (fun c hc => by
                    rw [hcc c (by omega)]
                    by_cases q : c = i
                    · rw [decide_eq_true q, Bool.not_true, Bool.and_false, Bool.false_and]
                    · rw [b1 c (by omega), Bool.false_and, Bool.false_and]) (fun c x y => by rw [hcc c y, b2 c x y, Bool.false_and, Bool.false_and]) (fun c x y => by
                    have q : c ≠ i := by omega
                    rw [hcc c (by omega), decide_eq_false q, Bool.not_false, Bool.and_true, b3 c (by omega) y]
                    unfold upB
                    rw [if_neg q]
                    by_cases q2 : c = j
                    · rw [if_pos q2, decide_eq_true q2, Bool.not_true, Bool.and_false]
                      exact (decide_eq_false (fun z => by rw [nI_neg (by omega)] at z; exact z)).symm
                    · rw [if_neg q2, decide_eq_false q2, Bool.not_false, Bool.and_true]) (by omega) hP2
                  have hst : (if b.1 ≤ T + (wP f i + wP f j) + pW n (clX f) (wP f) (clB (clB S i) j) then (T + (wP f i + wP f j) + pW n (clX f) (wP f) (clB (clB S i) j) + 1, mP n (clX f) (wP f) (clB (clB S i) j) (upB A i j)) else b) = stP T (vO (clX f) (wP f) (pW n (clX f) (wP f)) S) (oV n (clX f) (wP f) S A) (j + 1) b := by
                    unfold stP
                    rw [hv]
                    show _ = if b.1 ≤ T + (wP f i + wP f j + pW n (clX f) (wP f) (clB (clB S i) j)) then (T + (wP f i + wP f j + pW n (clX f) (wP f) (clB (clB S i) j)) + 1, mP n (clX f) (wP f) (clB (clB S (loB S)) j) (upB A (loB S) j)) else b
                    rw [hlo, Nat.add_assoc T (wP f i + wP f j)]
                  rw [hst] at a2
                  have hP3 : PS s0 (sI (sI s1 125 i (-nI 1)) 125 j (-nI 1)) A (stP T (vO (clX f) (wP f) (pW n (clX f) (wP f)) S) (oV n (clX f) (wP f) S A) (j + 1) b) := by
                    obtain ⟨c1, c2, c3, c4, c5, c6⟩ := a2
                    refine ⟨fun c x y z => by rw [sI_fn y, sI_fn y]; exact c1 c x y z, c2, fun c hc => ?_, by rw [sI_fn (by omega), sI_fn (by omega)]; exact c4, fun c hc => by rw [sI_fn (by omega), sI_fn (by omega)]; exact c5 c hc, c6⟩
                    rw [sI_sm]
                    by_cases q1 : c = j
                    · subst q1; rw [ud_e rfl, ea]
                    · rw [ud_n q1, sI_sm]
                      by_cases q2 : c = i
                      · subst q2; rw [ud_e rfl, hAi]
                      · rw [ud_n q2, c3 c hc]; unfold upB; rw [if_neg q2, if_neg q1]
                  obtain ⟨s2, d1, d2⟩ := ihr (j + 1) K _ _ (by omega) (by omega) (by omega) hP3
                  refine ⟨s2, ?_, by rw [fo]; exact d2⟩
                  rw [← d1]
                  have k4i := p4 (n := 0) (s := sI (sI s 125 i (nI j)) 125 j (nI i)) (y := 27) (f := f) (show i < 5 by omega) (fun c hc => by rw [hP2.1 _ (by omega) (by omega) (by omega)]; exact h1 c hc) (fun c hc => by rw [hP2.1 _ (by omega) (by omega) (by omega)]; exact h2 c hc)
                  have k4j := p4 (n := 0) (s := sI (sI s 125 i (nI j)) 125 j (nI i)) (y := 27) (f := f) (show j < 5 by omega) (fun c hc => by rw [hP2.1 _ (by omega) (by omega) (by omega)]; exact h1 c hc) (fun c hc => by rw [hP2.1 _ (by omega) (by omega) (by omega)]; exact h2 c hc)
                  have wei := wP_e f i
                  have wej := wP_e f j
                  simp (disch := omega) only [q58_58, q58_148, e5, e5j, e0', k5, k4i, k4j, q343_e, wei, wej, a1, nI_lit, nI_add, pk_mul, nI_clp, nI_eqv, nI_lev, nI_ltv, nI_neg, nI_neg', nI_subv, Nat.add_zero, Nat.zero_add, Nat.mul_zero, Nat.reduceAdd, bN_rv, bM_ru, bV_rv, bV_rx, bU_ru, bU_rx, bN_ite, bM_ite, bV_ite, bU_ite, ↓bx_e, ↓sp_e, gA_ok, gZ_n, gB_0, gB_1, gB_i, and_true, and_false, true_and, false_and, decide_true, decide_false, ↓reduceIte, not_true_eq_false, not_false_eq_true, Bool.false_eq_true, Bool.true_eq_false, Bool.and_true, Bool.and_false, Bool.true_and, Bool.false_and, Bool.or_true, Bool.or_false, Bool.true_or, Bool.false_or, Bool.not_true, Bool.not_false, le_f, le_t, lt_f, lt_t, eq_f, ↓reduceIte, not_true_eq_false, not_false_eq_true, ite_10, bt_0, bt_1]
              · rw [decide_eq_false ea] at hbj
                refine skip (by rw [vj j, if_neg (fun q => by have := q.1; rw [hcj, hbj] at this; cases this)]) ?_
                simp (disch := omega) only [q58_58, q58_148, e5, e5j, e0', ea, nI_lit, nI_add, pk_mul, nI_clp, nI_eqv, nI_lev, nI_ltv, nI_neg, nI_neg', nI_subv, Nat.add_zero, Nat.zero_add, Nat.mul_zero, Nat.reduceAdd, bN_rv, bM_ru, bV_rv, bV_rx, bU_ru, bU_rx, bN_ite, bM_ite, bV_ite, bU_ite, ↓bx_e, ↓sp_e, gA_ok, gZ_n, gB_0, gB_1, gB_i, and_true, and_false, true_and, false_and, decide_true, decide_false, ↓reduceIte, not_true_eq_false, not_false_eq_true, Bool.false_eq_true, Bool.true_eq_false, Bool.and_true, Bool.and_false, Bool.true_and, Bool.false_and, Bool.or_true, Bool.or_false, Bool.true_or, Bool.false_or, Bool.not_true, Bool.not_false, le_f, le_t, lt_f, lt_t, eq_f, ↓reduceIte, not_true_eq_false, not_false_eq_true, ite_10, bt_0, bt_1]
        -- the first choice: i is left alone
        obtain ⟨s1, a1, a2⟩ := ih (i + 1) (clB S i) A b T N s (by omega) (by omega) (by omega) (fun j hj => by
          rw [hcl j (by omega)]
          by_cases q : j = i
          · rw [decide_eq_true q, Bool.not_true, Bool.and_false]
          · rw [b1 j (by omega), Bool.false_and]) (fun j x y => by rw [hcl j y, b2 j x y, Bool.false_and]) (fun j x y => by rw [hcl j (by omega), decide_eq_false (by omega), Bool.not_false, Bool.and_true, b3 j (by omega) y]) (by omega) hP
        have hst : (if b.1 ≤ T + pW n (clX f) (wP f) (clB S i) then (T + pW n (clX f) (wP f) (clB S i) + 1, mP n (clX f) (wP f) (clB S i) A) else b) = stP T (vO (clX f) (wP f) (pW n (clX f) (wP f)) S) (oV n (clX f) (wP f) S A) 0 b := by
          unfold stP
          rw [v0]
          show _ = if b.1 ≤ T + pW n (clX f) (wP f) (clB S i) then (T + pW n (clX f) (wP f) (clB S i) + 1, mP n (clX f) (wP f) (clB S (loB S)) A) else b
          rw [hlo]
        rw [hst] at a2
        obtain ⟨s2, d1, d2⟩ := main (n - (i + 1)) (i + 1) 10000 s1 _ (by omega) (by omega) (by omega) a2
        refine ⟨s2, by rw [E, a1, bM_ru, d1], ?_⟩
        have hall := st_all (T := T) (r := n + 1) (ov := oV n (clX f) (wP f) S A) g1 g2 g3 g4 b
        rw [mP_s h5 h0, ← hall, show n + 1 = 1 + ((i + 1) + (n - (i + 1))) by omega, fo_ap, fo_ap]
        have hk : fo (stP T (vO (clX f) (wP f) (pW n (clX f) (wP f)) S) (oV n (clX f) (wP f) S A)) (i + 1) (0 + 1) (fo (stP T (vO (clX f) (wP f) (pW n (clX f) (wP f)) S) (oV n (clX f) (wP f) S A)) 1 0 b) = stP T (vO (clX f) (wP f) (pW n (clX f) (wP f)) S) (oV n (clX f) (wP f) S A) 0 b := by
          refine st_keep _ _ _ (fun q x x1 x2 x3 => ?_)
          obtain ⟨j, rfl⟩ : ∃ j, q = j + 1 := ⟨q - 1, by omega⟩
          rw [vj j, if_neg (fun z => by
            have := z.1
            rw [hcl j (by omega)] at this
            by_cases e : j = i
            · rw [decide_eq_true e, Bool.not_true, Bool.and_false] at this; cases this
            · rw [b1 j (by omega), Bool.false_and] at this; cases this)] at x3
          cases x3
        rw [hk, show 0 + 1 + (i + 1) = i + 1 + 1 by omega]
        exact d2
