/-! THE LAW'S TEXT: what it says -/
abbrev LR : Type := Nat ⊕ (Nat × List (Nat × Nat))
section LS
variable (b : Nat → Nat) (L : Nat)
def factS (p : Nat) : Option Nat := if wd b L 16 p = true then some 0 else if wd b L 0 p = true then some 1 else if wd b L 17 p = true then some 2 else if wd b L 1 p = true then some 3 else if wd b L 2 p = true then some 4 else if wd b L 18 p = true then some 5 else if wd b L 19 p = true then some 6 else none
def tagS (p : Nat) : Option Nat := if wd b L 3 p = true then some 7 else if wd b L 14 p = true then some 8 else if wd b L 15 p = true then some 9 else none
def partS (p : Nat) : LR := if lw b L p = p then (match nm b L 999 p with
    | none => .inl p
    | some v => .inr (sk b L (dg b L p), [(10, v)])) else (match factS b L p with
    | none => .inl p
    | some k => .inr (sk b L (lw b L p), [(k, 0)]))
def sumR : Nat → Nat → List (Nat × Nat) → LR
  | 0, p, l => .inr (p, l)
  | m + 1, p, l => if isB b L 43 43 p = true then (match partS b L (sk b L (p + 1)) with
    | .inl f => .inl f
    | .inr (p', c) => sumR m p' (l ++ (c ++ [(11, 0)]))) else .inr (p, l)
def sumS (p : Nat) : LR := match partS b L p with
  | .inl f => .inl f
  | .inr (p', c) => sumR b L L p' c
def allR (A : Nat → LR) : Nat → Nat → List (Nat × Nat) → LR
  | 0, p, l => .inr (p, l)
  | m + 1, p, l => if wd b L 20 p = true then (match A (sk b L (p + tln 20)) with
    | .inl f => .inl f
    | .inr (p', c) => allR A m p' (l ++ (c ++ [(15, 0)]))) else .inr (p, l)
def allF (A : Nat → LR) (p : Nat) : LR := match A p with
  | .inl f => .inl f
  | .inr (p', c) => allR b L A L p' c
def condR (A : Nat → LR) : Nat → Nat → List (Nat × Nat) → LR
  | 0, p, l => .inr (p, l)
  | m + 1, p, l => if wd b L 21 p = true then (match allF b L A (sk b L (p + tln 21)) with
    | .inl f => .inl f
    | .inr (p', c) => condR A m p' (l ++ (c ++ [(16, 0)]))) else .inr (p, l)
def condF (A : Nat → LR) (p : Nat) : LR := match allF b L A p with
  | .inl f => .inl f
  | .inr (p', c) => condR b L A L p' c
def cmpS (p : Nat) : LR := match sumS b L p with
  | .inl f => .inl f
  | .inr (p1, c1) => if isB b L 60 60 p1 = true then (match sumS b L (sk b L (p1 + 1)) with
      | .inl f => .inl f
      | .inr (p2, c2) => .inr (p2, c1 ++ (c2 ++ [(12, 0)]))) else if isB b L 62 62 p1 = true then (match sumS b L (sk b L (p1 + 1)) with
      | .inl f => .inl f
      | .inr (p2, c2) => .inr (p2, c1 ++ (c2 ++ [(13, 0)]))) else .inl p1
def leafS (p : Nat) : LR := match tagS b L p with
  | some j => .inr (sk b L (lw b L p), [(j, 0)])
  | none => cmpS b L p
def brkS (r : LR) : LR := match r with
  | .inl f => .inl f
  | .inr (p1, c) => if isB b L 41 41 p1 = true then .inr (sk b L (p1 + 1), c) else .inl p1
def notS (r : LR) : LR := match r with
  | .inl f => .inl f
  | .inr (p1, c) => .inr (p1, c ++ [(14, 0)])
def atomS : Nat → Nat → LR
  | 0, p => if isB b L 40 40 p = true then .inl p else if wd b L 13 p = true then .inl p else leafS b L p
  | k + 1, p => if isB b L 40 40 p = true then brkS b L (condF b L (atomS k) (sk b L (p + 1))) else if wd b L 13 p = true then notS (atomS k (sk b L (p + tln 13))) else leafS b L p
end LS
/-- where a reading ends: behind what it took, and its code is no longer than that -/
def LRk (L : Nat) (b : Nat → Nat) (p : Nat) (r : LR) : Prop := match r with
  | .inl f => p ≤ f ∧ f ≤ L ∧ sk b L f = f
  | .inr (p', l) => p < p' ∧ p' ≤ L ∧ sk b L p' = p' ∧ p + l.length ≤ p' ∧ 1 ≤ l.length
section LK
variable {b : Nat → Nat} {L : Nat}
theorem wd_p {p tx : Nat} (hpL : p ≤ L) (h : wd b L tx p = true) : p + tln tx ≤ L ∧ lw b L p = p + tln tx := by
  have h1 := wd_l h
  obtain ⟨l1, l2, -, -⟩ := lw_p (b := b) hpL
  exact ⟨by omega, h1⟩
theorem tl_20 : tln 20 = 3 := by decide
theorem tl_21 : tln 21 = 2 := by decide
theorem tl_13 : tln 13 = 3 := by decide
theorem fact_l {p k : Nat} (hpL : p ≤ L) (h : factS b L p = some k) : p < lw b L p ∧ lw b L p ≤ L ∧ k ≤ 6 := by
  obtain ⟨l1, l2, -, -⟩ := lw_p (b := b) hpL
  have g : ∀ tx, tx < 22 → tx ≠ 7 → tx ≠ 8 → wd b L tx p = true → p < lw b L p := fun tx a1 a2 a3 h => by
    have := (tx_ok tx a1 a2 a3).1
    have := wd_l h
    omega
  unfold factS at h
  split at h
  · rename_i q; injection h with h; exact ⟨g 16 (by omega) (by omega) (by omega) q, l2, by omega⟩
  split at h
  · rename_i q; injection h with h; exact ⟨g 0 (by omega) (by omega) (by omega) q, l2, by omega⟩
  split at h
  · rename_i q; injection h with h; exact ⟨g 17 (by omega) (by omega) (by omega) q, l2, by omega⟩
  split at h
  · rename_i q; injection h with h; exact ⟨g 1 (by omega) (by omega) (by omega) q, l2, by omega⟩
  split at h
  · rename_i q; injection h with h; exact ⟨g 2 (by omega) (by omega) (by omega) q, l2, by omega⟩
  split at h
  · rename_i q; injection h with h; exact ⟨g 18 (by omega) (by omega) (by omega) q, l2, by omega⟩
  split at h
  · rename_i q; injection h with h; exact ⟨g 19 (by omega) (by omega) (by omega) q, l2, by omega⟩
  · cases h
theorem tag_l {p k : Nat} (hpL : p ≤ L) (h : tagS b L p = some k) : p < lw b L p ∧ lw b L p ≤ L ∧ 7 ≤ k ∧ k ≤ 9 := by
  obtain ⟨l1, l2, -, -⟩ := lw_p (b := b) hpL
  have g : ∀ tx, tx < 22 → tx ≠ 7 → tx ≠ 8 → wd b L tx p = true → p < lw b L p := fun tx a1 a2 a3 h => by
    have := (tx_ok tx a1 a2 a3).1
    have := wd_l h
    omega
  unfold tagS at h
  split at h
  · rename_i q; injection h with h; exact ⟨g 3 (by omega) (by omega) (by omega) q, l2, by omega⟩
  split at h
  · rename_i q; injection h with h; exact ⟨g 14 (by omega) (by omega) (by omega) q, l2, by omega⟩
  split at h
  · rename_i q; injection h with h; exact ⟨g 15 (by omega) (by omega) (by omega) q, l2, by omega⟩
  · cases h
theorem part_k {p : Nat} (hpL : p ≤ L) (hs : sk b L p = p) : LRk L b p (partS b L p) := by
  unfold partS
  split
  · split
    · exact ⟨Nat.le_refl _, hpL, hs⟩
    · rename_i q v hv
      obtain ⟨e1, e2, e3⟩ := nm_p hv
      obtain ⟨d1, d2, -, -⟩ := dg_p (b := b) hpL
      obtain ⟨s1, s2, -, s4⟩ := sk_p (b := b) d2
      show p < sk b L (dg b L p) ∧ _ ∧ _ ∧ p + 1 ≤ _ ∧ 1 ≤ 1
      exact ⟨by omega, s2, s4, by omega, by omega⟩
  · split
    · exact ⟨Nat.le_refl _, hpL, hs⟩
    · rename_i q k hk
      obtain ⟨f1, f2, -⟩ := fact_l hpL hk
      obtain ⟨s1, s2, -, s4⟩ := sk_p (b := b) f2
      show p < sk b L (lw b L p) ∧ _ ∧ _ ∧ p + 1 ≤ _ ∧ 1 ≤ 1
      exact ⟨by omega, s2, s4, by omega, by omega⟩
theorem LRk_up {p p1 : Nat} {r : LR} (h : p ≤ p1) (hr : ∀ f, r = .inl f → LRk L b p1 r) (hr2 : ∀ p' l, r = .inr (p', l) → LRk L b p r) : LRk L b p r := by
  cases r with
  | inl f => have := hr f rfl; exact ⟨by have := this.1; omega, this.2⟩
  | inr x => exact hr2 x.1 x.2 rfl
theorem sumR_k {p0 : Nat} : ∀ m p l, p0 < p → p ≤ L → sk b L p = p → p0 + l.length ≤ p → 1 ≤ l.length → LRk L b p0 (sumR b L m p l) := by
  intro m
  induction m with
  | zero => intro p l h1 h2 h3 h4 h5; exact ⟨h1, h2, h3, h4, h5⟩
  | succ m ih =>
    intro p l h1 h2 h3 h4 h5
    rw [sumR]
    split
    · rename_i q
      have hq := isB_t q
      obtain ⟨s1, s2, -, s4⟩ := sk_p (b := b) (show p + 1 ≤ L by omega)
      have k := part_k s2 s4
      cases e : partS b L (sk b L (p + 1)) with
      | inl f => rw [e] at k; exact ⟨by have := k.1; omega, k.2⟩
      | inr x =>
        rw [e] at k
        obtain ⟨k1, k2, k3, k4, k5⟩ := k
        refine ih x.1 _ (by omega) k2 k3 ?_ ?_
        · simp only [List.length_append, List.length_cons, List.length_nil]; omega
        · simp only [List.length_append, List.length_cons, List.length_nil]; omega
    · exact ⟨h1, h2, h3, h4, h5⟩
theorem sum_k {p : Nat} (hpL : p ≤ L) (hs : sk b L p = p) : LRk L b p (sumS b L p) := by
  have k := part_k hpL hs
  unfold sumS
  cases e : partS b L p with
  | inl f => rw [e] at k; exact k
  | inr x =>
    rw [e] at k
    obtain ⟨k1, k2, k3, k4, k5⟩ := k
    exact sumR_k L x.1 x.2 k1 k2 k3 k4 k5
theorem cmp_k {p : Nat} (hpL : p ≤ L) (hs : sk b L p = p) : LRk L b p (cmpS b L p) := by
  have k := sum_k hpL hs
  unfold cmpS
  cases e : sumS b L p with
  | inl f => rw [e] at k; exact k
  | inr x =>
    rw [e] at k
    obtain ⟨k1, k2, k3, k4, k5⟩ := k
    have two : ∀ o, isB b L o o x.1 = true → ∀ q, LRk L b p (match sumS b L (sk b L (x.1 + 1)) with
      | .inl f => .inl f
      | .inr (p2, c2) => .inr (p2, x.2 ++ (c2 ++ [(q, 0)]))) := fun o ho q => by
      have hq := isB_t ho
      obtain ⟨s1, s2, -, s4⟩ := sk_p (b := b) (show x.1 + 1 ≤ L by omega)
      have j := sum_k s2 s4
      cases e2 : sumS b L (sk b L (x.1 + 1)) with
      | inl f => rw [e2] at j; exact ⟨by have := j.1; omega, j.2⟩
      | inr y =>
        rw [e2] at j
        obtain ⟨j1, j2, j3, j4, j5⟩ := j
        refine ⟨by omega, j2, j3, ?_, ?_⟩
        · simp only [List.length_append, List.length_cons, List.length_nil]; omega
        · simp only [List.length_append, List.length_cons, List.length_nil]; omega
    dsimp only
    split
    · rename_i q; exact two 60 q 12
    split
    · rename_i q; exact two 62 q 13
    · exact ⟨by omega, k2, k3⟩
theorem leaf_k {p : Nat} (hpL : p ≤ L) (hs : sk b L p = p) : LRk L b p (leafS b L p) := by
  unfold leafS
  split
  · rename_i j hj
    obtain ⟨f1, f2, -⟩ := tag_l hpL hj
    obtain ⟨s1, s2, -, s4⟩ := sk_p (b := b) f2
    show p < sk b L (lw b L p) ∧ _ ∧ _ ∧ p + 1 ≤ _ ∧ 1 ≤ 1
    exact ⟨by omega, s2, s4, by omega, by omega⟩
  · exact cmp_k hpL hs
theorem allR_k {p0 : Nat} {A : Nat → LR} (hA : ∀ p, p ≤ L → sk b L p = p → LRk L b p (A p)) : ∀ m p l, p0 < p → p ≤ L → sk b L p = p → p0 + l.length ≤ p → 1 ≤ l.length → LRk L b p0 (allR b L A m p l) := by
  intro m
  induction m with
  | zero => intro p l h1 h2 h3 h4 h5; exact ⟨h1, h2, h3, h4, h5⟩
  | succ m ih =>
    intro p l h1 h2 h3 h4 h5
    rw [allR]
    split
    · rename_i q
      have hq := wd_p h2 q
      rw [tl_20] at hq ⊢
      obtain ⟨s1, s2, -, s4⟩ := sk_p (b := b) (show p + 3 ≤ L by omega)
      have k := hA _ s2 s4
      cases e : A (sk b L (p + 3)) with
      | inl f => rw [e] at k; exact ⟨by have := k.1; omega, k.2⟩
      | inr x =>
        rw [e] at k
        obtain ⟨k1, k2, k3, k4, k5⟩ := k
        refine ih x.1 _ (by omega) k2 k3 ?_ ?_
        · simp only [List.length_append, List.length_cons, List.length_nil]; omega
        · simp only [List.length_append, List.length_cons, List.length_nil]; omega
    · exact ⟨h1, h2, h3, h4, h5⟩
theorem all_k {A : Nat → LR} (hA : ∀ p, p ≤ L → sk b L p = p → LRk L b p (A p)) {p : Nat} (hpL : p ≤ L) (hs : sk b L p = p) : LRk L b p (allF b L A p) := by
  have k := hA p hpL hs
  unfold allF
  cases e : A p with
  | inl f => rw [e] at k; exact k
  | inr x =>
    rw [e] at k
    obtain ⟨k1, k2, k3, k4, k5⟩ := k
    exact allR_k hA L x.1 x.2 k1 k2 k3 k4 k5
theorem condR_k {p0 : Nat} {A : Nat → LR} (hA : ∀ p, p ≤ L → sk b L p = p → LRk L b p (A p)) : ∀ m p l, p0 < p → p ≤ L → sk b L p = p → p0 + l.length ≤ p → 1 ≤ l.length → LRk L b p0 (condR b L A m p l) := by
  intro m
  induction m with
  | zero => intro p l h1 h2 h3 h4 h5; exact ⟨h1, h2, h3, h4, h5⟩
  | succ m ih =>
    intro p l h1 h2 h3 h4 h5
    rw [condR]
    split
    · rename_i q
      have hq := wd_p h2 q
      rw [tl_21] at hq ⊢
      obtain ⟨s1, s2, -, s4⟩ := sk_p (b := b) (show p + 2 ≤ L by omega)
      have k := all_k hA s2 s4
      cases e : allF b L A (sk b L (p + 2)) with
      | inl f => rw [e] at k; exact ⟨by have := k.1; omega, k.2⟩
      | inr x =>
        rw [e] at k
        obtain ⟨k1, k2, k3, k4, k5⟩ := k
        refine ih x.1 _ (by omega) k2 k3 ?_ ?_
        · simp only [List.length_append, List.length_cons, List.length_nil]; omega
        · simp only [List.length_append, List.length_cons, List.length_nil]; omega
    · exact ⟨h1, h2, h3, h4, h5⟩
theorem cond_k {A : Nat → LR} (hA : ∀ p, p ≤ L → sk b L p = p → LRk L b p (A p)) {p : Nat} (hpL : p ≤ L) (hs : sk b L p = p) : LRk L b p (condF b L A p) := by
  have k := all_k hA hpL hs
  unfold condF
  cases e : allF b L A p with
  | inl f => rw [e] at k; exact k
  | inr x =>
    rw [e] at k
    obtain ⟨k1, k2, k3, k4, k5⟩ := k
    exact condR_k hA L x.1 x.2 k1 k2 k3 k4 k5
theorem atom_k : ∀ k p, p ≤ L → sk b L p = p → LRk L b p (atomS b L k p) := by
  intro k
  induction k with
  | zero =>
    intro p hpL hs
    rw [atomS]
    split
    · exact ⟨Nat.le_refl _, hpL, hs⟩
    split
    · exact ⟨Nat.le_refl _, hpL, hs⟩
    · exact leaf_k hpL hs
  | succ k ih =>
    intro p hpL hs
    rw [atomS]
    split
    · rename_i q
      have hq := isB_t q
      obtain ⟨s1, s2, -, s4⟩ := sk_p (b := b) (show p + 1 ≤ L by omega)
      have j := cond_k ih s2 s4
      unfold brkS
      cases e : condF b L (atomS b L k) (sk b L (p + 1)) with
      | inl f => rw [e] at j; exact ⟨by have := j.1; omega, j.2⟩
      | inr x =>
        rw [e] at j
        obtain ⟨k1, k2, k3, k4, k5⟩ := j
        dsimp only
        split
        · rename_i q2
          have hq2 := isB_t q2
          obtain ⟨r1, r2, -, r4⟩ := sk_p (b := b) (show x.1 + 1 ≤ L by omega)
          exact ⟨by omega, r2, r4, by omega, k5⟩
        · exact ⟨by omega, k2, k3⟩
    split
    · rename_i q
      have hq := wd_p hpL q
      rw [tl_13] at hq ⊢
      obtain ⟨s1, s2, -, s4⟩ := sk_p (b := b) (show p + 3 ≤ L by omega)
      have j := ih _ s2 s4
      unfold notS
      cases e : atomS b L k (sk b L (p + 3)) with
      | inl f => rw [e] at j; exact ⟨by have := j.1; omega, j.2⟩
      | inr x =>
        rw [e] at j
        obtain ⟨k1, k2, k3, k4, k5⟩ := j
        refine ⟨by omega, k2, k3, ?_, ?_⟩
        · simp only [List.length_append, List.length_cons, List.length_nil]; omega
        · simp only [List.length_append, List.length_cons, List.length_nil]; omega
    · exact leaf_k hpL hs
end LK
