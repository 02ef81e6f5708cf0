/-! CUT: THE LEAST OF THEM -/
section LOOK
variable {B : Nat} {s : mS}
def pc (a : Nat) : Nat := (bc (nI a)).toNatClampNeg
theorem pc_e : ∀ a, a < 256 → bc (nI a) = nI (pc a) ∧ pc a ≤ 8 := by decide +kernel
def pb8 (x : Int32) : Nat := (bt x 0).toNat + (bt x 1).toNat + (bt x 2).toNat + (bt x 3).toNat + (bt x 4).toNat + (bt x 5).toNat + (bt x 6).toNat + (bt x 7).toNat
theorem pc_8 : ∀ a, a < 256 → pc a = pb8 (nI a) := by decide +kernel
theorem b_hi : ∀ a, a < 256 → ∀ j, j < 32 → 8 ≤ j → bt (nI a) j = false := by decide +kernel
theorem sub_eq {v r : Nat} (hv : v < 256) (hr : r < 256) (hs : ∀ j, bt (nI v) j = true → bt (nI r) j = true) (hp : pc v = pc r) : v = r := by
  rw [pc_8 v hv, pc_8 r hr] at hp
  have hle : ∀ j, (bt (nI v) j).toNat ≤ (bt (nI r) j).toNat := fun j => by
    cases e : bt (nI v) j
    · exact Nat.zero_le _
    · rw [hs j e]; exact Nat.le_refl _
  have hb : ∀ j, j < 8 → (bt (nI v) j).toNat = (bt (nI r) j).toNat := by
    unfold pb8 at hp
    have h0 := hle 0; have h1 := hle 1; have h2 := hle 2; have h3 := hle 3; have h4 := hle 4; have h5 := hle 5; have h6 := hle 6; have h7 := hle 7
    intro j hj
    rcases (by omega : j = 0 ∨ j = 1 ∨ j = 2 ∨ j = 3 ∨ j = 4 ∨ j = 5 ∨ j = 6 ∨ j = 7) with e | e | e | e | e | e | e | e <;> subst e <;> omega
  have : nI v = nI r := b_ext fun j hj => by
    by_cases h8 : j < 8
    · have := hb j h8
      cases e1 : bt (nI v) j <;> cases e2 : bt (nI r) j <;> rw [e1, e2] at this <;> first | rfl | cases this
    · rw [b_hi v hv j hj (by omega), b_hi r hr j hj (by omega)]
  exact (nI_eqv (by omega) (by omega)).mp this
theorem kk1 {A B X i b x : Nat} (h : A < B) (hi : i < 256) (h2 : B * 256 + b ≤ X * 256 + x) : A * 256 + i ≤ X * 256 + x := by
  have h3 : A * 256 + 256 ≤ B * 256 := by rw [← Nat.succ_mul]; exact Nat.mul_le_mul_right 256 h
  exact Nat.le_trans (Nat.le_trans (Nat.add_le_add_left (Nat.le_of_lt hi) _) (Nat.le_trans h3 (Nat.le_add_right _ b))) h2
theorem kk2 {A B X i b x : Nat} (h : A ≤ B) (hi : i ≤ b) (h2 : B * 256 + b ≤ X * 256 + x) : A * 256 + i ≤ X * 256 + x := Nat.le_trans (Nat.add_le_add (Nat.mul_le_mul_right 256 h) hi) h2
def cuK (a : Nat) : Nat := pc a * 256 + a
/-- taken from below, and from above -/
def cuU (P : Nat → Bool) (v b : Nat) : Nat := if (P v && decide (pc v < pc b)) = true then v else b
def cuD (P : Nat → Bool) (v b : Nat) : Nat := if (P v && decide (pc v ≤ pc b)) = true then v else b
theorem cuU_l {P : Nat → Bool} {r : Nat} (hr : r < 256) (hP : ∀ v, v < 256 → P v = true → pc v = pc r → v = r) : ∀ m i b, i + m = 256 → (b = r ∨ (b < i ∧ P b = true)) → (∀ x, x < 256 → (x = r ∨ (x < i ∧ P x = true)) → cuK b ≤ cuK x) → (fo (cuU P) m i b = r ∨ (fo (cuU P) m i b < 256 ∧ P (fo (cuU P) m i b) = true)) ∧ ∀ x, x < 256 → (x = r ∨ P x = true) → cuK (fo (cuU P) m i b) ≤ cuK x := by
  intro m
  induction m with
  | zero =>
    intro i b hi hb hx
    have : i = 256 := by omega
    subst this
    exact ⟨hb, fun x h1 h2 => hx x h1 (h2.imp id fun q => ⟨h1, q⟩)⟩
  | succ m ih =>
    intro i b hi hb hx
    rw [fo]
    have hi2 : i < 256 := by omega
    unfold cuU
    split
    · rename_i hc
      rw [Bool.and_eq_true] at hc
      have hlt := of_decide_eq_true hc.2
      refine ih (i + 1) i (by omega) (Or.inr ⟨by omega, hc.1⟩) (fun x h1 h2 => ?_)
      have hb256 : b < 256 := by rcases hb with e | ⟨e, -⟩ <;> omega
      by_cases e : x = i
      · subst e; exact Nat.le_refl _
      · have := hx x h1 (by rcases h2 with q | ⟨q1, q2⟩; exact Or.inl q; exact Or.inr ⟨by omega, q2⟩)
        exact kk1 hlt hi2 this
    · rename_i hc
      refine ih (i + 1) b (by omega) (by rcases hb with q | ⟨q1, q2⟩; exact Or.inl q; exact Or.inr ⟨by omega, q2⟩) (fun x h1 h2 => ?_)
      by_cases e : x = i
      · subst e
        rcases h2 with q | ⟨-, q2⟩
        · exact hx x h1 (Or.inl q)
        · have hge : ¬ pc x < pc b := fun hlt => hc (by rw [q2, decide_eq_true hlt]; rfl)
          by_cases heq : pc x = pc b
          · rcases hb with q | ⟨q1, -⟩
            · have := hP x h1 q2 (by rw [heq, q])
              rw [this, q]; exact Nat.le_refl _
            · unfold cuK; omega
          · have hb256 : b < 256 := by rcases hb with e | ⟨e, -⟩ <;> omega
            unfold cuK; omega
      · exact hx x h1 (by rcases h2 with q | ⟨q1, q2⟩; exact Or.inl q; exact Or.inr ⟨by omega, q2⟩)
theorem cuD_l {P : Nat → Bool} {r : Nat} (hr : r < 256) : ∀ m b, m ≤ r + 1 → (b = r ∨ (m ≤ b ∧ b < 256 ∧ P b = true)) → (∀ x, x < 256 → (x = r ∨ (m ≤ x ∧ P x = true ∧ x ≤ r)) → cuK b ≤ cuK x) → (fd (cuD P) m b = r ∨ (fd (cuD P) m b < 256 ∧ P (fd (cuD P) m b) = true)) ∧ ∀ x, x < 256 → (x = r ∨ (P x = true ∧ x ≤ r)) → cuK (fd (cuD P) m b) ≤ cuK x := by
  intro m
  induction m with
  | zero =>
    intro b hm hb hx
    exact ⟨hb.imp id fun q => q.2, fun x h1 h2 => hx x h1 (h2.imp id fun q => ⟨by omega, q⟩)⟩
  | succ m ih =>
    intro b hm hb hx
    rw [fd]
    have hb256 : b < 256 := by rcases hb with e | ⟨-, e, -⟩ <;> omega
    unfold cuD
    split
    · rename_i hc
      rw [Bool.and_eq_true] at hc
      have hle := of_decide_eq_true hc.2
      refine ih m (by omega) (Or.inr ⟨by omega, by omega, hc.1⟩) (fun x h1 h2 => ?_)
      by_cases e : x = m
      · subst e; exact Nat.le_refl _
      · have := hx x h1 (by rcases h2 with q | ⟨q1, q2⟩; exact Or.inl q; exact Or.inr ⟨by omega, q2⟩)
        have hmb : m ≤ b := by rcases hb with e | ⟨e, -⟩ <;> omega
        exact kk2 hle hmb this
    · rename_i hc
      refine ih b (by omega) (by rcases hb with q | ⟨q1, q2⟩; exact Or.inl q; exact Or.inr ⟨by omega, q2⟩) (fun x h1 h2 => ?_)
      by_cases e : x = m
      · subst e
        rcases h2 with q | ⟨-, q2, -⟩
        · exact hx x h1 (Or.inl q)
        · have hge : ¬ pc x ≤ pc b := fun hlt => hc (by rw [q2, decide_eq_true hlt]; rfl)
          unfold cuK; omega
      · exact hx x h1 (by rcases h2 with q | ⟨q1, q2⟩; exact Or.inl q; exact Or.inr ⟨by omega, q2⟩)
theorem cu_eq {P : Nat → Bool} {r : Nat} (hr : r < 256) (hP : ∀ v, v < 256 → P v = true → pc v = pc r → v = r) (hPr : ∀ v, v < 256 → P v = true → v ≤ r) : fo (cuU P) 256 0 r = fd (cuD P) (r + 1) r ∧ fd (cuD P) (r + 1) r < 256 := by
  obtain ⟨a1, a2⟩ := cuU_l hr hP 256 0 r (by omega) (Or.inl rfl) (fun x h1 h2 => by rcases h2 with e | ⟨e, -⟩; rw [e]; exact Nat.le_refl _; omega)
  obtain ⟨b1, b2⟩ := cuD_l (P := P) hr (r + 1) r (by omega) (Or.inl rfl) (fun x h1 h2 => by rcases h2 with e | ⟨e1, -, e2⟩; rw [e]; exact Nat.le_refl _; omega)
  have ha : fo (cuU P) 256 0 r < 256 := by rcases a1 with e | ⟨e, -⟩; rw [e]; exact hr; exact e
  have hb : fd (cuD P) (r + 1) r < 256 := by rcases b1 with e | ⟨e, -⟩; rw [e]; exact hr; exact e
  refine ⟨?_, hb⟩
  have h1 := a2 _ hb (b1.imp id fun q => q.2)
  have h2 := b2 _ ha (a1.imp id fun q => ⟨q.2, hPr _ q.1 q.2⟩)
  unfold cuK at h1 h2
  omega
end LOOK
