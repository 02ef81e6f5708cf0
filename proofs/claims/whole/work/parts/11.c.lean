/-! REMEMBER, BOTH -/
theorem p177 {s : mS} {x r : Nat} (hx : x < 12) (hr : r ≤ 12) (h10 : s.1 0 10 = nI x) (h11 : s.1 0 11 = nI r) {f : Nat → Int32} (hR : RW s 26 f) (hw : IW f) : ∃ s1, q177 s = ru s1 ∧ s1.2 = s.2 ∧ s1.1 0 10 = nI ((x + 1) % 12) ∧ s1.1 0 11 = nI (min 12 (r + 1)) ∧ (∀ j, j ≠ 10 → j ≠ 11 → s1.1 0 j = s.1 0 j) ∧ (∀ b, b ≠ 0 → (b < 128 + 32 * x ∨ 128 + 32 * x + 32 ≤ b) → s1.1 b = s.1 b) ∧ RW s1 (128 + 32 * x) f := by
  obtain ⟨s', k1, k2, k3⟩ := p111 (s := s) (a := 128 + 32 * x) (b := 26) (by omega)
  have e0 : s'.1 0 = s.1 0 := k3.1 0 (by omega)
  have h10' : s'.1 0 10 = nI x := by rw [e0]; exact h10
  have h11' : (sI s' 0 10 (nI ((x + 1) % 12))).1 0 11 = nI r := by rw [sI_sm, ud_n (by omega), e0]; exact h11
  refine ⟨sI (sI s' 0 10 (nI ((x + 1) % 12))) 0 11 (nI (min 12 (r + 1))), ?_, (Eq.trans rfl rfl : _ = s'.2).trans k3.2, ?_, ?_, ?_, ?_, ?_⟩
  · unfold q177
    have hc : (nI x).toNatClampNeg = x := nI_clp (by omega)
    simp (disch := omega) only [h10, hc, gA_ok]
    rw [k1, bM_ru, nI_lit, nI_lit, gZ_n (by omega) (by omega), sp_e, sp_e, h10', nI_add, nI_rem (by omega) (by omega) (by omega), h11', nI_add, mn_nI (by omega) (by omega)]
  · rw [sI_sm, ud_n (by omega), sI_sm, ud_e rfl]
  · rw [sI_sm, ud_e rfl]
  · intro j h1 h2; rw [sI_sm, ud_n h2, sI_sm, ud_n h1, e0]
  · intro b hb h; rw [sI_fn hb, sI_fn hb]; exact k3.1 b h
  · exact RW_s (k2 f hR) hw (fun b h1 h2 => by rw [sI_fn (by omega), sI_fn (by omega)])
/-- what the memory is, once both have put the world away -/
theorem GA_rem {B B' : Nat} {s s' : mS} {x r g : Nat} (hx : x < 12) (hr : r ≤ 12) (hB : B ≤ B')
    (h6 : ∀ d, d < r → RW s (128 + 32 * ((x + 11 - d) % 12)) (hAct s (r - 1 - d)) ∧ s.1 517 (770 * (r - 1 - d) + 2) = s.1 513 2 ∧ ∃ T, T ≤ B ∧ IA T (hAct s (r - 1 - d)))
    (hU : ∀ p, p < r → IUH B (hAct s p))
    {T : Nat} (hT : T ≤ B) (hA : IA T (s.1 513)) (hU0 : IUH B (s.1 513))
    (hg : g < 12) (g1 : r < 12 → g = r) (g2 : r = 12 → g = 11)
    (a11 : s'.1 0 11 = nI (g + 1)) (a7 : s'.1 512 7 = nI (g + 1)) (a10 : s'.1 0 10 = nI ((x + 1) % 12))
    (hW : RW s' (128 + 32 * x) (s.1 513)) (hc : ∀ b, 128 ≤ b → b < 512 → (b < 128 + 32 * x ∨ 128 + 32 * x + 32 ≤ b) → s'.1 b = s.1 b)
    (hl : ∀ j, j = 2 ∨ 770 ≤ j → s'.1 513 j = s.1 513 j)
    (hn : ∀ j, j < 770 → s'.1 517 (770 * g + j) = s.1 513 j) (ho : ∀ p j, p < g → j < 770 → s'.1 517 (770 * p + j) = s.1 517 (770 * (p + (r - g)) + j)) :
    GA B' s' ∧ ∀ r', r' ≤ 12 → s'.1 512 7 = nI r' → ∀ p, p < r' → IUH B' (hAct s' p) := by
  have eN : hAct s' g = s.1 513 := by
    funext j
    unfold hAct
    split
    · exact hn j (by omega)
    · exact hl j (by omega)
  have eO : ∀ p, p < g → hAct s' p = hAct s (p + (r - g)) := fun p hp => by
    funext j
    unfold hAct
    split
    · exact ho p j hp (by omega)
    · exact hl j (by omega)
  refine ⟨⟨g + 1, (x + 1) % 12, by omega, Nat.mod_lt _ (by omega), a11, a7, a10, fun d hd => ?_⟩, fun r' hr' e p hp => ?_⟩
  · rcases Nat.eq_zero_or_pos d with e | hd0
    · subst e
      have e1 : ((x + 1) % 12 + 11 - 0) % 12 = x := by omega
      rw [e1, show g + 1 - 1 - 0 = g by omega, eN]
      exact ⟨hW, by rw [hn 2 (by omega), hl 2 (by omega)], T, by omega, hA⟩
    · have e1 : ((x + 1) % 12 + 11 - d) % 12 = (x + 11 - (d - 1)) % 12 := by omega
      have e2 : g + 1 - 1 - d = g - d := by omega
      have e3 : g - d + (r - g) = r - 1 - (d - 1) := by omega
      obtain ⟨q1, q2, T', hT', q3⟩ := h6 (d - 1) (by omega)
      have hne : (x + 11 - (d - 1)) % 12 ≠ x := by omega
      have hlt : (x + 11 - (d - 1)) % 12 < 12 := Nat.mod_lt _ (by omega)
      rw [e1, e2, eO (g - d) (by omega), e3]
      refine ⟨?_, ?_, T', by omega, q3⟩
      · generalize (x + 11 - (d - 1)) % 12 = y at *
        exact RW_s q1 q3.1.1.1 (fun b h1 h2 => hc b (by omega) (by omega) (by omega))
      · rw [ho (g - d) 2 (by omega) (by omega), e3, q2, hl 2 (by omega)]
  · have : r' = g + 1 := (nI_eqv (by omega) (by omega)).mp (e.symm.trans a7)
    subst this
    by_cases e : p = g
    · subst e; rw [eN]; exact IUH_mo hU0 hB
    · rw [eO p (by omega)]; exact IUH_mo (hU _ (by omega)) hB
