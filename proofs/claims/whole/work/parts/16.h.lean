/-! ON EVERY SCRIPT THE LAW ANSWERS 1 -/
theorem hev_all : ∀ (L : Nat) (xs : Nat → Int32), L ≤ 3072 → ∃ (n : Nat) (h : mm_H), mm_ev (mm_B L xs mm_mc mm_na) mm_P mm_X n 60 372 0 [(0, .retAddr 1000000)] [] ([], true, 0, 0) = some (.inl (some (.int 1)), h) ∧ h.2.2.1 ≤ 601024 ∧ h.2.2.2 ≤ 7293034 := by
  intro L xs hL
  obtain ⟨s', e1, e2, e3⟩ := LOOP (xs := xs) hL 512 0 0 s0 (by omega) (by omega) G_00 (by omega)
  have e4 : Ev L xs 60 372 23 (lvB 0) [] (hS, true, 525, 30654) (hr (.inl (some 1), s')) := by rw [hS_e]; exact e1
  obtain ⟨n, hn⟩ := START e4
  refine ⟨n, hp s', hn, ?_, ?_⟩
  · show s'.2.2.2.1 ≤ 601024
    have : s0.2.2.2.1 = 525 := rfl
    omega
  · show s'.2.2.2.2 ≤ 7293034
    have : s0.2.2.2.2 = 30654 := rfl
    omega
