/-! ACTS: THE WORLD CHANGES -/
theorem IUH_mo {B B' : Nat} {f : Nat → Int32} (h : IUH B f) (hB : B ≤ B') : IUH B' f := ⟨IU_mo h.1 hB, h.2⟩
def Gw (s s' : mS) : Prop := (∀ b, b ≠ 8 → b ≠ 9 → ¬ (15 ≤ b ∧ b < 90) → ¬ (122 ≤ b ∧ b < 127) → b ≠ 512 → b ≠ 513 → b ≠ 515 → b ≠ 516 → b < 519 → s'.1 b = s.1 b) ∧ (∀ j, j = 6 ∨ j = 7 ∨ j = 9 ∨ j = 14 → s'.1 512 j = s.1 512 j)
theorem Gw_t {s s' s'' : mS} (h : Gw s s') (h2 : Gw s' s'') : Gw s s'' := ⟨fun b a1 a2 a3 a4 a5 a6 a7 a8 a9 => (h2.1 b a1 a2 a3 a4 a5 a6 a7 a8 a9).trans (h.1 b a1 a2 a3 a4 a5 a6 a7 a8 a9), fun j hj => (h2.2 j hj).trans (h.2 j hj)⟩
theorem Gw_q {s s' : mS} (h : Gq s s') : Gw s s' := ⟨fun b a1 a2 a3 a4 a5 a6 a7 a8 a9 => h.1 b a1 a2 (by omega) (by omega) (by omega) a4 a5 a7 a8 a9, h.2⟩
theorem Gw_26 {s s' : mS} (h : Fw 26 s s') : Gw s s' := ⟨fun b a1 a2 a3 _ _ _ _ _ _ => h.1 b (by omega) a1 a2, fun j _ => by rw [h.1 512 (by omega) (by omega) (by omega)]⟩
theorem Gw_I {s : mS} {a k : Nat} {x : Int32} (h : (15 ≤ a ∧ a < 90) ∨ a = 513) : Gw s (sI s a k x) := ⟨fun b _ _ _ _ _ _ _ _ _ => sI_fn (by omega), fun j _ => by rw [sI_fn (by omega)]⟩
theorem G_w {B B' : Nat} {s s' : mS} (hG : G B s) (hB : B ≤ B') (h : Gw s s') (hW : GW B' s') (hU : IUH B' (s'.1 513)) (h2 : ∀ j, j = 2 ∨ 770 ≤ j → s'.1 513 j = s.1 513 j) : G B' s' := by
  obtain ⟨-, hI, ⟨r, x, r1, r2, r3, r4, r5, r6⟩, ⟨L, t1, t2, t3, t4, t5⟩, hF, hU0⟩ := hG
  have c : ∀ b, b ≠ 8 → b ≠ 9 → ¬ (15 ≤ b ∧ b < 90) → ¬ (122 ≤ b ∧ b < 127) → b ≠ 512 → b ≠ 513 → b ≠ 515 → b ≠ 516 → b < 519 → s'.1 b = s.1 b := h.1
  have e514 : s'.1 514 = s.1 514 := c 514 (by omega) (by omega) (by omega) (by omega) (by omega) (by omega) (by omega) (by omega) (by omega)
  have e517 : s'.1 517 = s.1 517 := c 517 (by omega) (by omega) (by omega) (by omega) (by omega) (by omega) (by omega) (by omega) (by omega)
  have e0 : s'.1 0 = s.1 0 := c 0 (by omega) (by omega) (by omega) (by omega) (by omega) (by omega) (by omega) (by omega) (by omega)
  have e1 : s'.1 1 = s.1 1 := c 1 (by omega) (by omega) (by omega) (by omega) (by omega) (by omega) (by omega) (by omega) (by omega)
  have e2 : s'.1 2 = s.1 2 := c 2 (by omega) (by omega) (by omega) (by omega) (by omega) (by omega) (by omega) (by omega) (by omega)
  have e518 : s'.1 518 = s.1 518 := c 518 (by omega) (by omega) (by omega) (by omega) (by omega) (by omega) (by omega) (by omega) (by omega)
  have eA : ∀ p, hAct s' p = hAct s p := fun p => by
    unfold hAct
    funext j
    rw [e517]
    split
    · rfl
    · exact h2 j (by omega)
  refine ⟨hW, ?_, ⟨r, x, r1, r2, by rw [e0]; exact r3, by rw [h.2 7 (by omega)]; exact r4, by rw [e0]; exact r5, fun d hd => ?_⟩, ⟨L, t1, by rw [e1]; exact t2, by rw [e1]; exact t3, by rw [h.2 9 (by omega)]; exact t4, fun i hi => by rw [e2, e518]; exact t5 i hi⟩, by rw [e0, h.2 14 (by omega)]; exact hF, hU, by rw [e514, h.2 6 (by omega)]; exact fun q => IUH_mo (hU0.2.1 q) hB, fun r hr e p hp => by rw [eA]; exact IUH_mo (hU0.2.2 r hr (by rw [← h.2 7 (by omega)]; exact e) p hp) hB⟩
  · rcases hI with ⟨i1, i2⟩ | ⟨i1, i2, i3, i4, T', hT', i5⟩
    · exact Or.inl ⟨by rw [e0]; exact i1, by rw [h.2 6 (by omega)]; exact i2⟩
    · refine Or.inr ⟨by rw [e0]; exact i1, by rw [h.2 6 (by omega)]; exact i2, ?_, ?_, T', by omega, by rw [e514]; exact i5⟩
      · rw [e514]; exact RW_s25 i3 i5.1.1.1 (fun b x y z => c b (by omega) (by omega) (by omega) (by omega) (by omega) (by omega) (by omega) (by omega) (by omega))
      · have q : ∀ b, 10 ≤ b → b < 15 → s'.1 b = s.1 b := fun b x y => c b (by omega) (by omega) (by omega) (by omega) (by omega) (by omega) (by omega) (by omega) (by omega)
        unfold RLb at i4 ⊢
        rw [e514, q 10 (by omega) (by omega), q (10 + 1) (by omega) (by omega), q (10 + 2) (by omega) (by omega), q (10 + 3) (by omega) (by omega), q (10 + 4) (by omega) (by omega)]
        exact i4
  · obtain ⟨q1, q2, T', hT', q3⟩ := r6 d hd
    refine ⟨?_, by rw [e517, h2 2 (by omega)]; exact q2, T', by omega, by rw [eA]; exact q3⟩
    rw [eA]; exact RW_s25 q1 q3.1.1.1 (fun b x y z => c b (by omega) (by omega) (by omega) (by omega) (by omega) (by omega) (by omega) (by omega) (by omega))
section ACT
variable {B : Nat} {s : mS}
theorem RW_8 {s : mS} {a : Nat} {f : Nat → Int32} (h : RW s a f) (hw : IW f) (v : Int32) : RW (sI s a 12 v) a (upd f 8 v) := by
  obtain ⟨h1, h2, h3, h4, h5, h6, h7, h8, h9, h10⟩ := h
  have c : ∀ b, b ≠ a → (sI s a 12 v).1 b = s.1 b := fun b hb => sI_fn hb
  have g : ∀ j, j ≠ 8 → upd f 8 v j = f j := fun j hj => ud_n hj
  refine ⟨RS_c h1 hw (fun b x y => c b (by omega)) (fun j x y => g j (by omega)) (fun j x => g _ (by omega)), RC_c h2 (fun b x y => c b (by omega)) (g 0 (by omega)) (fun j x y => g j (by omega)), RK_c h3 (fun b x y => c b (by omega)) (fun j x y => g j (by omega)), RLg_c h4 (fun b x y => c b (by omega)) (g 6 (by omega)) (fun j x y => g j (by omega)), RH_c h5 (fun b x y => c b (by omega)) (g 7 (by omega)) (fun j x y => g j (by omega)), ?_, ?_, ?_, ?_, ?_⟩
  · rw [sI_sm, ud_n (by omega), g 3 (by omega)]; exact h6
  · rw [sI_sm, ud_n (by omega), g 4 (by omega)]; exact h7
  · rw [sI_sm, ud_n (by omega), g 5 (by omega)]; exact h8
  · rw [sI_sm, ud_e rfl, ud_e rfl]
  · rw [sI_sm, ud_n (by omega), g 1 (by omega)]; exact h10
theorem z_seed (hG : G B s) (v1 : Int32) : ZN B (q145 v1) (q338 v1) s := by
  have hG0 := hG
  obtain ⟨⟨hR, hL, T, hT, hA⟩, -, -, -, -, hU, -⟩ := hG0
  refine ⟨s.1 513 8, sI s 26 12 v1, ?_, Eq.trans rfl rfl, fun t ht => ?_⟩
  · unfold q145
    simp only [bx_e, sp_e]
    rw [hR.2.2.2.2.2.2.2.2.1]
  · have e5 : (sI t 512 0 (nI 0)).1 513 = s.1 513 := by rw [t0_513, ht, sI_fn (by omega)]
    refine ⟨sI (sI t 512 0 (nI 0)) 513 8 v1, ?_, Lq_e (Eq.trans rfl rfl), ?_⟩
    · unfold q338
      have hc : (nI 8).toNatClampNeg = 8 := nI_clp (by omega)
      simp (disch := omega) only [nI_lit, sp_e, bx_e, gA_ok, hc, e5]
    · have e513 : (sI (sI t 512 0 (nI 0)) 513 8 v1).1 513 = upd (s.1 513) 8 v1 := by rw [sI_sm, e5]
      have cc : ∀ b, b ≠ 512 → b ≠ 513 → (sI (sI t 512 0 (nI 0)) 513 8 v1).1 b = (sI s 26 12 v1).1 b := fun b h1 h2 => by rw [sI_fn h2, sI_fn h1, ht]
      refine G_w hG (Nat.le_refl B) ?_ ⟨?_, ?_, T, hT, ?_⟩ ?_ ?_
      · refine Gw_t (Gw_I (a := 26) (k := 12) (x := v1) (by omega)) (Gw_t (Gw_q (Gq_1 ht)) (Gw_t (Gw_q Gq_0) (Gw_I (by omega))))
      · rw [e513]
        exact RW_s (RW_8 hR hA.1.1.1 v1) (IA_8 hA v1).1.1.1 (fun b h1 h2 => cc b (by omega) (by omega))
      · rw [e513]
        exact RLw_c hA.1.2.2.1 (ud_n (by omega)) (fun j h1 h2 => ud_n (by omega)) (fun b x y => by rw [cc b (by omega) (by omega), sI_fn (by omega)]) hL
      · rw [e513]; exact IA_8 hA v1
      · rw [e513]; exact ⟨IU_c hU.1 (fun j a b => ud_n (by omega)), IH_c hU.2 (fun j hj => Or.inl (by unfold HX at hj; exact ud_n (by omega)))⟩
      · intro j hj; rw [e513]; exact ud_n (by omega)
end ACT
