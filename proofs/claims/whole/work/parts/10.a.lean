/-! ALL OF IT: THE CLASS AND THE REFERENCE SIDE BY SIDE -/
def RLb (y : Nat) (s : mS) (f : Nat → Int32) : Prop := (f 2 = nI 0 ∧ s.1 y 0 = -nI 1) ∨ (f 2 = nI 1 ∧ ∃ n, n ≤ 12 ∧ f 770 = nI n ∧ s.1 y 0 = nI n ∧ ∀ c, c < n → s.1 (y + 1) c = f (771 + 4 * c) ∧ s.1 (y + 2) c = f (771 + 4 * c + 1) ∧ s.1 (y + 3) c = f (771 + 4 * c + 3) ∧ ∀ j, j < lE f c → s.1 (y + 4) j = cEnc (lOp f j) (f (819 + 2 * j + 1)))
theorem RLb_3 {s : mS} {f : Nat → Int32} : RLb 3 s f ↔ RLw s f := Iff.rfl
def hAct (s : mS) (p : Nat) : Nat → Int32 := fun j => if j < 770 then s.1 517 (770 * p + j) else s.1 513 j
/-- a byte, as the reference has it -/
def sx (b : Nat) : Int32 := if b < 128 then nI b else nI b - nI 256
def GT (s : mS) : Prop := ∃ L, L ≤ 400 ∧ s.1 1 1 = nI L ∧ s.1 1 2 = nI 0 ∧ s.1 512 9 = nI L ∧ ∀ i, i < L → ∃ b, b < 256 ∧ s.1 2 i = nI b ∧ s.1 518 i = sx b
def GW (B : Nat) (s : mS) : Prop := RW s 26 (s.1 513) ∧ RLw s (s.1 513) ∧ ∃ T, T ≤ B ∧ IA T (s.1 513)
def GI (B : Nat) (s : mS) : Prop := (s.1 0 12 = nI 0 ∧ s.1 512 6 = nI 0) ∨ (s.1 0 12 = nI 1 ∧ s.1 512 6 = nI 1 ∧ RW s 90 (s.1 514) ∧ RLb 10 s (s.1 514) ∧ ∃ T, T ≤ B ∧ IA T (s.1 514))
def GA (B : Nat) (s : mS) : Prop := ∃ r x, r ≤ 12 ∧ x < 12 ∧ s.1 0 11 = nI r ∧ s.1 512 7 = nI r ∧ s.1 0 10 = nI x ∧ ∀ d, d < r → RW s (128 + 32 * ((x + 11 - d) % 12)) (hAct s (r - 1 - d)) ∧ s.1 517 (770 * (r - 1 - d) + 2) = s.1 513 2 ∧ ∃ T, T ≤ B ∧ IA T (hAct s (r - 1 - d))
def IUH (B : Nat) (f : Nat → Int32) : Prop := IU B f ∧ IH f
def GU (B : Nat) (s : mS) : Prop := IUH B (s.1 513) ∧ (s.1 512 6 = nI 1 → IUH B (s.1 514)) ∧ ∀ r, r ≤ 12 → s.1 512 7 = nI r → ∀ p, p < r → IUH B (hAct s p)
def G (B : Nat) (s : mS) : Prop := GW B s ∧ GI B s ∧ GA B s ∧ GT s ∧ s.1 0 13 = s.1 512 14 ∧ GU B s
theorem RW_s25 {s s' : mS} {a : Nat} {f : Nat → Int32} (h : RW s a f) (hw : IW f) (hc : ∀ b, a ≤ b → b < a + 32 → b ≠ a + 25 → s'.1 b = s.1 b) : RW s' a f := by
  obtain ⟨h1, h2, h3, h4, h5, h6, h7, h8, h9, h10⟩ := h
  refine ⟨RS_c h1 hw (fun b x y => hc b (by omega) (by omega) (by omega)) (fun _ _ _ => rfl) (fun _ _ => rfl), RC_c h2 (fun b x y => hc b (by omega) (by omega) (by omega)) rfl (fun _ _ _ => rfl), RK_c h3 (fun b x y => hc b (by omega) (by omega) (by omega)) (fun _ _ _ => rfl), RLg_c h4 (fun b x y => hc b (by omega) (by omega) (by omega)) rfl (fun _ _ _ => rfl), RH_c h5 (fun b x y => hc b (by omega) (by omega) (by omega)) rfl (fun _ _ _ => rfl), ?_, ?_, ?_, ?_, ?_⟩ <;> rw [hc a (by omega) (by omega) (by omega)] <;> assumption
/-- nothing that counts has changed -/
def Gq (s s' : mS) : Prop := (∀ b, b ≠ 8 → b ≠ 9 → b ≠ 51 → ¬ (15 ≤ b ∧ b < 26) → ¬ (58 ≤ b ∧ b < 90) → ¬ (122 ≤ b ∧ b < 127) → b ≠ 512 → b ≠ 515 → b ≠ 516 → b < 519 → s'.1 b = s.1 b) ∧ (∀ j, j = 6 ∨ j = 7 ∨ j = 9 ∨ j = 14 → s'.1 512 j = s.1 512 j)
theorem Gq_r {s : mS} : Gq s s := ⟨fun _ _ _ _ _ _ _ _ _ _ _ => rfl, fun _ _ => rfl⟩
theorem Gq_t {s s' s'' : mS} (h : Gq s s') (h2 : Gq s' s'') : Gq s s'' := ⟨fun b a1 a2 a3 a4 a5 a6 a7 a8 a9 a10 => (h2.1 b a1 a2 a3 a4 a5 a6 a7 a8 a9 a10).trans (h.1 b a1 a2 a3 a4 a5 a6 a7 a8 a9 a10), fun j hj => (h2.2 j hj).trans (h.2 j hj)⟩
theorem Gq_1 {s s' : mS} (h : s'.1 = s.1) : Gq s s' := ⟨fun b _ _ _ _ _ _ _ _ _ _ => by rw [h], fun j _ => by rw [h]⟩
theorem Gq_I {s : mS} {a k : Nat} {x : Int32} (h : a = 8 ∨ a = 9 ∨ a = 51 ∨ (15 ≤ a ∧ a < 26) ∨ (58 ≤ a ∧ a < 90) ∨ (122 ≤ a ∧ a < 127) ∨ a = 515 ∨ a = 516 ∨ 519 ≤ a) : Gq s (sI s a k x) := ⟨fun b _ _ _ _ _ _ _ _ _ _ => sI_fn (by omega), fun j _ => by rw [sI_fn (by omega)]⟩
theorem Gq_512 {s : mS} {k : Nat} {x : Int32} (h : k ≠ 6 ∧ k ≠ 7 ∧ k ≠ 9 ∧ k ≠ 14) : Gq s (sI s 512 k x) := ⟨fun b _ _ _ _ _ _ _ _ _ _ => sI_fn (by omega), fun j _ => by rw [sI_sm, ud_n (by omega)]⟩
theorem Gq_q {s s' : mS} (h : Fq s s') : Gq s s' := ⟨fun b x y _ _ _ _ _ _ _ _ => h.1 b x y, fun j _ => by rw [h.1 512 (by omega) (by omega)]⟩
theorem Gq_520 {s s' : mS} (h : F1 520 s s') : Gq s s' := ⟨fun b _ _ _ _ _ _ _ _ _ x => h.1 b (by omega), fun j _ => by rw [h.1 512 (by omega)]⟩
theorem Gq_58 {s s' : mS} (h : Fw 58 s s') : Gq s s' := ⟨fun b x y _ _ z _ _ _ _ _ => h.1 b (by omega) x y, fun j _ => by rw [h.1 512 (by omega) (by omega) (by omega)]⟩
theorem G_c {B : Nat} {s s' : mS} (hG : G B s) (h : Gq s s') : G B s' := by
  obtain ⟨⟨w1, w2, T, hT, w3⟩, hI, ⟨r, x, r1, r2, r3, r4, r5, r6⟩, ⟨L, t1, t2, t3, t4, t5⟩, hF, hU⟩ := hG
  have c : ∀ b, b ≠ 8 → b ≠ 9 → b ≠ 51 → ¬ (15 ≤ b ∧ b < 26) → ¬ (58 ≤ b ∧ b < 90) → ¬ (122 ≤ b ∧ b < 127) → b ≠ 512 → b ≠ 515 → b ≠ 516 → b < 519 → s'.1 b = s.1 b := h.1
  have e513 : s'.1 513 = s.1 513 := c 513 (by omega) (by omega) (by omega) (by omega) (by omega) (by omega) (by omega) (by omega) (by omega) (by omega)
  have e514 : s'.1 514 = s.1 514 := c 514 (by omega) (by omega) (by omega) (by omega) (by omega) (by omega) (by omega) (by omega) (by omega) (by omega)
  have e517 : s'.1 517 = s.1 517 := c 517 (by omega) (by omega) (by omega) (by omega) (by omega) (by omega) (by omega) (by omega) (by omega) (by omega)
  have e0 : s'.1 0 = s.1 0 := c 0 (by omega) (by omega) (by omega) (by omega) (by omega) (by omega) (by omega) (by omega) (by omega) (by omega)
  have e1 : s'.1 1 = s.1 1 := c 1 (by omega) (by omega) (by omega) (by omega) (by omega) (by omega) (by omega) (by omega) (by omega) (by omega)
  have e2 : s'.1 2 = s.1 2 := c 2 (by omega) (by omega) (by omega) (by omega) (by omega) (by omega) (by omega) (by omega) (by omega) (by omega)
  have e518 : s'.1 518 = s.1 518 := c 518 (by omega) (by omega) (by omega) (by omega) (by omega) (by omega) (by omega) (by omega) (by omega) (by omega)
  have eA : ∀ p, hAct s' p = hAct s p := fun p => by unfold hAct; rw [e517, e513]
  refine ⟨⟨?_, ?_, T, hT, by rw [e513]; exact w3⟩, ?_, ⟨r, x, r1, r2, by rw [e0]; exact r3, by rw [h.2 7 (by omega)]; exact r4, by rw [e0]; exact r5, fun d hd => ?_⟩, ⟨L, t1, by rw [e1]; exact t2, by rw [e1]; exact t3, by rw [h.2 9 (by omega)]; exact t4, fun i hi => by rw [e2, e518]; exact t5 i hi⟩, by rw [e0, h.2 14 (by omega)]; exact hF, by rw [e513]; exact hU.1, by rw [e514, h.2 6 (by omega)]; exact hU.2.1, fun r hr e p hp => by rw [eA]; exact hU.2.2 r hr (by rw [← h.2 7 (by omega)]; exact e) p hp⟩
  · rw [e513]; exact RW_s25 w1 w3.1.1.1 (fun b x y z => c b (by omega) (by omega) (by omega) (by omega) (by omega) (by omega) (by omega) (by omega) (by omega) (by omega))
  · rw [e513]; exact RLw_c w3.1.2.2.1 rfl (fun _ _ _ => rfl) (fun b x y => c b (by omega) (by omega) (by omega) (by omega) (by omega) (by omega) (by omega) (by omega) (by omega) (by omega)) w2
  · rcases hI with ⟨i1, i2⟩ | ⟨i1, i2, i3, i4, T', hT', i5⟩
    · exact Or.inl ⟨by rw [e0]; exact i1, by rw [h.2 6 (by omega)]; exact i2⟩
    · refine Or.inr ⟨by rw [e0]; exact i1, by rw [h.2 6 (by omega)]; exact i2, ?_, ?_, T', hT', by rw [e514]; exact i5⟩
      · rw [e514]; exact RW_s25 i3 i5.1.1.1 (fun b x y z => c b (by omega) (by omega) (by omega) (by omega) (by omega) (by omega) (by omega) (by omega) (by omega) (by omega))
      · have q : ∀ b, 10 ≤ b → b < 15 → s'.1 b = s.1 b := fun b x y => c b (by omega) (by omega) (by omega) (by omega) (by omega) (by omega) (by omega) (by omega) (by omega) (by omega)
        unfold RLb at i4 ⊢
        rw [e514, q 10 (by omega) (by omega), q (10 + 1) (by omega) (by omega), q (10 + 2) (by omega) (by omega), q (10 + 3) (by omega) (by omega), q (10 + 4) (by omega) (by omega)]
        exact i4
  · obtain ⟨q1, q2, T', hT', q3⟩ := r6 d hd
    refine ⟨?_, by rw [e517, e513]; exact q2, T', hT', by rw [eA]; exact q3⟩
    rw [eA]; exact RW_s25 q1 q3.1.1.1 (fun b x y z => c b (by omega) (by omega) (by omega) (by omega) (by omega) (by omega) (by omega) (by omega) (by omega) (by omega))
/-- of the rest of the state, the reference writes its row of chances (523) alone -/
def Lq (t t' : mS) : Prop := t'.2.2 = t.2.2 ∧ ∀ b, b ≠ 523 → t'.2.1 b = t.2.1 b
theorem Lq_e {t t' : mS} (h : t'.2 = t.2) : Lq t t' := ⟨by rw [h], fun b _ => by rw [h]⟩
/-- a call whose answers are alike; the second kind may throw -/
def ZN (B : Nat) (qc qm : mS → Option mQ) (s : mS) : Prop := ∃ v s1, qc s = rv v s1 ∧ s1.2 = s.2 ∧ ∀ t : mS, t.1 = s1.1 → ∃ t', qm t = rv v t' ∧ Lq t t' ∧ G B t'
def ZV (B : Nat) (cat : List (Nat × Nat × Int)) (qc qm : mS → Option mQ) (s : mS) : Prop := ∃ v s1, qc s = rv v s1 ∧ s1.2 = s.2 ∧ ∀ t : mS, t.1 = s1.1 → ∃ t', qm t = rv v t' ∧ Lq t t' ∧ t'.1 512 0 = nI 0 ∧ G B t'
def ZX (B : Nat) (cat : List (Nat × Nat × Int)) (qc qm : mS → Option mQ) (s : mS) : Prop := ∃ x u w c s1, qc s = rx x s1 ∧ s1.2 = s.2 ∧ cat.find? (fun q => q.1 == x) = some (u, w, ((c : Nat) : Int)) ∧ 1 ≤ c ∧ c ≤ 3 ∧ ∀ t : mS, t.1 = s1.1 → ∃ v t', qm t = rv v t' ∧ Lq t t' ∧ t'.1 512 0 = nI c ∧ G B t'
def ZT (B : Nat) (cat : List (Nat × Nat × Int)) (qc qm : mS → Option mQ) (s : mS) : Prop := ZV B cat qc qm s ∨ ZX B cat qc qm s
/-- an int is below 0, at least n, or a number below n -/
theorem ix_of (v : Int32) (n : Nat) (hn : n < 2147483648) : v < nI 0 ∨ nI n ≤ v ∨ ∃ j, j < n ∧ v = nI j := pk_ix v hn
theorem lt0 {j : Nat} (h : j < 2147483648) : (nI j < nI 0) = False := eq_false (nI_pos h)
/-- where both only look -/
theorem ZN_look {B : Nat} {qc qm : mS → Option mQ} {s : mS} {v : Int32} (hG : G B s) {s1 : mS} (h1 : qc s = rv v s1) (h2 : s1.2 = s.2) (h3 : Gq s s1) (h4 : ∀ t : mS, t.1 = s1.1 → ∃ t', qm t = rv v t' ∧ t'.2 = t.2 ∧ Gq t t') : ZN B qc qm s := by
  refine ⟨v, s1, h1, h2, fun t ht => ?_⟩
  obtain ⟨t', k1, k2, k3⟩ := h4 t ht
  exact ⟨t', k1, Lq_e k2, G_c (G_c (G_c hG h3) (Gq_1 ht)) k3⟩
theorem ZV_look {B : Nat} {cat : List (Nat × Nat × Int)} {qc qm : mS → Option mQ} {s : mS} {v : Int32} (hG : G B s) {s1 : mS} (h1 : qc s = rv v s1) (h2 : s1.2 = s.2) (h3 : Gq s s1) (h4 : ∀ t : mS, t.1 = s1.1 → ∃ t', qm t = rv v t' ∧ t'.2 = t.2 ∧ t'.1 512 0 = nI 0 ∧ Gq t t') : ZT B cat qc qm s := by
  refine Or.inl ⟨v, s1, h1, h2, fun t ht => ?_⟩
  obtain ⟨t', k1, k2, k3, k4⟩ := h4 t ht
  exact ⟨t', k1, Lq_e k2, k3, G_c (G_c (G_c hG h3) (Gq_1 ht)) k4⟩
theorem ZX_look {B : Nat} {cat : List (Nat × Nat × Int)} {qc qm : mS → Option mQ} {s : mS} {x u w c : Nat} (hG : G B s) (h1 : qc s = rx x s) (hc : cat.find? (fun q => q.1 == x) = some (u, w, ((c : Nat) : Int))) (hc1 : 1 ≤ c) (hc3 : c ≤ 3) (h4 : ∀ t : mS, t.1 = s.1 → ∃ v t', qm t = rv v t' ∧ t'.2 = t.2 ∧ t'.1 512 0 = nI c ∧ Gq t t') : ZT B cat qc qm s := by
  refine Or.inr ⟨x, u, w, c, s, h1, rfl, hc, hc1, hc3, fun t ht => ?_⟩
  obtain ⟨v, t', k1, k2, k3, k4⟩ := h4 t ht
  exact ⟨v, t', k1, Lq_e k2, k3, G_c (G_c hG (Gq_1 ht)) k4⟩
