/-- a row of code is as the tables have it; t: the throws of this method -/
def mm_rowb (t : List (Nat × Nat)) (own : Nat) (q : mm_I) : Bool := decide (q.2.2.2.2 ≠ 372) && (match q.2.1 with
  | .getfield i => decide ((i, q.2.2.2.1.toNat, q.2.2.2.2) ∈ mm_fl own) && decide (q.2.2.2.1.toNat < 12) && decide (q.2.2.2.2 < mm_nf q.2.2.2.1.toNat)
  | .putfield i => decide ((i, q.2.2.2.1.toNat, q.2.2.2.2) ∈ mm_fl own) && decide (q.2.2.2.1.toNat < 12) && decide (q.2.2.2.2 < mm_nf q.2.2.2.1.toNat)
  | .ldc i => if q.2.2.2.2 = 0 then decide ((own, i, q.2.2.2.1) ∈ mm_cs) else mm_strs.any (fun z => decide (z.1 = own ∧ z.2.1 = i ∧ z.2.2.2 + 1 = q.2.2.2.2))
  | .ldc_w i => if q.2.2.2.2 = 0 then decide ((own, i, q.2.2.2.1) ∈ mm_cs) else true
  | .ldc2_w i => decide (own = 11 ∧ i = 467 ∧ q.2.2.2.1 = 10000)
  | .new i => if q.2.2.2.1 = 0 then decide ((own, i, q.2.2.2.2) ∈ mm_ck) else decide ((q.2.2.2.2, q.1) ∈ t)
  | .anewarray i => decide (own = 10 ∧ i = 35)
  | .newarray a => decide (a = .int ∨ a = .byte ∨ a = .long)
  | .invokevirtual i => if q.2.2.2.1 = 0 then decide ((i, q.2.2.2.2) ∈ mm_ml own) && decide (mm_kd q.2.2.2.2 = 0) else if q.2.2.2.1 = 1 then decide ((own, i) ∈ mm_s1) else decide (q.2.2.2.1 = 2 ∧ (own, i) ∈ mm_s2)
  | .invokespecial i => if q.2.2.2.1 = 0 then (decide ((i, q.2.2.2.2) ∈ mm_ml own) || decide ((own, i, ((mm_info[q.2.2.2.2]?).map (fun z => z.1.1)).getD objectInit) ∈ mm_nest)) && decide (mm_kd q.2.2.2.2 = 2) else if q.2.2.2.1 = 1 then decide ((own, i) ∈ mm_ol) else true
  | .invokestatic i => if q.2.2.2.1 = 0 then decide ((i, q.2.2.2.2) ∈ mm_ml own) && decide (mm_kd q.2.2.2.2 = 1) else if q.2.2.2.1 = 1 then decide ((own, i) ∈ mm_al) else if q.2.2.2.1 = 2 then decide ((own, i) ∈ mm_x2) else decide (q.2.2.2.1 = 3 ∧ (own, i) ∈ mm_x3)
  | _ => true)
def mm_cok (M : mm_M) : Prop := ∀ q ∈ M.2.2.2.2.2.2.2.2, decode M.2.1 q.1 = .ok (q.2.1, q.2.2.1) ∧ mm_rowok M.2.2.2.2.1 q.2.1 q.2.2.2.1 q.2.2.2.2 ∧ (∀ i, q.2.1 = .new i → q.2.2.2.1 = 1 → mm_thrF M.2.1 M.2.2.2.2.1 q.1 (mm_X q.2.2.2.2) ∧ M.2.2.2.2.2.2.1 = []) ∧ ∀ Mj, mm_P q.2.2.2.2 = some Mj → mm_calok M.2.2.2.2.1 q.2.1 q.2.2.2.1 Mj (mm_mc q.2.2.2.2) (mm_na q.2.2.2.2) ∧ mm_mok Mj
theorem mm_deq_ok {x : Except DecodeError (Instr × Nat)} {i : Instr} {n : Nat} (h : mm_deq x i n = true) : x = .ok (i, n) := by
  unfold mm_deq at h
  split at h
  · rw [of_decide_eq_true h]
  · cases h
set_option maxHeartbeats 8000000 in
theorem mm_mk {M : mm_M} (t : List (Nat × Nat)) (hd : ∀ q ∈ M.2.2.2.2.2.2.2.2, mm_deq (decode M.2.1 q.1) q.2.1 q.2.2.1 = true) (hb : ∀ q ∈ M.2.2.2.2.2.2.2.2, mm_rowb t M.2.2.2.2.1 q = true) (ht : ∀ z ∈ t, mm_thrF M.2.1 M.2.2.2.2.1 z.2 (mm_X z.1) ∧ M.2.2.2.2.2.2.1 = []) : mm_cok M := by
  intro q hq
  have hb := hb q hq
  refine ⟨mm_deq_ok (hd q hq), ?_, ?_, ?_⟩
  · obtain ⟨pc, ins, len, r1, r2⟩ := q
    unfold mm_rowb at hb
    rw [Bool.and_eq_true] at hb
    obtain ⟨-, hb⟩ := hb
    cases ins <;> simp only [mm_rowok] <;> simp only at hb
    case getfield i =>
      rw [Bool.and_eq_true, Bool.and_eq_true] at hb
      exact ⟨mm_fl_ok _ _ (of_decide_eq_true hb.1.1), of_decide_eq_true hb.1.2, of_decide_eq_true hb.2⟩
    case putfield i =>
      rw [Bool.and_eq_true, Bool.and_eq_true] at hb
      exact ⟨mm_fl_ok _ _ (of_decide_eq_true hb.1.1), of_decide_eq_true hb.1.2, of_decide_eq_true hb.2⟩
    case ldc i =>
      refine ⟨fun h0 => ?_, fun k h0 => ?_⟩
      · rw [if_pos h0] at hb
        exact mm_cs_ok _ (of_decide_eq_true hb)
      · rw [if_neg (by omega)] at hb
        obtain ⟨z, hz, h1⟩ := List.any_eq_true.mp hb
        have h1 := of_decide_eq_true h1
        obtain ⟨z1, z2, z3, z4⟩ := z
        refine ⟨z3, ?_⟩
        have e1 : z1 = M.2.2.2.2.1 := h1.1
        have e2 : z2 = i := h1.2.1
        have e4 : z4 = k := by have := h1.2.2; dsimp only at this; omega
        rw [← e1, ← e2, ← e4]
        exact hz
    case ldc_w i =>
      intro h0
      rw [if_pos h0] at hb
      exact mm_cs_ok _ (of_decide_eq_true hb)
    case ldc2_w i =>
      obtain ⟨h1, h2, h3⟩ := of_decide_eq_true hb
      rw [h1, h2, h3]
      exact mm_cL
    case new i =>
      intro h0
      rw [if_pos h0] at hb
      exact mm_ck_ok _ (of_decide_eq_true hb)
    case anewarray i =>
      obtain ⟨h1, h2⟩ := of_decide_eq_true hb
      rw [h1, h2]
      exact mm_aw
    case newarray a =>
      rcases of_decide_eq_true hb with rfl | rfl | rfl
      · exact mm_a_int
      · exact mm_a_byte
      · exact mm_a_long
    case invokevirtual i =>
      refine ⟨fun h0 => ?_, fun h0 => ?_⟩
      · rw [if_neg (by omega), if_pos h0] at hb
        exact mm_s1_ok _ (of_decide_eq_true hb)
      · rw [if_neg (by omega), if_neg (by omega)] at hb
        exact mm_s2_ok _ (of_decide_eq_true hb).2
    case invokespecial i =>
      intro h0
      rw [if_neg (by omega), if_pos h0] at hb
      exact mm_ol_ok _ (of_decide_eq_true hb)
    case invokestatic i =>
      refine ⟨fun h0 => ?_, fun h0 => ?_, fun h0 => ?_⟩
      · rw [if_neg (by omega), if_pos h0] at hb
        exact mm_al_ok _ (of_decide_eq_true hb)
      · rw [if_neg (by omega), if_neg (by omega), if_pos h0] at hb
        exact mm_x2_ok _ (of_decide_eq_true hb)
      · rw [if_neg (by omega), if_neg (by omega), if_neg (by omega)] at hb
        exact mm_x3_ok _ (of_decide_eq_true hb).2
  · intro i hi h1
    obtain ⟨pc, ins, len, r1, r2⟩ := q
    dsimp only at hi h1
    subst hi
    unfold mm_rowb at hb
    rw [Bool.and_eq_true] at hb
    obtain ⟨-, hb⟩ := hb
    simp only at hb
    rw [if_neg (by omega)] at hb
    exact ht (r2, pc) (of_decide_eq_true hb)
  · intro Mj hj
    obtain ⟨pc, ins, len, r1, r2⟩ := q
    dsimp only at hj
    unfold mm_rowb at hb
    rw [Bool.and_eq_true] at hb
    obtain ⟨h374, hb⟩ := hb
    have hjo := mm_P_ok hj (of_decide_eq_true h374)
    refine ⟨?_, hjo.1⟩
    cases ins <;> simp only [mm_calok] <;> simp only at hb
    case invokevirtual i =>
      intro h0
      rw [if_pos h0, Bool.and_eq_true] at hb
      have hk := hjo.2.1 (of_decide_eq_true hb.2)
      exact ⟨mm_ml_ok _ _ (of_decide_eq_true hb.1) Mj hj, hk.1, hk.2.1, hk.2.2, hjo.2.2.2.2⟩
    case invokespecial i =>
      intro h0
      rw [if_pos h0, Bool.and_eq_true, Bool.or_eq_true] at hb
      have hk := hjo.2.2.2.1 (of_decide_eq_true hb.2)
      refine ⟨?_, hk.1, hk.2.1, hk.2.2.1, ⟨hk.2.2.2.1, hk.2.2.2.2⟩, hjo.2.2.2.2⟩
      rcases hb.1 with h1 | h1
      · exact Or.inl (mm_ml_ok _ _ (of_decide_eq_true h1) Mj hj)
      · refine Or.inr ?_
        have h2 := of_decide_eq_true h1
        try dsimp only at h2
        have h3 : ((mm_info[r2]?).map (fun z => z.1.1)).getD objectInit = Mj.1 := by
          unfold mm_P at hj
          rw [if_neg (of_decide_eq_true h374)] at hj
          cases hq9 : mm_info[r2]? with
          | none => rw [hq9] at hj; cases hj
          | some q9 =>
            rw [hq9] at hj
            have := Option.some.inj hj
            rw [← this]
            rfl
        rw [h3] at h2
        exact h2
    case invokestatic i =>
      intro h0
      rw [if_pos h0, Bool.and_eq_true] at hb
      have hk := hjo.2.2.1 (of_decide_eq_true hb.2)
      exact ⟨mm_ml_ok _ _ (of_decide_eq_true hb.1) Mj hj, hk, hjo.2.2.2.2⟩
