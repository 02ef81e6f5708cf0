/-! THE EVALUATOR AS A RELATION: fuel and depth may grow -/
section MME
variable {B : mm_T} {P : Nat → Option mm_M} {X : Nat → Nat}
theorem mm_ev_more : ∀ (n d mi pc : Nat) (lv : mm_L) (st : List Value) (h : mm_H) (r : mm_R), mm_ev B P X n d mi pc lv st h = some r → mm_ev B P X (n + 1) d mi pc lv st h = some r := by
  intro n
  induction n with
  | zero => intro d mi pc lv st h r hr; simp [mm_ev] at hr
  | succ n ih =>
    intro d mi pc lv st h r hr
    unfold mm_ev at hr ⊢
    split at hr
    · cases hr
    rename_i hM
    rw [hM]
    dsimp only
    split at hr
    · cases hr
    rename_i hf
    rw [hf]
    dsimp only
    split at hr
    · cases hr
    · rename_i hs
      rw [hs]
      exact ih _ _ _ _ _ _ _ hr
    · rename_i hs
      rw [hs]
      exact hr
    · rename_i hs
      rw [hs]
      dsimp only
      split at hr
      · cases hr
      · rename_i d'
        dsimp only
        split at hr
        · cases hr
        rename_i hMj
        rw [hMj]
        dsimp only
        split at hr
        · rename_i hlen
          rw [if_pos hlen]
          split at hr
          · cases hr
          · rename_i he
            rw [ih _ _ _ _ _ _ _ he]
            exact ih _ _ _ _ _ _ _ hr
          · rename_i he
            rw [ih _ _ _ _ _ _ _ he]
            exact hr
        · cases hr
    · rename_i hs
      rw [hs]
      exact hr
theorem mm_ev_add {n d mi pc : Nat} {lv : mm_L} {st : List Value} {h : mm_H} {r : mm_R} (hr : mm_ev B P X n d mi pc lv st h = some r) : ∀ k, mm_ev B P X (n + k) d mi pc lv st h = some r
  | 0 => hr
  | k + 1 => mm_ev_more _ _ _ _ _ _ _ _ (mm_ev_add hr k)
theorem mm_ev_ge {n m d mi pc : Nat} {lv : mm_L} {st : List Value} {h : mm_H} {r : mm_R} (hr : mm_ev B P X n d mi pc lv st h = some r) (hm : n ≤ m) : mm_ev B P X m d mi pc lv st h = some r := by
  have := mm_ev_add hr (m - n)
  rwa [Nat.add_sub_cancel' hm] at this
theorem mm_ev_deep : ∀ (n d mi pc : Nat) (lv : mm_L) (st : List Value) (h : mm_H) (r : mm_R), mm_ev B P X n d mi pc lv st h = some r → mm_ev B P X n (d + 1) mi pc lv st h = some r := by
  intro n
  induction n with
  | zero => intro d mi pc lv st h r hr; simp [mm_ev] at hr
  | succ n ih =>
    intro d mi pc lv st h r hr
    unfold mm_ev at hr ⊢
    split at hr
    · cases hr
    rename_i hM
    rw [hM]
    dsimp only
    split at hr
    · cases hr
    rename_i hf
    rw [hf]
    dsimp only
    split at hr
    · cases hr
    · rename_i hs
      rw [hs]
      exact ih _ _ _ _ _ _ _ hr
    · rename_i hs
      rw [hs]
      exact hr
    · rename_i hs
      rw [hs]
      dsimp only
      split at hr
      · cases hr
      · rename_i d'
        dsimp only
        split at hr
        · cases hr
        rename_i hMj
        rw [hMj]
        dsimp only
        split at hr
        · rename_i hlen
          rw [if_pos hlen]
          split at hr
          · cases hr
          · rename_i he
            rw [ih _ _ _ _ _ _ _ he]
            exact ih _ _ _ _ _ _ _ hr
          · rename_i he
            rw [ih _ _ _ _ _ _ _ he]
            exact hr
        · cases hr
    · rename_i hs
      rw [hs]
      exact hr
theorem mm_ev_dge {n d k mi pc : Nat} {lv : mm_L} {st : List Value} {h : mm_H} {r : mm_R} (hr : mm_ev B P X n d mi pc lv st h = some r) (hk : d ≤ k) : mm_ev B P X n k mi pc lv st h = some r := by
  obtain ⟨j, rfl⟩ := Nat.exists_eq_add_of_le hk
  clear hk
  induction j with
  | zero => exact hr
  | succ j ih => exact mm_ev_deep _ _ _ _ _ _ _ _ ih
end MME
/-- in this program, on the script xs of length L: from here the method ends with r -/
def Ev (L : Nat) (xs : Nat → Int32) (d mi pc : Nat) (lv : mm_L) (st : List Value) (h : mm_H) (r : mm_R) : Prop := ∃ n, mm_ev (mm_B L xs mm_mc mm_na) mm_P mm_X n d mi pc lv st h = some r
/-- the method, called with these arguments, ends with r -/
def Cl (L : Nat) (xs : Nat → Int32) (d mi : Nat) (as : List Value) (h : mm_H) (r : mm_R) : Prop := Ev L xs d mi 0 (lv_args 0 as) [] h r
section EVR
variable {L : Nat} {xs : Nat → Int32} {d mi pc : Nat} {lv : mm_L} {st : List Value} {h : mm_H} {r : mm_R} {M : mm_M} {len : Nat} {r1 : Int} {r2 : Nat} {ins : Instr}
theorem Cl.up {as : List Value} {k : Nat} (hc : Cl L xs d mi as h r) (hk : d ≤ k) : Cl L xs k mi as h r := by
  obtain ⟨n, hn⟩ := hc
  exact ⟨n, mm_ev_dge hn hk⟩
/-- the row of code at pc of method mi: its class, its locals, whether it is a maker, the row -/
def mm_at (mi pc : Nat) : Option (Nat × Nat × Bool × Instr × Nat × Int × Nat) := match mm_P mi with
  | none => none
  | some (_, _, nL, _, own, ini, _, _, code) => match code.find? (fun q => q.1 == pc) with
    | none => none
    | some (_, ins, len, r1, r2) => some (own, nL, ini, ins, len, r1, r2)
theorem Ev.nx {own nL : Nat} {ini : Bool} {x : Nat × mm_L × List Value × mm_H} (hi : mm_at mi pc = some (own, nL, ini, ins, len, r1, r2)) (hs : mm_step (mm_B L xs mm_mc mm_na) own nL ini ins len r1 r2 pc lv st h = some (.inl x)) (k : Ev L xs d mi x.1 x.2.1 x.2.2.1 x.2.2.2 r) : Ev L xs d mi pc lv st h r := by
  obtain ⟨n, hn⟩ := k
  refine ⟨n + 1, ?_⟩
  unfold mm_at at hi
  unfold mm_ev
  split at hi
  · cases hi
  rename_i hM
  rw [hM]
  dsimp only
  split at hi
  · cases hi
  rename_i hf
  cases hi
  rw [hf]
  dsimp only
  rw [hs]
  exact hn
end EVR
