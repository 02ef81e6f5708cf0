/-! THE EVALUATOR, AND WHAT ITS COUNTERS DO -/
def mm_rok (ret : Option FieldType) (v : Option Value) : Bool := match ret, v with
  | none, none => true
  | some .int, some (.int _) => true
  | some .boolean, some (.int x) => decide (x = 0 ∨ x = 1)
  | _, _ => false
abbrev mm_R : Type := (Option Value ⊕ Nat) × mm_H
def mm_ev (B : mm_T) (P : Nat → Option mm_M) (X : Nat → Nat) : Nat → Nat → Nat → Nat → mm_L → List Value → mm_H → Option mm_R
  | 0, _, _, _, _, _, _ => none
  | n + 1, d, mi, pc, lv, st, h => match P mi with
    | none => none
    | some (_, _, nL, ret, own, ini, _, cat, code) => match code.find? (fun q => q.1 == pc) with
      | none => none
      | some (_, ins, len, r1, r2) => match mm_step B own nL ini ins len r1 r2 pc lv st h with
        | none => none
        | some (.inl (pc', lv', st', h')) => mm_ev B P X n d mi pc' lv' st' h'
        | some (.inr (.inl v)) => if mm_rok ret v = true then some (.inl v, h) else none
        | some (.inr (.inr (.inl (j, as, rest)))) => match d with
          | 0 => none
          | d' + 1 => match P j with
            | none => none
            | some (_, _, nLj, _, _, inj, _) => if (lg_sl as).length ≤ nLj then (match mm_ev B P X n d' j 0 (lv_args 0 as) [] h with
              | none => none
              | some (.inl v, h') => mm_ev B P X n (d' + 1) mi (pc + 3) lv (v.toList ++ rest) h'
              | some (.inr x, h') => if inj = true then none else match cat.find? (fun q => q.1 == x) with
                | some (_, _, code) => some (.inl (some (.int (Int32.ofInt code))), h')
                | none => if cat.isEmpty = true then some (.inr x, h') else none) else none
        | some (.inr (.inr (.inr t))) => some (.inr (X t), (h.1, false, h.2.2.1 + 1, h.2.2.2 + 6))
theorem mm_new1_mono {k : Nat} {e : va_E} {ns pc : Nat} {lv : mm_L} {r : List Value} {h : mm_H} {x : Nat × mm_L × List Value × mm_H} (hs : mm_new1 k e ns pc lv r h = some (.inl x)) : h.2.2.1 ≤ x.2.2.2.2.2.1 ∧ h.2.2.2 ≤ x.2.2.2.2.2.2 := by
  unfold mm_new1 at hs
  split at hs
  · injection hs with hs; injection hs with hs; subst hs; exact ⟨Nat.le_succ _, Nat.le_add_right _ _⟩
  · cases hs
set_option maxHeartbeats 4000000 in
theorem mm_step_mono {B : mm_T} {own nL : Nat} {ini : Bool} {ins : Instr} {len : Nat} {r1 : Int} {r2 pc : Nat} {lv : mm_L} {st : List Value} {h : mm_H} {x : Nat × mm_L × List Value × mm_H}
    (hs : mm_step B own nL ini ins len r1 r2 pc lv st h = some (.inl x)) : h.2.2.1 ≤ x.2.2.2.2.2.1 ∧ h.2.2.2 ≤ x.2.2.2.2.2.2 := by
  unfold mm_step at hs
  cases ins <;> simp only at hs <;>
    first
    | (cases hs; done)
    | (try simp only [mm_push, mm_ild, mm_lld, mm_ald, mm_ist, mm_ast, mm_lst, mm_i2, mm_l2, mm_jmp, mm_getf, mm_putf, mm_iald, mm_lald, mm_aald, mm_iast, mm_bast, mm_last, mm_aast, mm_newa, mm_anew, mm_callV, mm_callS, mm_len, mm_chr, mm_copy, mm_sld, mm_sln] at hs
       repeat' split at hs
       all_goals first | (cases hs; done) | (exact mm_new1_mono hs) | (injection hs with hs; injection hs with hs; subst hs; exact ⟨Nat.le_refl _, Nat.le_refl _⟩) | (injection hs with hs; cases hs))
theorem mm_ev_mono (B : mm_T) (P : Nat → Option mm_M) (X : Nat → Nat) : ∀ (n d mi pc : Nat) (lv : mm_L) (st : List Value) (h : mm_H) (r : mm_R), mm_ev B P X n d mi pc lv st h = some r → h.2.2.1 ≤ r.2.2.2.1 ∧ h.2.2.2 ≤ r.2.2.2.2 := by
  intro n
  induction n with
  | zero => intro d mi pc lv st h r hr; simp [mm_ev] at hr
  | succ n ih =>
    intro d mi pc lv st h r hr
    unfold mm_ev at hr
    split at hr
    · cases hr
    split at hr
    · cases hr
    split at hr
    · cases hr
    · rename_i hs
      have h1 := mm_step_mono hs
      have h2 := ih _ _ _ _ _ _ _ hr
      exact ⟨Nat.le_trans h1.1 h2.1, Nat.le_trans h1.2 h2.2⟩
    · split at hr
      · cases hr; exact ⟨Nat.le_refl _, Nat.le_refl _⟩
      · cases hr
    · split at hr
      · cases hr
      split at hr
      · cases hr
      split at hr
      · split at hr
        · cases hr
        · rename_i he
          have h1 := ih _ _ _ _ _ _ _ he
          have h2 := ih _ _ _ _ _ _ _ hr
          exact ⟨Nat.le_trans h1.1 h2.1, Nat.le_trans h1.2 h2.2⟩
        · rename_i he
          have h1 := ih _ _ _ _ _ _ _ he
          split at hr
          · cases hr
          split at hr
          · cases hr; exact h1
          · split at hr
            · cases hr; exact h1
            · cases hr
      · cases hr
    · cases hr; exact ⟨Nat.le_succ _, Nat.le_add_right _ _⟩
theorem mm_new1_exact {k : Nat} {e : va_E} {ns pc : Nat} {lv : mm_L} {r : List Value} {h : mm_H} {x : Nat × mm_L × List Value × mm_H} (hs : mm_new1 k e ns pc lv r h = some (.inl x)) : x.2.2.2.2.1 = true → h.2.1 = true ∧ x.2.2.2.1.length + h.2.2.1 = h.1.length + x.2.2.2.2.2.1 := by
  unfold mm_new1 at hs
  split at hs
  · rename_i hex
    injection hs with hs; injection hs with hs; subst hs
    intro _
    refine ⟨hex, ?_⟩
    simp only [List.length_append, List.length_cons, List.length_nil]
    omega
  · cases hs
set_option maxHeartbeats 4000000 in
theorem mm_step_exact {B : mm_T} {own nL : Nat} {ini : Bool} {ins : Instr} {len : Nat} {r1 : Int} {r2 pc : Nat} {lv : mm_L} {st : List Value} {h : mm_H} {x : Nat × mm_L × List Value × mm_H}
    (hs : mm_step B own nL ini ins len r1 r2 pc lv st h = some (.inl x)) : x.2.2.2.2.1 = true → h.2.1 = true ∧ x.2.2.2.1.length + h.2.2.1 = h.1.length + x.2.2.2.2.2.1 := by
  unfold mm_step at hs
  cases ins <;> simp only at hs <;>
    first
    | (cases hs; done)
    | (try simp only [mm_push, mm_ild, mm_lld, mm_ald, mm_ist, mm_ast, mm_lst, mm_i2, mm_l2, mm_jmp, mm_getf, mm_putf, mm_iald, mm_lald, mm_aald, mm_iast, mm_bast, mm_last, mm_aast, mm_newa, mm_anew, mm_callV, mm_callS, mm_len, mm_chr, mm_copy, mm_sld, mm_sln] at hs
       repeat' split at hs
       all_goals first | (cases hs; done) | (exact mm_new1_exact hs) | (injection hs with hs; injection hs with hs; subst hs; exact fun q => ⟨q, by first | rfl | simp only [List.length_set]⟩) | (injection hs with hs; cases hs))
theorem mm_ev_exact (B : mm_T) (P : Nat → Option mm_M) (X : Nat → Nat) : ∀ (n d mi pc : Nat) (lv : mm_L) (st : List Value) (h : mm_H) (r : mm_R), mm_ev B P X n d mi pc lv st h = some r → r.2.2.1 = true → h.2.1 = true ∧ r.2.1.length + h.2.2.1 = h.1.length + r.2.2.2.1 := by
  intro n
  induction n with
  | zero => intro d mi pc lv st h r hr; simp [mm_ev] at hr
  | succ n ih =>
    intro d mi pc lv st h r hr hx
    unfold mm_ev at hr
    split at hr
    · cases hr
    split at hr
    · cases hr
    split at hr
    · cases hr
    · rename_i hs
      have h2 := ih _ _ _ _ _ _ _ hr hx
      have h1 := mm_step_exact hs h2.1
      dsimp only at h1
      exact ⟨h1.1, by omega⟩
    · split at hr
      · cases hr; exact ⟨hx, rfl⟩
      · cases hr
    · split at hr
      · cases hr
      split at hr
      · cases hr
      split at hr
      · split at hr
        · cases hr
        · rename_i he
          have h2 := ih _ _ _ _ _ _ _ hr hx
          have h1 := ih _ _ _ _ _ _ _ he h2.1
          dsimp only at h1
          exact ⟨h1.1, by omega⟩
        · rename_i he
          have h1 := ih _ _ _ _ _ _ _ he
          split at hr
          · cases hr
          split at hr
          · cases hr; exact h1 hx
          · split at hr
            · cases hr; exact h1 hx
            · cases hr
      · cases hr
    · cases hr; cases hx
/-- the last step, a throw, a call -/
theorem mm_step_ret {B : mm_T} {own nL : Nat} {ini : Bool} {ins : Instr} {len : Nat} {r1 : Int} {r2 pc : Nat} {lv : mm_L} {st : List Value} {h : mm_H} {v : Option Value}
    (hs : mm_step B own nL ini ins len r1 r2 pc lv st h = some (.inr (.inl v))) : len = 1 ∧ st = v.toList ∧ ((ins = .return_ ∧ v = none) ∨ (ins = .ireturn ∧ ∃ x, v = some (.int x))) := by
  unfold mm_step at hs
  cases ins <;> simp only at hs <;>
    first
    | (cases hs; done)
    | (try simp only [mm_push, mm_ild, mm_lld, mm_ald, mm_ist, mm_ast, mm_lst, mm_i2, mm_l2, mm_jmp, mm_getf, mm_putf, mm_iald, mm_lald, mm_aald, mm_iast, mm_bast, mm_last, mm_aast, mm_newa, mm_anew, mm_new1, mm_callV, mm_callS, mm_len, mm_chr, mm_copy, mm_sld, mm_sln] at hs
       repeat' split at hs
       all_goals first | (cases hs; done) | (injection hs with hs; cases hs; done) | (injection hs with hs; injection hs with hs; injection hs with hs; subst hs; rename_i e1; subst e1; exact ⟨rfl, rfl, Or.inl ⟨rfl, rfl⟩⟩) | (injection hs with hs; injection hs with hs; injection hs with hs; subst hs; exact ⟨by assumption, rfl, Or.inr ⟨rfl, _, rfl⟩⟩) | (injection hs with hs; injection hs with hs; injection hs with hs; subst hs; exact ⟨by assumption, rfl, Or.inl ⟨rfl, rfl⟩⟩))
theorem mm_step_thr {B : mm_T} {own nL : Nat} {ini : Bool} {ins : Instr} {len : Nat} {r1 : Int} {r2 pc : Nat} {lv : mm_L} {st : List Value} {h : mm_H} {t : Nat}
    (hs : mm_step B own nL ini ins len r1 r2 pc lv st h = some (.inr (.inr (.inr t)))) : ∃ i, ins = .new i ∧ r1 = 1 ∧ r2 = t ∧ (st.map fun v => v.category).sum ≤ 8 := by
  unfold mm_step at hs
  cases ins <;> simp only at hs <;>
    first
    | (cases hs; done)
    | (try simp only [mm_push, mm_ild, mm_lld, mm_ald, mm_ist, mm_ast, mm_lst, mm_i2, mm_l2, mm_jmp, mm_getf, mm_putf, mm_iald, mm_lald, mm_aald, mm_iast, mm_bast, mm_last, mm_aast, mm_newa, mm_anew, mm_new1, mm_callV, mm_callS, mm_len, mm_chr, mm_copy, mm_sld, mm_sln] at hs
       repeat' split at hs
       all_goals first | (cases hs; done) | (injection hs with hs; cases hs; done) | (injection hs with hs; injection hs with hs; injection hs with hs; injection hs with hs; subst hs; exact ⟨_, rfl, rfl, rfl, by assumption⟩))
/-- the shape of a call with a receiver, and of one without -/
def mm_shV (ci n : Nat) (st : List Value) (h : mm_H) (as rest : List Value) : Prop := ∃ a As fs, as = .ref a :: As ∧ st = As.reverse ++ .ref a :: rest ∧ As.length = n ∧ h.1[a]? = some (.inr (ci, fs))
def mm_shS (n : Nat) (st as rest : List Value) : Prop := st = as.reverse ++ rest ∧ as.length = n
theorem mm_callV_sh {ci j0 n : Nat} {st : List Value} {h : mm_H} {j : Nat} {as rest : List Value} (hs : mm_callV ci j0 n st h = some (.inr (.inr (.inl (j, as, rest))))) : j = j0 ∧ (rest.map fun v => v.category).sum ≤ 8 ∧ mm_shV ci n st h as rest := by
  unfold mm_callV at hs
  split at hs
  · rename_i a r hdrop
    split at hs
    · rename_i c0 fs ea
      split at hs
      · rename_i hq
        injection hs with hs; injection hs with hs; injection hs with hs; injection hs with hs
        injection hs with h1 h2
        injection h2 with h2 h3
        subst h1; subst h2; subst h3
        refine ⟨rfl, hq.2.2, a, (st.take n).reverse, fs, rfl, ?_, ?_, by rw [ea, hq.1]⟩
        · rw [List.reverse_reverse, ← hdrop, List.take_append_drop]
        · rw [List.length_reverse, List.length_take]; omega
      · cases hs
    · cases hs
  · cases hs
theorem mm_callS_sh {j0 n : Nat} {st : List Value} {j : Nat} {as rest : List Value} (hs : mm_callS j0 n st = some (.inr (.inr (.inl (j, as, rest))))) : j = j0 ∧ (rest.map fun v => v.category).sum ≤ 8 ∧ mm_shS n st as rest := by
  unfold mm_callS at hs
  split at hs
  · rename_i hq
    injection hs with hs; injection hs with hs; injection hs with hs; injection hs with hs
    injection hs with h1 h2
    injection h2 with h2 h3
    subst h1; subst h2; subst h3
    refine ⟨rfl, hq.2, ?_, ?_⟩
    · rw [List.reverse_reverse, List.take_append_drop]
    · rw [List.length_reverse, List.length_take]; omega
  · cases hs
theorem mm_step_call {B : mm_T} {own nL : Nat} {ini : Bool} {ins : Instr} {len : Nat} {r1 : Int} {r2 pc : Nat} {lv : mm_L} {st : List Value} {h : mm_H} {j : Nat} {as rest : List Value}
    (hs : mm_step B own nL ini ins len r1 r2 pc lv st h = some (.inr (.inr (.inl (j, as, rest))))) : len = 3 ∧ r1 = 0 ∧ j = r2 ∧ (rest.map fun v => v.category).sum ≤ 8 ∧
      ((∃ i, ins = .invokevirtual i ∧ mm_shV (B.2.2.2.1 r2) (B.2.2.2.2.1 r2) st h as rest) ∨ (∃ i, ins = .invokespecial i ∧ mm_shV (B.2.2.2.1 r2) (B.2.2.2.2.1 r2) st h as rest) ∨ (∃ i, ins = .invokestatic i ∧ mm_shS (B.2.2.2.2.1 r2) st as rest)) := by
  unfold mm_step at hs
  cases ins <;> simp only at hs <;>
    first
    | (cases hs; done)
    | (try simp only [mm_push, mm_ild, mm_lld, mm_ald, mm_ist, mm_ast, mm_lst, mm_i2, mm_l2, mm_jmp, mm_getf, mm_putf, mm_iald, mm_lald, mm_aald, mm_iast, mm_bast, mm_last, mm_aast, mm_newa, mm_anew, mm_new1, mm_len, mm_chr, mm_copy, mm_sld, mm_sln] at hs
       repeat' split at hs
       all_goals first | (cases hs; done) | (injection hs with hs; cases hs; done) | (obtain ⟨h1, h2, h3⟩ := mm_callV_sh hs; exact ⟨by assumption, rfl, h1, h2, Or.inl ⟨_, rfl, h3⟩⟩) | (obtain ⟨h1, h2, h3⟩ := mm_callV_sh hs; exact ⟨by assumption, rfl, h1, h2, Or.inr (Or.inl ⟨_, rfl, h3⟩)⟩) | (obtain ⟨h1, h2, h3⟩ := mm_callS_sh hs; exact ⟨by assumption, rfl, h1, h2, Or.inr (Or.inr ⟨_, rfl, h3⟩)⟩))
