/-! THE START: the makers run alike on every script -/
theorem stI {L : Nat} {xs : Nat → Int32} {own nL : Nat} {ini : Bool} {ins : Instr} {len : Nat} {r1 : Int} {r2 pc : Nat} {lv : mm_L} {st : List Value} {h : mm_H} (h1 : ins ≠ .iaload) (h2 : ins ≠ .arraylength) : mm_step (mm_B L xs mm_mc mm_na) own nL ini ins len r1 r2 pc lv st h = mm_step (mm_B 0 (fun _ => 0) mm_mc mm_na) own nL ini ins len r1 r2 pc lv st h := by
  cases ins <;> first | rfl | exact absurd rfl h1 | exact absurd rfl h2
def okI (ins : Instr) : Bool := match ins with
  | .iaload => false
  | .arraylength => false
  | _ => true
theorem okI_n {ins : Instr} (h : okI ins = true) : ins ≠ .iaload ∧ ins ≠ .arraylength := ⟨fun e => by (subst e; cases h), fun e => by (subst e; cases h)⟩
def mkL : List Nat := [0, 12, 20, 27, 41, 48, 62, 91, 97, 110, 127, 191]
def mkP (i : Nat) : Option mm_M := if mkL.contains i = true then mm_P i else none
def okM (M : mm_M) : Bool := M.2.2.2.2.2.2.2.2.all (fun q => okI q.2.1)
theorem okL : mkL.all (fun i => match mm_P i with
    | some M => okM M
    | none => true) = true := by decide +kernel
theorem mkP_o {i : Nat} {M : mm_M} (h : mkP i = some M) : mm_P i = some M ∧ okM M = true := by
  unfold mkP at h
  split at h
  · rename_i hc
    refine ⟨h, ?_⟩
    have hm : i ∈ mkL := List.contains_iff_mem.mp hc
    have := List.all_eq_true.mp okL i hm
    rw [h] at this
    exact this
  · cases h
theorem evI {L : Nat} {xs : Nat → Int32} {X : Nat → Nat} : ∀ (n d mi pc : Nat) (lv : mm_L) (st : List Value) (h : mm_H) (r : mm_R), mm_ev (mm_B 0 (fun _ => 0) mm_mc mm_na) mkP X n d mi pc lv st h = some r → mm_ev (mm_B L xs mm_mc mm_na) mm_P X n d mi pc lv st h = some r := by
  intro n
  induction n with
  | zero => intro d mi pc lv st h r hr; simp [mm_ev] at hr
  | succ n ih =>
    intro d mi pc lv st h r hr
    unfold mm_ev at hr ⊢
    cases hP : mkP mi with
    | none => rw [hP] at hr; cases hr
    | some M =>
      obtain ⟨e1, e2⟩ := mkP_o hP
      obtain ⟨y, c0, nL, ret, own, ini, z, cat, code⟩ := M
      rw [hP] at hr
      rw [e1]
      dsimp only at hr ⊢
      cases hf : code.find? (fun q => q.1 == pc) with
      | none => rw [hf] at hr; cases hr
      | some q =>
        have hq := List.all_eq_true.mp e2 q (List.mem_of_find?_eq_some hf)
        obtain ⟨pc', ins, len, r1, r2⟩ := q
        obtain ⟨n1, n2⟩ := okI_n hq
        rw [hf] at hr
        dsimp only at hr ⊢
        rw [stI n1 n2]
        cases hs : mm_step (mm_B 0 (fun _ => 0) mm_mc mm_na) own nL ini ins len r1 r2 pc lv st h with
        | none => rw [hs] at hr; cases hr
        | some o =>
          rw [hs] at hr
          rcases o with x | v | ⟨j, as, rest⟩ | t
          · exact ih _ _ _ _ _ _ _ hr
          · exact hr
          · dsimp only at hr ⊢
            cases d with
            | zero => cases hr
            | succ d =>
              dsimp only at hr ⊢
              cases hj : mkP j with
              | none => rw [hj] at hr; cases hr
              | some J =>
                obtain ⟨j1, j2⟩ := mkP_o hj
                obtain ⟨a1, a2, nLj, a4, a5, inj, a7⟩ := J
                rw [hj] at hr
                rw [j1]
                dsimp only at hr ⊢
                by_cases hl : (lg_sl as).length ≤ nLj
                · rw [if_pos hl] at hr ⊢
                  cases hc : mm_ev (mm_B 0 (fun _ => 0) mm_mc mm_na) mkP X n d j 0 (lv_args 0 as) [] h with
                  | none => rw [hc] at hr; cases hr
                  | some w =>
                    rw [hc] at hr
                    rw [ih _ _ _ _ _ _ _ hc]
                    obtain ⟨w1, h'⟩ := w
                    cases w1 with
                    | inl v => exact ih _ _ _ _ _ _ _ hr
                    | inr x => exact hr
                · rw [if_neg hl] at hr; cases hr
          · exact hr
/-! arrays of references: nothing behind their end -/
def G3 (e : va_E) : Prop := ∀ c n f, e = .inl (c, n, .inr (.inr (.inr (.inr f)))) → ∀ i, n ≤ i → f i = none
def I3 (h : List va_E) : Prop := ∀ e, e ∈ h → G3 e
theorem I3_s {h : List va_E} {a : Nat} {e : va_E} (hI : I3 h) (he : G3 e) : I3 (h.set a e) := fun x hx => by
  rcases List.mem_or_eq_of_mem_set hx with q | q
  · exact hI x q
  · subst q; exact he
theorem I3_a {h : List va_E} {e : va_E} (hI : I3 h) (he : G3 e) : I3 (h ++ [e]) := fun x hx => by
  rcases List.mem_append.mp hx with q | q
  · exact hI x q
  · simp only [List.mem_singleton] at q; subst q; exact he
theorem new_I {k : Nat} {e : va_E} {ns pc : Nat} {lv : mm_L} {r : List Value} {h : mm_H} {x : Nat × mm_L × List Value × mm_H} (hI : I3 h.1) (he : G3 e) (hs : mm_new1 k e ns pc lv r h = some (.inl x)) : I3 x.2.2.2.1 := by
  unfold mm_new1 at hs
  split at hs
  · injection hs with hs; injection hs with hs; subst hs; exact I3_a hI he
  · cases hs
theorem aast_I {pc : Nat} {lv : mm_L} {st : List Value} {h : mm_H} {x : Nat × mm_L × List Value × mm_H} (hI : I3 h.1) (hs : mm_aast pc lv st h = some (.inl x)) : I3 x.2.2.2.1 := by
  unfold mm_aast at hs
  split at hs
  · split at hs
    · rename_i hc _
      split at hs
      · rename_i hk
        injection hs with hs; injection hs with hs; subst hs
        refine I3_s hI (fun c' n' f' q i hi => ?_)
        injection q with q
        injection q with q1 q2
        injection q2 with q2 q3
        injection q3 with q3
        injection q3 with q3
        injection q3 with q3
        injection q3 with q3
        subst q1; subst q2; subst q3
        have := hI _ (List.mem_of_getElem? hc) _ _ _ rfl i hi
        unfold va_up
        rw [if_neg (fun e => by subst e; exact hk.2 (Or.inr hi))]
        exact this
      · cases hs
    · cases hs
  · cases hs
set_option maxHeartbeats 4000000 in
theorem step_I {B : mm_T} {own nL : Nat} {ini : Bool} {ins : Instr} {len : Nat} {r1 : Int} {r2 pc : Nat} {lv : mm_L} {st : List Value} {h : mm_H} {x : Nat × mm_L × List Value × mm_H} (hI : I3 h.1)
    (hs : mm_step B own nL ini ins len r1 r2 pc lv st h = some (.inl x)) : I3 x.2.2.2.1 := by
  unfold mm_step at hs
  cases ins <;> simp only at hs <;>
    first
    | (cases hs; done)
    | (split at hs; exact aast_I hI hs; cases hs)
    | (try simp only [mm_push, mm_ild, mm_lld, mm_ald, mm_ist, mm_ast, mm_lst, mm_i2, mm_l2, mm_jmp, mm_getf, mm_putf, mm_iald, mm_lald, mm_aald, mm_iast, mm_bast, mm_last, mm_newa, mm_anew, mm_callV, mm_callS, mm_len, mm_chr, mm_copy, mm_sld, mm_sln] at hs
       repeat' split at hs
       all_goals first
         | (cases hs; done)
         | (exact new_I hI (fun c n f q => by cases q <;> (intro _ _; rfl)) hs)
         | (refine new_I hI (fun c n f q i hi => ?_) hs; injection q with q; injection q with q1 q2; injection q2 with q2 q3; injection q3 with q3; injection q3 with q3; injection q3 with q3; injection q3 with q3; subst q3; rfl)
         | (injection hs with hs; injection hs with hs; subst hs; first | exact hI | exact I3_s hI (fun c n f q => by cases q))
         | (injection hs with hs; cases hs))
theorem ev_I {B : mm_T} {P : Nat → Option mm_M} {X : Nat → Nat} : ∀ (n d mi pc : Nat) (lv : mm_L) (st : List Value) (h : mm_H) (r : mm_R), mm_ev B P X n d mi pc lv st h = some r → I3 h.1 → I3 r.2.1 := by
  intro n
  induction n with
  | zero => intro d mi pc lv st h r hr; simp [mm_ev] at hr
  | succ n ih =>
    intro d mi pc lv st h r hr hI
    unfold mm_ev at hr
    split at hr
    · cases hr
    split at hr
    · cases hr
    split at hr
    · cases hr
    · rename_i hs
      exact ih _ _ _ _ _ _ _ hr (step_I hI hs)
    · split at hr
      · cases hr; exact hI
      · cases hr
    · split at hr
      · cases hr
      split at hr
      · cases hr
      split at hr
      · split at hr
        · cases hr
        · rename_i he
          exact ih _ _ _ _ _ _ _ hr (ih _ _ _ _ _ _ _ he hI)
        · rename_i he
          have h1 := ih _ _ _ _ _ _ _ he hI
          split at hr
          · cases hr
          split at hr
          · cases hr; exact h1
          · split at hr
            · cases hr; exact h1
            · cases hr
      · cases hr
    · cases hr; exact hI
