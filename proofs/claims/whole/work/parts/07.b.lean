/-! THE EVALUATOR AS A RELATION: fuel and depth may grow -/
section MME
variable {B : mm_T} {P : Nat → Option mm_M} {X : Nat → Nat}
theorem mm_ev_more : ∀ (n d mi pc : Nat) (lv : mm_L) (st : List Value) (h : mm_H) (r : mm_R), mm_ev B P X n d mi pc lv st h = some r → mm_ev B P X (n + 1) d mi pc lv st h = some r := by
  intro n
  induction n with
  | zero => intro d mi pc lv st h r hr; simp [mm_ev] at hr
  | succ n ih =>
    intro d mi pc lv st h r hr
    rw [mm_ev] at hr ⊢
    cases hM : P mi with
    | none => rw [hM] at hr; cases hr
    | some M =>
      obtain ⟨y, b, nL, ret, own, ini, hx, cat, code⟩ := M
      rw [hM] at hr
      dsimp only at hr ⊢
      cases hf : code.find? (fun q => q.1 == pc) with
      | none => rw [hf] at hr; cases hr
      | some q =>
        obtain ⟨p1, ins, len, r1, r2⟩ := q
        rw [hf] at hr
        dsimp only at hr ⊢
        cases hs : mm_step B own nL ini ins len r1 r2 pc lv st h with
        | none => rw [hs] at hr; cases hr
        | some o =>
          rw [hs] at hr
          rcases o with ⟨pc', lv', st', h'⟩ | v | ⟨j, as, rest⟩ | t
          · exact ih _ _ _ _ _ _ _ hr
          · exact hr
          · dsimp only at hr ⊢
            cases d with
            | zero => cases hr
            | succ d =>
              dsimp only at hr ⊢
              cases hj : P j with
              | none => rw [hj] at hr; cases hr
              | some Mj =>
                obtain ⟨yj, bj, nLj, retj, ownj, inj, hxj, catj, codej⟩ := Mj
                rw [hj] at hr
                dsimp only at hr ⊢
                by_cases hl : (lg_sl as).length ≤ nLj
                · rw [if_pos hl] at hr ⊢
                  cases he : mm_ev B P X n d j 0 (lv_args 0 as) [] h with
                  | none => rw [he] at hr; cases hr
                  | some q =>
                    rw [he] at hr
                    rw [ih _ _ _ _ _ _ _ he]
                    obtain ⟨rr, h'⟩ := q
                    rcases rr with v | x
                    · exact ih _ _ _ _ _ _ _ hr
                    · exact hr
                · rw [if_neg hl] at hr; cases hr
          · exact hr
theorem mm_ev_add {n d mi pc : Nat} {lv : mm_L} {st : List Value} {h : mm_H} {r : mm_R} (hr : mm_ev B P X n d mi pc lv st h = some r) : ∀ k, mm_ev B P X (n + k) d mi pc lv st h = some r
  | 0 => hr
  | k + 1 => mm_ev_more _ _ _ _ _ _ _ _ (mm_ev_add hr k)
theorem mm_ev_ge {n m d mi pc : Nat} {lv : mm_L} {st : List Value} {h : mm_H} {r : mm_R} (hr : mm_ev B P X n d mi pc lv st h = some r) (hm : n ≤ m) : mm_ev B P X m d mi pc lv st h = some r := by
  have := mm_ev_add hr (m - n)
  rwa [Nat.add_sub_cancel' hm] at this
end MME
/-- in this program, on the script xs of length L: from here the method ends with r -/
def Ev (L : Nat) (xs : Nat → Int32) (d mi pc : Nat) (lv : mm_L) (st : List Value) (h : mm_H) (r : mm_R) : Prop := ∃ n, mm_ev (mm_B L xs mm_mc mm_na) mm_P mm_X n d mi pc lv st h = some r
/-- the method, called with these arguments, ends with r -/
def Cl (L : Nat) (xs : Nat → Int32) (d mi : Nat) (as : List Value) (h : mm_H) (r : mm_R) : Prop := Ev L xs d mi 0 (lv_args 0 as) [] h r
abbrev mm_Hd : Type := Nat × Nat × Option FieldType × Bool × List (Nat × Nat × Int)
/-- the head of a method: its class, its locals, what it gives, is it a maker, what it catches -/
def mm_hd (mi : Nat) : Option mm_Hd := match mm_P mi with
  | none => none
  | some (_, _, nL, ret, own, ini, _, cat, _) => some (own, nL, ret, ini, cat)
/-- the row of its code at pc -/
def mm_cd (mi pc : Nat) : Option (Instr × Nat × Int × Nat) := match mm_P mi with
  | none => none
  | some (_, _, _, _, _, _, _, _, code) => match code.find? (fun q => q.1 == pc) with
    | none => none
    | some (_, i) => some i
section EVR
variable {L : Nat} {xs : Nat → Int32} {d mi pc : Nat} {lv : mm_L} {st : List Value} {h : mm_H} {r : mm_R} {len : Nat} {r1 : Int} {r2 : Nat} {ins : Instr} {H : mm_Hd}
theorem mm_ev_at {B : mm_T} {X : Nat → Nat} {n : Nat} (hh : mm_hd mi = some H) (hi : mm_cd mi pc = some (ins, len, r1, r2)) :
    mm_ev B mm_P X (n + 1) d mi pc lv st h = (match mm_step B H.1 H.2.1 H.2.2.2.1 ins len r1 r2 pc lv st h with
        | none => none
        | some (.inl (pc', lv', st', h')) => mm_ev B mm_P X n d mi pc' lv' st' h'
        | some (.inr (.inl v)) => if mm_rok H.2.2.1 v = true then some (.inl v, h) else none
        | some (.inr (.inr (.inl (j, as, rest)))) => match d with
          | 0 => none
          | d' + 1 => match mm_P j with
            | none => none
            | some (_, _, nLj, _, _, inj, _) => if (lg_sl as).length ≤ nLj then (match mm_ev B mm_P X n d' j 0 (lv_args 0 as) [] h with
              | none => none
              | some (.inl v, h') => mm_ev B mm_P X n (d' + 1) mi (pc + 3) lv (v.toList ++ rest) h'
              | some (.inr x, h') => if inj = true then none else match H.2.2.2.2.find? (fun q => q.1 == x) with
                | some (_, _, code) => some (.inl (some (.int (Int32.ofInt code))), h')
                | none => if H.2.2.2.2.isEmpty = true then some (.inr x, h') else none) else none
        | some (.inr (.inr (.inr t))) => some (.inr (X t), (h.1, false, h.2.2.1 + 1, h.2.2.2 + 6))) := by
  unfold mm_hd at hh
  unfold mm_cd at hi
  rw [mm_ev]
  cases hM : mm_P mi with
  | none => rw [hM] at hh; cases hh
  | some M =>
    obtain ⟨y, bytes, nL, ret, own, ini, hx, cat, code⟩ := M
    rw [hM] at hh hi
    dsimp only at hh hi
    cases hh
    dsimp only
    cases hf : code.find? (fun q => q.1 == pc) with
    | none => rw [hf] at hi; cases hi
    | some q =>
      rw [hf] at hi
      obtain ⟨p1, i1⟩ := q
      dsimp only at hi
      cases hi
      rfl
theorem Ev.nx {x : Nat × mm_L × List Value × mm_H} (hh : mm_hd mi = some H) (hi : mm_cd mi pc = some (ins, len, r1, r2)) (hs : mm_step (mm_B L xs mm_mc mm_na) H.1 H.2.1 H.2.2.2.1 ins len r1 r2 pc lv st h = some (.inl x)) (k : Ev L xs d mi x.1 x.2.1 x.2.2.1 x.2.2.2 r) : Ev L xs d mi pc lv st h r := by
  obtain ⟨n, hn⟩ := k
  refine ⟨n + 1, ?_⟩
  rw [mm_ev_at hh hi, hs]
  exact hn
theorem Ev.rt {v : Option Value} (hh : mm_hd mi = some H) (hi : mm_cd mi pc = some (ins, len, r1, r2)) (hs : mm_step (mm_B L xs mm_mc mm_na) H.1 H.2.1 H.2.2.2.1 ins len r1 r2 pc lv st h = some (.inr (.inl v))) (hok : mm_rok H.2.2.1 v = true) : Ev L xs d mi pc lv st h (.inl v, h) := by
  refine ⟨1, ?_⟩
  rw [mm_ev_at hh hi, hs]
  dsimp only
  rw [if_pos hok]
theorem Ev.th {t : Nat} (hh : mm_hd mi = some H) (hi : mm_cd mi pc = some (ins, len, r1, r2)) (hs : mm_step (mm_B L xs mm_mc mm_na) H.1 H.2.1 H.2.2.2.1 ins len r1 r2 pc lv st h = some (.inr (.inr (.inr t)))) : Ev L xs d mi pc lv st h (.inr (mm_X t), (h.1, false, h.2.2.1 + 1, h.2.2.2 + 6)) := by
  refine ⟨1, ?_⟩
  rw [mm_ev_at hh hi, hs]
theorem mm_hd_P {j : Nat} {J : mm_Hd} (hj : mm_hd j = some J) : ∃ y b hx c, mm_P j = some (y, b, J.2.1, J.2.2.1, J.1, J.2.2.2.1, hx, J.2.2.2.2, c) := by
  unfold mm_hd at hj
  cases hM : mm_P j with
  | none => rw [hM] at hj; cases hj
  | some M =>
    rw [hM] at hj
    obtain ⟨y, bytes, nL, ret, own, ini, hx, cat, code⟩ := M
    dsimp only at hj
    cases hj
    exact ⟨_, _, _, _, rfl⟩
theorem Ev.cl {j dj : Nat} {as rest : List Value} {J : mm_Hd} {v : Option Value} {h' : mm_H} (hh : mm_hd mi = some H) (hi : mm_cd mi pc = some (ins, len, r1, r2)) (hs : mm_step (mm_B L xs mm_mc mm_na) H.1 H.2.1 H.2.2.2.1 ins len r1 r2 pc lv st h = some (.inr (.inr (.inl (j, as, rest)))))
    (hj : mm_hd j = some J) (hl : (lg_sl as).length ≤ J.2.1) (hd : dj < d) (hc : ∀ e, dj ≤ e → Cl L xs e j as h (.inl v, h')) (k : Ev L xs d mi (pc + 3) lv (v.toList ++ rest) h' r) : Ev L xs d mi pc lv st h r := by
  obtain ⟨y, b, hx, c, hP⟩ := mm_hd_P hj
  cases d with
  | zero => omega
  | succ d =>
    obtain ⟨n1, e1⟩ := hc d (by omega)
    obtain ⟨n2, e2⟩ := k
    refine ⟨n1 + n2 + 1, ?_⟩
    rw [mm_ev_at hh hi, hs]
    dsimp only
    rw [hP]
    dsimp only
    rw [if_pos hl, mm_ev_ge e1 (Nat.le_add_right n1 n2)]
    exact mm_ev_ge e2 (Nat.le_add_left n2 n1)
theorem Ev.cx {j dj x : Nat} {as rest : List Value} {J : mm_Hd} {h' : mm_H} (hh : mm_hd mi = some H) (hi : mm_cd mi pc = some (ins, len, r1, r2)) (hs : mm_step (mm_B L xs mm_mc mm_na) H.1 H.2.1 H.2.2.2.1 ins len r1 r2 pc lv st h = some (.inr (.inr (.inl (j, as, rest)))))
    (hj : mm_hd j = some J) (hl : (lg_sl as).length ≤ J.2.1) (hin : J.2.2.2.1 = false) (hcat : H.2.2.2.2 = []) (hd : dj < d) (hc : ∀ e, dj ≤ e → Cl L xs e j as h (.inr x, h')) : Ev L xs d mi pc lv st h (.inr x, h') := by
  obtain ⟨y, b, hx, c, hP⟩ := mm_hd_P hj
  cases d with
  | zero => omega
  | succ d =>
    obtain ⟨n1, e1⟩ := hc d (by omega)
    refine ⟨n1 + 1, ?_⟩
    rw [mm_ev_at hh hi, hs]
    dsimp only
    rw [hP]
    dsimp only
    rw [if_pos hl, e1]
    dsimp only
    rw [hin, hcat]
    rfl
theorem Ev.cc {j dj x u w : Nat} {code : Int} {as rest : List Value} {J : mm_Hd} {h' : mm_H} (hh : mm_hd mi = some H) (hi : mm_cd mi pc = some (ins, len, r1, r2)) (hs : mm_step (mm_B L xs mm_mc mm_na) H.1 H.2.1 H.2.2.2.1 ins len r1 r2 pc lv st h = some (.inr (.inr (.inl (j, as, rest)))))
    (hj : mm_hd j = some J) (hl : (lg_sl as).length ≤ J.2.1) (hin : J.2.2.2.1 = false) (hcat : H.2.2.2.2.find? (fun q => q.1 == x) = some (u, w, code)) (hd : dj < d) (hc : ∀ e, dj ≤ e → Cl L xs e j as h (.inr x, h')) : Ev L xs d mi pc lv st h (.inl (some (.int (Int32.ofInt code))), h') := by
  obtain ⟨y, b, hx, c, hP⟩ := mm_hd_P hj
  cases d with
  | zero => omega
  | succ d =>
    obtain ⟨n1, e1⟩ := hc d (by omega)
    refine ⟨n1 + 1, ?_⟩
    rw [mm_ev_at hh hi, hs]
    dsimp only
    rw [hP]
    dsimp only
    rw [if_pos hl, e1]
    dsimp only
    rw [hin, hcat]
    rfl
end EVR
/-! LOCALS THAT TELL MORE -/
def mm_ndb : List Nat → Bool
  | [] => true
  | a :: l => !(l.elem a) && mm_ndb l
def mm_nd (lv : mm_L) : Prop := mm_ndb (lv.map (fun q => q.1)) = true
def mm_le (lv lv' : mm_L) : Prop := ∀ i v, mm_look lv i = some v → mm_look lv' i = some v
theorem mm_look_cons {q : Nat × Value} {l : mm_L} {i : Nat} : mm_look (q :: l) i = if q.1 = i then some q.2 else mm_look l i := by
  unfold mm_look
  rw [List.find?_cons]
  by_cases e : q.1 = i
  · rw [if_pos e, show (q.1 == i) = true from beq_iff_eq.mpr e]; rfl
  · rw [if_neg e, show (q.1 == i) = false from beq_eq_false_iff_ne.mpr e]
theorem mm_look_none {l : mm_L} {i : Nat} (h : (l.map (fun q => q.1)).elem i = false) : mm_look l i = none := by
  induction l with
  | nil => rfl
  | cons q l ih =>
    rw [List.map_cons, List.elem_cons] at h
    rw [mm_look_cons]
    by_cases e : q.1 = i
    · rw [e] at h; simp at h
    · rw [if_neg e]
      apply ih
      rw [show (i == q.1) = false from beq_eq_false_iff_ne.mpr (Ne.symm e)] at h
      simpa using h
theorem mm_nd_cons {q : Nat × Value} {l : mm_L} (h : mm_nd (q :: l)) : (l.map (fun q => q.1)).elem q.1 = false ∧ mm_nd l := by
  unfold mm_nd at h
  rw [List.map_cons, mm_ndb, Bool.and_eq_true, Bool.not_eq_true'] at h
  exact h
theorem mm_look_filter {p : Nat × Value → Bool} {l : mm_L} (hnd : mm_nd l) (j : Nat) : mm_look (l.filter p) j = (match mm_look l j with | some w => if p (j, w) = true then some w else none | none => none) := by
  induction l with
  | nil => rfl
  | cons q l ih =>
    obtain ⟨h1, h2⟩ := mm_nd_cons hnd
    rw [mm_look_cons]
    by_cases e : q.1 = j
    · subst e
      rw [if_pos rfl]
      dsimp only
      by_cases hp : p q = true
      · rw [List.filter_cons_of_pos hp, mm_look_cons, if_pos rfl, if_pos hp]
      · rw [List.filter_cons_of_neg hp, ih h2, mm_look_none h1, if_neg hp]
    · rw [if_neg e, ← ih h2]
      by_cases hp : p q = true
      · rw [List.filter_cons_of_pos hp, mm_look_cons, if_neg e]
      · rw [List.filter_cons_of_neg hp]
theorem mm_elem_filter {p : Nat × Value → Bool} {l : mm_L} {i : Nat} (h : (l.map (fun q => q.1)).elem i = false) : ((l.filter p).map (fun q => q.1)).elem i = false := by
  rw [List.elem_eq_mem, decide_eq_false_iff_not] at h ⊢
  intro hm
  obtain ⟨q, hq, e⟩ := List.mem_map.mp hm
  exact h (List.mem_map.mpr ⟨q, (List.mem_filter.mp hq).1, e⟩)
theorem mm_nd_filter {p : Nat × Value → Bool} {l : mm_L} (hnd : mm_nd l) : mm_nd (l.filter p) := by
  induction l with
  | nil => exact hnd
  | cons q l ih =>
    obtain ⟨h1, h2⟩ := mm_nd_cons hnd
    by_cases hp : p q = true
    · rw [List.filter_cons_of_pos hp]
      unfold mm_nd
      rw [List.map_cons, mm_ndb, mm_elem_filter h1]
      exact ih h2
    · rw [List.filter_cons_of_neg hp]; exact ih h2
theorem mm_nd_push {l : mm_L} {i : Nat} {v : Value} (hnd : mm_nd l) (p : Nat × Value → Bool) (hp : ∀ w, p (i, w) = false) : mm_nd ((i, v) :: l.filter p) := by
  unfold mm_nd
  rw [List.map_cons, mm_ndb, Bool.and_eq_true, Bool.not_eq_true']
  refine ⟨?_, mm_nd_filter hnd⟩
  rw [List.elem_eq_mem, decide_eq_false_iff_not]
  intro hm
  obtain ⟨q, hq, e⟩ := List.mem_map.mp hm
  have h1 := (List.mem_filter.mp hq).2
  obtain ⟨a, w⟩ := q
  dsimp only at e
  subst e
  rw [hp w] at h1
  cases h1
theorem mm_le_push {l l' : mm_L} {i : Nat} {v : Value} (hn : mm_nd l) (hn' : mm_nd l') (hle : mm_le l l') (p : Nat × Value → Bool) : mm_le ((i, v) :: l.filter p) ((i, v) :: l'.filter p) := by
  intro j w hw
  rw [mm_look_cons] at hw ⊢
  by_cases e : i = j
  · rw [if_pos e] at hw ⊢; exact hw
  · rw [if_neg e] at hw ⊢
    rw [mm_look_filter hn] at hw
    rw [mm_look_filter hn']
    cases hq : mm_look l j with
    | none => rw [hq] at hw; cases hw
    | some u =>
      rw [hq] at hw
      rw [hle j u hq]
      exact hw
def mm_rl (lv : mm_L) (o : mm_O) : mm_O := match o with
  | .inl (pc, _, st, h) => .inl (pc, lv, st, h)
  | .inr x => .inr x
/-- the instructions that look at the locals -/
def mm_lok (ins : Instr) : Bool := match ins with
  | .iload _ | .iload_n _ | .lload _ | .lload_n _ | .aload _ | .aload_n _ | .istore _ | .istore_n _ | .lstore _ | .lstore_n _ | .astore _ | .astore_n _ | .iinc _ _ => true
  | _ => false
set_option maxHeartbeats 8000000 in
theorem mm_step_nat {B : mm_T} {own nL : Nat} {ini : Bool} {ins : Instr} {len : Nat} {r1 : Int} {r2 pc : Nat} {lv : mm_L} {st : List Value} {h : mm_H} (hl : mm_lok ins = false) :
    mm_step B own nL ini ins len r1 r2 pc lv st h = (mm_step B own nL ini ins len r1 r2 pc [] st h).map (mm_rl lv) := by
  cases ins <;> first | (cases hl; done) | (unfold mm_step; simp only [mm_push, mm_i2, mm_l2, mm_jmp, mm_getf, mm_putf, mm_iald, mm_lald, mm_aald, mm_iast, mm_bast, mm_last, mm_aast, mm_newa, mm_anew, mm_new1, mm_callV, mm_callS, mm_len, mm_chr, mm_copy, mm_sld, mm_sln]; repeat' split) <;> first | rfl | (simp_all [mm_rl]; done)
set_option maxHeartbeats 8000000 in
theorem mm_step_le {B : mm_T} {own nL : Nat} {ini : Bool} {ins : Instr} {len : Nat} {r1 : Int} {r2 pc : Nat} {lv lv' : mm_L} {st : List Value} {h : mm_H} {o : mm_O} (hn : mm_nd lv) (hn' : mm_nd lv') (hle : mm_le lv lv') (hs : mm_step B own nL ini ins len r1 r2 pc lv st h = some o) :
    (∃ pc1 l1 l1' st1 h1, o = .inl (pc1, l1, st1, h1) ∧ mm_step B own nL ini ins len r1 r2 pc lv' st h = some (.inl (pc1, l1', st1, h1)) ∧ mm_nd l1 ∧ mm_nd l1' ∧ mm_le l1 l1') ∨ (∃ x, o = .inr x ∧ mm_step B own nL ini ins len r1 r2 pc lv' st h = some (.inr x)) := by
  by_cases hk : mm_lok ins = false
  · rw [mm_step_nat hk] at hs
    rw [mm_step_nat hk]
    cases hq : mm_step B own nL ini ins len r1 r2 pc [] st h with
    | none => rw [hq] at hs; cases hs
    | some q =>
      rw [hq] at hs
      cases hs
      rcases q with ⟨pc1, l1, st1, h1⟩ | x
      · exact Or.inl ⟨pc1, lv, lv', st1, h1, rfl, rfl, hn, hn', hle⟩
      · exact Or.inr ⟨x, rfl, rfl⟩
  · have p1 : ∀ (i : Nat) (w : Value), (fun q : Nat × Value => !(q.1 == i) && !(q.1 + 1 == i && q.2.category == 2)) (i, w) = false := fun i w => by simp
    have p2 : ∀ (i : Nat) (w : Value), (fun q : Nat × Value => !(q.1 == i) && (!(q.1 == i + 1) && !(q.1 + 1 == i && q.2.category == 2))) (i, w) = false := fun i w => by simp
    have T : ∀ {pc1 : Nat} {st1 : List Value}, o = .inl (pc1, lv, st1, h) → mm_step B own nL ini ins len r1 r2 pc lv' st h = some (.inl (pc1, lv', st1, h)) → (∃ pc1 l1 l1' st1 h1, o = .inl (pc1, l1, st1, h1) ∧ mm_step B own nL ini ins len r1 r2 pc lv' st h = some (.inl (pc1, l1', st1, h1)) ∧ mm_nd l1 ∧ mm_nd l1' ∧ mm_le l1 l1') ∨ (∃ x, o = .inr x ∧ mm_step B own nL ini ins len r1 r2 pc lv' st h = some (.inr x)) := fun e1 e2 => Or.inl ⟨_, _, _, _, _, e1, e2, hn, hn', hle⟩
    unfold mm_step at hs
    cases ins <;> first | exact absurd rfl hk | skip
    all_goals simp only [mm_ild, mm_lld, mm_ald, mm_ist, mm_ast, mm_lst] at hs
    all_goals repeat' split at hs
    all_goals first
      | (cases hs; done)
      | skip
    all_goals injection hs with hs
    all_goals subst hs
    all_goals first
      | (rename_i e1 _ _ e2; exact T rfl (by simp only [mm_step, mm_ild, mm_lld, mm_ald]; rw [if_pos e1, hle _ _ e2]))
      | (rename_i e1 _ e2; exact T rfl (by simp only [mm_step, mm_ild, mm_lld, mm_ald]; rw [if_pos e1, hle _ _ e2]))
      | (rename_i e1 _ _ _ _ e2; refine Or.inl ⟨_, _, _, _, _, rfl, (by simp only [mm_step, mm_ist, mm_ast, mm_lst]; rw [if_pos e1, if_pos e2]), ?_, ?_, ?_⟩)
      | (rename_i e1 _ _ _ e2; refine Or.inl ⟨_, _, _, _, _, rfl, (by simp only [mm_step, mm_ist, mm_ast, mm_lst]; rw [if_pos e1, if_pos e2]), ?_, ?_, ?_⟩)
      | (rename_i e1 _ _ e2; refine Or.inl ⟨_, _, _, _, _, rfl, (by simp only [mm_step]; rw [if_pos e1, hle _ _ e2]), ?_, ?_, ?_⟩)
      | (rename_i e1 _ e2; refine Or.inl ⟨_, _, _, _, _, rfl, (by simp only [mm_step]; rw [if_pos e1, hle _ _ e2]), ?_, ?_, ?_⟩)
    all_goals first
      | exact mm_nd_push hn _ (p1 _)
      | exact mm_nd_push hn' _ (p1 _)
      | exact mm_nd_push hn _ (p2 _)
      | exact mm_nd_push hn' _ (p2 _)
      | exact mm_le_push hn hn' hle _
theorem mm_ev_le {B : mm_T} {P : Nat → Option mm_M} {X : Nat → Nat} : ∀ (n d mi pc : Nat) (lv lv' : mm_L) (st : List Value) (h : mm_H) (r : mm_R), mm_nd lv → mm_nd lv' → mm_le lv lv' → mm_ev B P X n d mi pc lv st h = some r → mm_ev B P X n d mi pc lv' st h = some r := by
  intro n
  induction n with
  | zero => intro d mi pc lv lv' st h r _ _ _ hr; simp [mm_ev] at hr
  | succ n ih =>
    intro d mi pc lv lv' st h r hn hn' hle hr
    rw [mm_ev] at hr ⊢
    cases hM : P mi with
    | none => rw [hM] at hr; cases hr
    | some M =>
      obtain ⟨y, b, nL, ret, own, ini, hx, cat, code⟩ := M
      rw [hM] at hr
      dsimp only at hr ⊢
      cases hf : code.find? (fun q => q.1 == pc) with
      | none => rw [hf] at hr; cases hr
      | some q =>
        obtain ⟨p1, ins, len, r1, r2⟩ := q
        rw [hf] at hr
        dsimp only at hr ⊢
        cases hs : mm_step B own nL ini ins len r1 r2 pc lv st h with
        | none => rw [hs] at hr; cases hr
        | some o =>
          rw [hs] at hr
          rcases mm_step_le hn hn' hle hs with ⟨pc1, l1, l1', st1, h1, e, e2, k1, k2, k3⟩ | ⟨x, e, e2⟩
          · subst e
            rw [e2]
            exact ih _ _ _ _ _ _ _ _ k1 k2 k3 hr
          · subst e
            rw [e2]
            rcases x with v | ⟨j, as, rest⟩ | t
            · exact hr
            · dsimp only at hr ⊢
              cases d with
              | zero => cases hr
              | succ d =>
                dsimp only at hr ⊢
                cases hj : P j with
                | none => rw [hj] at hr; cases hr
                | some Mj =>
                  obtain ⟨yj, bj, nLj, retj, ownj, inj, hxj, catj, codej⟩ := Mj
                  rw [hj] at hr
                  dsimp only at hr ⊢
                  by_cases hl : (lg_sl as).length ≤ nLj
                  · rw [if_pos hl] at hr ⊢
                    cases he : mm_ev B P X n d j 0 (lv_args 0 as) [] h with
                    | none => rw [he] at hr; cases hr
                    | some q =>
                      rw [he] at hr
                      obtain ⟨rr, h'⟩ := q
                      rcases rr with v | x
                      · exact ih _ _ _ _ _ _ _ _ hn hn' hle hr
                      · exact hr
                  · rw [if_neg hl] at hr; cases hr
            · exact hr
def mm_sub : mm_L → mm_L → Prop
  | [], _ => True
  | q :: r, l => mm_look l q.1 = some q.2 ∧ mm_sub r l
theorem mm_sub_le {l l' : mm_L} (h : mm_sub l l') : mm_le l l' := by
  induction l with
  | nil => intro i v hv; cases hv
  | cons q l ih =>
    intro i v hv
    rw [mm_look_cons] at hv
    by_cases e : q.1 = i
    · rw [if_pos e] at hv; cases hv; rw [← e]; exact h.1
    · rw [if_neg e] at hv; exact ih h.2 i v hv
theorem Ev.sub {L : Nat} {xs : Nat → Int32} {d mi pc : Nat} {l lv : mm_L} {st : List Value} {h : mm_H} {r : mm_R} (h1 : mm_nd l) (h2 : mm_nd lv) (hs : mm_sub l lv) (k : Ev L xs d mi pc l st h r) : Ev L xs d mi pc lv st h r := by
  obtain ⟨n, hn⟩ := k
  exact ⟨n, mm_ev_le _ _ _ _ _ _ _ _ _ h1 h2 (mm_sub_le hs) hn⟩
/-! A ROW FOR EACH KIND OF INSTRUCTION -/
section EVI
variable {L : Nat} {xs : Nat → Int32} {d mi pc : Nat} {lv : mm_L} {st : List Value} {h : mm_H} {r : mm_R} {r1 : Int} {r2 : Nat} {H : mm_Hd}
theorem Ev.iconst {n : Int} {c : Int32} (hh : mm_hd mi = some H) (hi : mm_cd mi pc = some (.iconst n, 1, r1, r2)) (hv : Int32.ofInt n = c) (k : Ev L xs d mi (pc + 1) lv (.int c :: st) h r) : Ev L xs d mi pc lv st h r := by
  subst hv
  exact Ev.nx hh hi rfl k
theorem Ev.bipush {n : Int} {c : Int32} (hh : mm_hd mi = some H) (hi : mm_cd mi pc = some (.bipush n, 2, r1, r2)) (hv : (Int8.ofInt n).toInt32 = c) (k : Ev L xs d mi (pc + 2) lv (.int c :: st) h r) : Ev L xs d mi pc lv st h r := by
  subst hv
  exact Ev.nx hh hi rfl k
theorem Ev.sipush {n : Int} {c : Int32} (hh : mm_hd mi = some H) (hi : mm_cd mi pc = some (.sipush n, 3, r1, r2)) (hv : (Int16.ofInt n).toInt32 = c) (k : Ev L xs d mi (pc + 3) lv (.int c :: st) h r) : Ev L xs d mi pc lv st h r := by
  subst hv
  exact Ev.nx hh hi rfl k
theorem Ev.lconst {n : Fin 2} {c : Int64} (hh : mm_hd mi = some H) (hi : mm_cd mi pc = some (.lconst n, 1, r1, r2)) (hv : Int64.ofNat (n : Nat) = c) (k : Ev L xs d mi (pc + 1) lv (.long c :: st) h r) : Ev L xs d mi pc lv st h r := by
  subst hv
  exact Ev.nx hh hi rfl k
theorem Ev.ldc {i : Nat} {c : Int32} {n : Int} (hh : mm_hd mi = some H) (hi : mm_cd mi pc = some (.ldc i, 2, n, 0)) (hv : Int32.ofInt n = c) (k : Ev L xs d mi (pc + 2) lv (.int c :: st) h r) : Ev L xs d mi pc lv st h r := by
  subst hv
  exact Ev.nx hh hi rfl k
theorem Ev.ldcT {i t : Nat} {n : Int} (hh : mm_hd mi = some H) (hi : mm_cd mi pc = some (.ldc i, 2, n, t + 1)) (k : Ev L xs d mi (pc + 2) lv (.retAddr t :: st) h r) : Ev L xs d mi pc lv st h r := Ev.nx hh hi rfl k
theorem Ev.ldc_w {i : Nat} {c : Int32} {n : Int} (hh : mm_hd mi = some H) (hi : mm_cd mi pc = some (.ldc_w i, 3, n, 0)) (hv : Int32.ofInt n = c) (k : Ev L xs d mi (pc + 3) lv (.int c :: st) h r) : Ev L xs d mi pc lv st h r := by
  subst hv
  exact Ev.nx hh hi rfl k
theorem Ev.ldc2_w {i : Nat} {c : Int64} {n : Int} (hh : mm_hd mi = some H) (hi : mm_cd mi pc = some (.ldc2_w i, 3, n, r2)) (hv : Int64.ofInt n = c) (k : Ev L xs d mi (pc + 3) lv (.long c :: st) h r) : Ev L xs d mi pc lv st h r := by
  subst hv
  exact Ev.nx hh hi rfl k
theorem Ev.iload {i : Nat} {x : Int32} (hh : mm_hd mi = some H) (hi : mm_cd mi pc = some (.iload i, 2, r1, r2)) (hl : mm_look lv i = some (.int x)) (k : Ev L xs d mi (pc + 2) lv (.int x :: st) h r) : Ev L xs d mi pc lv st h r := by
  refine Ev.nx hh hi (x := (pc + 2, lv, .int x :: st, h)) ?_ k
  simp only [mm_step, mm_ild, if_true, hl]
theorem Ev.iload_n {i : Fin 4} {x : Int32} (hh : mm_hd mi = some H) (hi : mm_cd mi pc = some (.iload_n i, 1, r1, r2)) (hl : mm_look lv i = some (.int x)) (k : Ev L xs d mi (pc + 1) lv (.int x :: st) h r) : Ev L xs d mi pc lv st h r := by
  refine Ev.nx hh hi (x := (pc + 1, lv, .int x :: st, h)) ?_ k
  simp only [mm_step, mm_ild, if_true, hl]
theorem Ev.lload {i : Nat} {x : Int64} (hh : mm_hd mi = some H) (hi : mm_cd mi pc = some (.lload i, 2, r1, r2)) (hl : mm_look lv i = some (.long x)) (k : Ev L xs d mi (pc + 2) lv (.long x :: st) h r) : Ev L xs d mi pc lv st h r := by
  refine Ev.nx hh hi (x := (pc + 2, lv, .long x :: st, h)) ?_ k
  simp only [mm_step, mm_lld, if_true, hl]
theorem Ev.lload_n {i : Fin 4} {x : Int64} (hh : mm_hd mi = some H) (hi : mm_cd mi pc = some (.lload_n i, 1, r1, r2)) (hl : mm_look lv i = some (.long x)) (k : Ev L xs d mi (pc + 1) lv (.long x :: st) h r) : Ev L xs d mi pc lv st h r := by
  refine Ev.nx hh hi (x := (pc + 1, lv, .long x :: st, h)) ?_ k
  simp only [mm_step, mm_lld, if_true, hl]
theorem Ev.aload {i : Nat} {x : Nat} (hh : mm_hd mi = some H) (hi : mm_cd mi pc = some (.aload i, 2, r1, r2)) (hl : mm_look lv i = some (.ref x)) (k : Ev L xs d mi (pc + 2) lv (.ref x :: st) h r) : Ev L xs d mi pc lv st h r := by
  refine Ev.nx hh hi (x := (pc + 2, lv, .ref x :: st, h)) ?_ k
  simp only [mm_step, mm_ald, if_true, hl]
theorem Ev.aloadT {i : Nat} {x : Nat} (hh : mm_hd mi = some H) (hi : mm_cd mi pc = some (.aload i, 2, r1, r2)) (hl : mm_look lv i = some (.retAddr x)) (k : Ev L xs d mi (pc + 2) lv (.retAddr x :: st) h r) : Ev L xs d mi pc lv st h r := by
  refine Ev.nx hh hi (x := (pc + 2, lv, .retAddr x :: st, h)) ?_ k
  simp only [mm_step, mm_ald, if_true, hl]
theorem Ev.aload_n {i : Fin 4} {x : Nat} (hh : mm_hd mi = some H) (hi : mm_cd mi pc = some (.aload_n i, 1, r1, r2)) (hl : mm_look lv i = some (.ref x)) (k : Ev L xs d mi (pc + 1) lv (.ref x :: st) h r) : Ev L xs d mi pc lv st h r := by
  refine Ev.nx hh hi (x := (pc + 1, lv, .ref x :: st, h)) ?_ k
  simp only [mm_step, mm_ald, if_true, hl]
theorem Ev.aload_nT {i : Fin 4} {x : Nat} (hh : mm_hd mi = some H) (hi : mm_cd mi pc = some (.aload_n i, 1, r1, r2)) (hl : mm_look lv i = some (.retAddr x)) (k : Ev L xs d mi (pc + 1) lv (.retAddr x :: st) h r) : Ev L xs d mi pc lv st h r := by
  refine Ev.nx hh hi (x := (pc + 1, lv, .retAddr x :: st, h)) ?_ k
  simp only [mm_step, mm_ald, if_true, hl]
theorem Ev.istore {i : Nat} {x : Int32} {lv2 : mm_L} (hh : mm_hd mi = some H) (hi : mm_cd mi pc = some (.istore i, 2, r1, r2)) (hn : (i : Nat) < H.2.1) (hl : mm_st1 lv i (.int x) = lv2) (k : Ev L xs d mi (pc + 2) lv2 st h r) : Ev L xs d mi pc lv (.int x :: st) h r := by
  subst hl
  refine Ev.nx hh hi (x := (pc + 2, mm_st1 lv i (.int x), st, h)) ?_ k
  simp only [mm_step, mm_ist, if_true, if_pos hn]
theorem Ev.istore_n {i : Fin 4} {x : Int32} {lv2 : mm_L} (hh : mm_hd mi = some H) (hi : mm_cd mi pc = some (.istore_n i, 1, r1, r2)) (hn : (i : Nat) < H.2.1) (hl : mm_st1 lv i (.int x) = lv2) (k : Ev L xs d mi (pc + 1) lv2 st h r) : Ev L xs d mi pc lv (.int x :: st) h r := by
  subst hl
  refine Ev.nx hh hi (x := (pc + 1, mm_st1 lv i (.int x), st, h)) ?_ k
  simp only [mm_step, mm_ist, if_true, if_pos hn]
theorem Ev.astore {i : Nat} {x : Nat} {lv2 : mm_L} (hh : mm_hd mi = some H) (hi : mm_cd mi pc = some (.astore i, 2, r1, r2)) (hn : (i : Nat) < H.2.1) (hl : mm_st1 lv i (.ref x) = lv2) (k : Ev L xs d mi (pc + 2) lv2 st h r) : Ev L xs d mi pc lv (.ref x :: st) h r := by
  subst hl
  refine Ev.nx hh hi (x := (pc + 2, mm_st1 lv i (.ref x), st, h)) ?_ k
  simp only [mm_step, mm_ast, if_true, if_pos hn]
theorem Ev.astore_n {i : Fin 4} {x : Nat} {lv2 : mm_L} (hh : mm_hd mi = some H) (hi : mm_cd mi pc = some (.astore_n i, 1, r1, r2)) (hn : (i : Nat) < H.2.1) (hl : mm_st1 lv i (.ref x) = lv2) (k : Ev L xs d mi (pc + 1) lv2 st h r) : Ev L xs d mi pc lv (.ref x :: st) h r := by
  subst hl
  refine Ev.nx hh hi (x := (pc + 1, mm_st1 lv i (.ref x), st, h)) ?_ k
  simp only [mm_step, mm_ast, if_true, if_pos hn]
theorem Ev.lstore {i : Nat} {x : Int64} {lv2 : mm_L} (hh : mm_hd mi = some H) (hi : mm_cd mi pc = some (.lstore i, 2, r1, r2)) (hn : (i : Nat) + 1 < H.2.1) (hl : mm_st2 lv i (.long x) = lv2) (k : Ev L xs d mi (pc + 2) lv2 st h r) : Ev L xs d mi pc lv (.long x :: st) h r := by
  subst hl
  refine Ev.nx hh hi (x := (pc + 2, mm_st2 lv i (.long x), st, h)) ?_ k
  simp only [mm_step, mm_lst, if_true, if_pos hn]
theorem Ev.lstore_n {i : Fin 4} {x : Int64} {lv2 : mm_L} (hh : mm_hd mi = some H) (hi : mm_cd mi pc = some (.lstore_n i, 1, r1, r2)) (hn : (i : Nat) + 1 < H.2.1) (hl : mm_st2 lv i (.long x) = lv2) (k : Ev L xs d mi (pc + 1) lv2 st h r) : Ev L xs d mi pc lv (.long x :: st) h r := by
  subst hl
  refine Ev.nx hh hi (x := (pc + 1, mm_st2 lv i (.long x), st, h)) ?_ k
  simp only [mm_step, mm_lst, if_true, if_pos hn]
theorem Ev.iinc {i : Nat} {n : Int} {c x : Int32} {lv2 : mm_L} (hh : mm_hd mi = some H) (hi : mm_cd mi pc = some (.iinc i n, 3, r1, r2)) (hn : i < H.2.1) (hx : mm_look lv i = some (.int x)) (hv : Int32.ofInt n = c) (hl : mm_st1 lv i (.int (x + c)) = lv2) (k : Ev L xs d mi (pc + 3) lv2 st h r) : Ev L xs d mi pc lv st h r := by
  subst hl
  subst hv
  refine Ev.nx hh hi (x := (pc + 3, mm_st1 lv i (.int (x + Int32.ofInt n)), st, h)) ?_ k
  simp only [mm_step, hx]
  rw [if_pos ⟨trivial, hn⟩]
theorem Ev.iadd {x y : Int32} (hh : mm_hd mi = some H) (hi : mm_cd mi pc = some (.iadd, 1, r1, r2)) (k : Ev L xs d mi (pc + 1) lv (.int (x + y) :: st) h r) : Ev L xs d mi pc lv (.int y :: .int x :: st) h r := Ev.nx hh hi rfl k
theorem Ev.isub {x y : Int32} (hh : mm_hd mi = some H) (hi : mm_cd mi pc = some (.isub, 1, r1, r2)) (k : Ev L xs d mi (pc + 1) lv (.int (x - y) :: st) h r) : Ev L xs d mi pc lv (.int y :: .int x :: st) h r := Ev.nx hh hi rfl k
theorem Ev.imul {x y : Int32} (hh : mm_hd mi = some H) (hi : mm_cd mi pc = some (.imul, 1, r1, r2)) (k : Ev L xs d mi (pc + 1) lv (.int (x * y) :: st) h r) : Ev L xs d mi pc lv (.int y :: .int x :: st) h r := Ev.nx hh hi rfl k
theorem Ev.iand {x y : Int32} (hh : mm_hd mi = some H) (hi : mm_cd mi pc = some (.iand, 1, r1, r2)) (k : Ev L xs d mi (pc + 1) lv (.int (x &&& y) :: st) h r) : Ev L xs d mi pc lv (.int y :: .int x :: st) h r := Ev.nx hh hi rfl k
theorem Ev.ior {x y : Int32} (hh : mm_hd mi = some H) (hi : mm_cd mi pc = some (.ior, 1, r1, r2)) (k : Ev L xs d mi (pc + 1) lv (.int (x ||| y) :: st) h r) : Ev L xs d mi pc lv (.int y :: .int x :: st) h r := Ev.nx hh hi rfl k
theorem Ev.ixor {x y : Int32} (hh : mm_hd mi = some H) (hi : mm_cd mi pc = some (.ixor, 1, r1, r2)) (k : Ev L xs d mi (pc + 1) lv (.int (x ^^^ y) :: st) h r) : Ev L xs d mi pc lv (.int y :: .int x :: st) h r := Ev.nx hh hi rfl k
theorem Ev.ishl {x y : Int32} (hh : mm_hd mi = some H) (hi : mm_cd mi pc = some (.ishl, 1, r1, r2)) (k : Ev L xs d mi (pc + 1) lv (.int (x <<< (y &&& 31)) :: st) h r) : Ev L xs d mi pc lv (.int y :: .int x :: st) h r := Ev.nx hh hi rfl k
theorem Ev.ishr {x y : Int32} (hh : mm_hd mi = some H) (hi : mm_cd mi pc = some (.ishr, 1, r1, r2)) (k : Ev L xs d mi (pc + 1) lv (.int (x >>> (y &&& 31)) :: st) h r) : Ev L xs d mi pc lv (.int y :: .int x :: st) h r := Ev.nx hh hi rfl k
theorem Ev.iushr {x y : Int32} (hh : mm_hd mi = some H) (hi : mm_cd mi pc = some (.iushr, 1, r1, r2)) (k : Ev L xs d mi (pc + 1) lv (.int ((x.toUInt32 >>> (y.toUInt32 &&& Int32.toUInt32 31)).toInt32) :: st) h r) : Ev L xs d mi pc lv (.int y :: .int x :: st) h r := Ev.nx hh hi rfl k
theorem Ev.idiv {x y : Int32} (hh : mm_hd mi = some H) (hi : mm_cd mi pc = some (.idiv, 1, r1, r2)) (hz : ¬ y = 0) (k : Ev L xs d mi (pc + 1) lv (.int (x / y) :: st) h r) : Ev L xs d mi pc lv (.int y :: .int x :: st) h r := by
  refine Ev.nx hh hi (x := (pc + 1, lv, .int (x / y) :: st, h)) ?_ k
  simp only [mm_step, if_true, if_pos hz]
theorem Ev.irem {x y : Int32} (hh : mm_hd mi = some H) (hi : mm_cd mi pc = some (.irem, 1, r1, r2)) (hz : ¬ y = 0) (k : Ev L xs d mi (pc + 1) lv (.int (x - x / y * y) :: st) h r) : Ev L xs d mi pc lv (.int y :: .int x :: st) h r := by
  refine Ev.nx hh hi (x := (pc + 1, lv, .int (x - x / y * y) :: st, h)) ?_ k
  simp only [mm_step, if_true, if_pos hz]
theorem Ev.ineg {x : Int32} (hh : mm_hd mi = some H) (hi : mm_cd mi pc = some (.ineg, 1, r1, r2)) (k : Ev L xs d mi (pc + 1) lv (.int (-x) :: st) h r) : Ev L xs d mi pc lv (.int x :: st) h r := Ev.nx hh hi rfl k
theorem Ev.ladd {x y : Int64} (hh : mm_hd mi = some H) (hi : mm_cd mi pc = some (.ladd, 1, r1, r2)) (k : Ev L xs d mi (pc + 1) lv (.long (x + y) :: st) h r) : Ev L xs d mi pc lv (.long y :: .long x :: st) h r := Ev.nx hh hi rfl k
theorem Ev.lmul {x y : Int64} (hh : mm_hd mi = some H) (hi : mm_cd mi pc = some (.lmul, 1, r1, r2)) (k : Ev L xs d mi (pc + 1) lv (.long (x * y) :: st) h r) : Ev L xs d mi pc lv (.long y :: .long x :: st) h r := Ev.nx hh hi rfl k
theorem Ev.ldiv {x y : Int64} (hh : mm_hd mi = some H) (hi : mm_cd mi pc = some (.ldiv, 1, r1, r2)) (hz : ¬ y = 0) (k : Ev L xs d mi (pc + 1) lv (.long (x / y) :: st) h r) : Ev L xs d mi pc lv (.long y :: .long x :: st) h r := by
  refine Ev.nx hh hi (x := (pc + 1, lv, .long (x / y) :: st, h)) ?_ k
  simp only [mm_step, if_true, if_pos hz]
theorem Ev.lcmp {x y : Int64} (hh : mm_hd mi = some H) (hi : mm_cd mi pc = some (.lcmp, 1, r1, r2)) (k : Ev L xs d mi (pc + 1) lv (.int (lg_cmp x y) :: st) h r) : Ev L xs d mi pc lv (.long y :: .long x :: st) h r := Ev.nx hh hi rfl k
theorem Ev.i2l {x : Int32} (hh : mm_hd mi = some H) (hi : mm_cd mi pc = some (.i2l, 1, r1, r2)) (k : Ev L xs d mi (pc + 1) lv (.long x.toInt64 :: st) h r) : Ev L xs d mi pc lv (.int x :: st) h r := Ev.nx hh hi rfl k
theorem Ev.l2i {x : Int64} (hh : mm_hd mi = some H) (hi : mm_cd mi pc = some (.l2i, 1, r1, r2)) (k : Ev L xs d mi (pc + 1) lv (.int x.toInt32 :: st) h r) : Ev L xs d mi pc lv (.long x :: st) h r := Ev.nx hh hi rfl k
theorem Ev.i2b {x : Int32} (hh : mm_hd mi = some H) (hi : mm_cd mi pc = some (.i2b, 1, r1, r2)) (k : Ev L xs d mi (pc + 1) lv (.int x.toInt8.toInt32 :: st) h r) : Ev L xs d mi pc lv (.int x :: st) h r := Ev.nx hh hi rfl k
theorem Ev.dup {v : Value} (hh : mm_hd mi = some H) (hi : mm_cd mi pc = some (.dup, 1, r1, r2)) (hv : v.category = 1) (k : Ev L xs d mi (pc + 1) lv (v :: v :: st) h r) : Ev L xs d mi pc lv (v :: st) h r := by
  refine Ev.nx hh hi (x := (pc + 1, lv, v :: v :: st, h)) ?_ k
  simp only [mm_step, if_true, if_pos hv]
theorem Ev.dup2 {v w : Value} (hh : mm_hd mi = some H) (hi : mm_cd mi pc = some (.dup2, 1, r1, r2)) (hv : v.category = 1 ∧ w.category = 1) (k : Ev L xs d mi (pc + 1) lv (v :: w :: v :: w :: st) h r) : Ev L xs d mi pc lv (v :: w :: st) h r := by
  refine Ev.nx hh hi (x := (pc + 1, lv, v :: w :: v :: w :: st, h)) ?_ k
  simp only [mm_step, if_true, if_pos hv]
theorem Ev.pop {v : Value} (hh : mm_hd mi = some H) (hi : mm_cd mi pc = some (.pop, 1, r1, r2)) (hv : v.category = 1) (k : Ev L xs d mi (pc + 1) lv st h r) : Ev L xs d mi pc lv (v :: st) h r := by
  refine Ev.nx hh hi (x := (pc + 1, lv, st, h)) ?_ k
  simp only [mm_step, if_true, if_pos hv]
theorem Ev.goto {off : Int} {t : Nat} (hh : mm_hd mi = some H) (hi : mm_cd mi pc = some (.goto off, 3, r1, r2)) (ht : mm_tgt pc off = some t) (k : Ev L xs d mi t lv st h r) : Ev L xs d mi pc lv st h r := by
  refine Ev.nx hh hi (x := (t, lv, st, h)) ?_ k
  simp only [mm_step, mm_jmp, if_true, ht]
theorem Ev.if_eq {off : Int} {t : Nat} {x : Int32} (hh : mm_hd mi = some H) (hi : mm_cd mi pc = some (.ifCond .eq off, 3, r1, r2)) (ht : mm_tgt pc off = some t) (k1 : x = 0 → Ev L xs d mi t lv st h r) (k2 : ¬ (x = 0) → Ev L xs d mi (pc + 3) lv st h r) : Ev L xs d mi pc lv (.int x :: st) h r := by
  have hs : mm_step (mm_B L xs mm_mc mm_na) H.1 H.2.1 H.2.2.2.1 (.ifCond .eq off) 3 r1 r2 pc lv (.int x :: st) h = some (.inl (if mm_c1 .eq x = true then t else pc + 3, lv, st, h)) := by simp only [mm_step, if_true, ht]
  refine Ev.nx hh hi hs ?_
  dsimp only
  by_cases hc : x = 0
  · rw [if_pos (show mm_c1 .eq x = true from decide_eq_true hc)]; exact k1 hc
  · rw [if_neg (show ¬ mm_c1 .eq x = true from fun hq => hc (of_decide_eq_true hq))]; exact k2 hc
theorem Ev.if_ne {off : Int} {t : Nat} {x : Int32} (hh : mm_hd mi = some H) (hi : mm_cd mi pc = some (.ifCond .ne off, 3, r1, r2)) (ht : mm_tgt pc off = some t) (k1 : ¬ x = 0 → Ev L xs d mi t lv st h r) (k2 : ¬ (¬ x = 0) → Ev L xs d mi (pc + 3) lv st h r) : Ev L xs d mi pc lv (.int x :: st) h r := by
  have hs : mm_step (mm_B L xs mm_mc mm_na) H.1 H.2.1 H.2.2.2.1 (.ifCond .ne off) 3 r1 r2 pc lv (.int x :: st) h = some (.inl (if mm_c1 .ne x = true then t else pc + 3, lv, st, h)) := by simp only [mm_step, if_true, ht]
  refine Ev.nx hh hi hs ?_
  dsimp only
  by_cases hc : ¬ x = 0
  · rw [if_pos (show mm_c1 .ne x = true from decide_eq_true hc)]; exact k1 hc
  · rw [if_neg (show ¬ mm_c1 .ne x = true from fun hq => hc (of_decide_eq_true hq))]; exact k2 hc
theorem Ev.if_lt {off : Int} {t : Nat} {x : Int32} (hh : mm_hd mi = some H) (hi : mm_cd mi pc = some (.ifCond .lt off, 3, r1, r2)) (ht : mm_tgt pc off = some t) (k1 : x < 0 → Ev L xs d mi t lv st h r) (k2 : ¬ (x < 0) → Ev L xs d mi (pc + 3) lv st h r) : Ev L xs d mi pc lv (.int x :: st) h r := by
  have hs : mm_step (mm_B L xs mm_mc mm_na) H.1 H.2.1 H.2.2.2.1 (.ifCond .lt off) 3 r1 r2 pc lv (.int x :: st) h = some (.inl (if mm_c1 .lt x = true then t else pc + 3, lv, st, h)) := by simp only [mm_step, if_true, ht]
  refine Ev.nx hh hi hs ?_
  dsimp only
  by_cases hc : x < 0
  · rw [if_pos (show mm_c1 .lt x = true from decide_eq_true hc)]; exact k1 hc
  · rw [if_neg (show ¬ mm_c1 .lt x = true from fun hq => hc (of_decide_eq_true hq))]; exact k2 hc
theorem Ev.if_ge {off : Int} {t : Nat} {x : Int32} (hh : mm_hd mi = some H) (hi : mm_cd mi pc = some (.ifCond .ge off, 3, r1, r2)) (ht : mm_tgt pc off = some t) (k1 : 0 ≤ x → Ev L xs d mi t lv st h r) (k2 : ¬ (0 ≤ x) → Ev L xs d mi (pc + 3) lv st h r) : Ev L xs d mi pc lv (.int x :: st) h r := by
  have hs : mm_step (mm_B L xs mm_mc mm_na) H.1 H.2.1 H.2.2.2.1 (.ifCond .ge off) 3 r1 r2 pc lv (.int x :: st) h = some (.inl (if mm_c1 .ge x = true then t else pc + 3, lv, st, h)) := by simp only [mm_step, if_true, ht]
  refine Ev.nx hh hi hs ?_
  dsimp only
  by_cases hc : 0 ≤ x
  · rw [if_pos (show mm_c1 .ge x = true from decide_eq_true hc)]; exact k1 hc
  · rw [if_neg (show ¬ mm_c1 .ge x = true from fun hq => hc (of_decide_eq_true hq))]; exact k2 hc
theorem Ev.if_gt {off : Int} {t : Nat} {x : Int32} (hh : mm_hd mi = some H) (hi : mm_cd mi pc = some (.ifCond .gt off, 3, r1, r2)) (ht : mm_tgt pc off = some t) (k1 : 0 < x → Ev L xs d mi t lv st h r) (k2 : ¬ (0 < x) → Ev L xs d mi (pc + 3) lv st h r) : Ev L xs d mi pc lv (.int x :: st) h r := by
  have hs : mm_step (mm_B L xs mm_mc mm_na) H.1 H.2.1 H.2.2.2.1 (.ifCond .gt off) 3 r1 r2 pc lv (.int x :: st) h = some (.inl (if mm_c1 .gt x = true then t else pc + 3, lv, st, h)) := by simp only [mm_step, if_true, ht]
  refine Ev.nx hh hi hs ?_
  dsimp only
  by_cases hc : 0 < x
  · rw [if_pos (show mm_c1 .gt x = true from decide_eq_true hc)]; exact k1 hc
  · rw [if_neg (show ¬ mm_c1 .gt x = true from fun hq => hc (of_decide_eq_true hq))]; exact k2 hc
theorem Ev.if_le {off : Int} {t : Nat} {x : Int32} (hh : mm_hd mi = some H) (hi : mm_cd mi pc = some (.ifCond .le off, 3, r1, r2)) (ht : mm_tgt pc off = some t) (k1 : x ≤ 0 → Ev L xs d mi t lv st h r) (k2 : ¬ (x ≤ 0) → Ev L xs d mi (pc + 3) lv st h r) : Ev L xs d mi pc lv (.int x :: st) h r := by
  have hs : mm_step (mm_B L xs mm_mc mm_na) H.1 H.2.1 H.2.2.2.1 (.ifCond .le off) 3 r1 r2 pc lv (.int x :: st) h = some (.inl (if mm_c1 .le x = true then t else pc + 3, lv, st, h)) := by simp only [mm_step, if_true, ht]
  refine Ev.nx hh hi hs ?_
  dsimp only
  by_cases hc : x ≤ 0
  · rw [if_pos (show mm_c1 .le x = true from decide_eq_true hc)]; exact k1 hc
  · rw [if_neg (show ¬ mm_c1 .le x = true from fun hq => hc (of_decide_eq_true hq))]; exact k2 hc
theorem Ev.ic_eq {off : Int} {t : Nat} {x y : Int32} (hh : mm_hd mi = some H) (hi : mm_cd mi pc = some (.if_icmp .eq off, 3, r1, r2)) (ht : mm_tgt pc off = some t) (k1 : x = y → Ev L xs d mi t lv st h r) (k2 : ¬ (x = y) → Ev L xs d mi (pc + 3) lv st h r) : Ev L xs d mi pc lv (.int y :: .int x :: st) h r := by
  have hs : mm_step (mm_B L xs mm_mc mm_na) H.1 H.2.1 H.2.2.2.1 (.if_icmp .eq off) 3 r1 r2 pc lv (.int y :: .int x :: st) h = some (.inl (if mm_c2 .eq x y = true then t else pc + 3, lv, st, h)) := by simp only [mm_step, if_true, ht]
  refine Ev.nx hh hi hs ?_
  dsimp only
  by_cases hc : x = y
  · rw [if_pos (show mm_c2 .eq x y = true from decide_eq_true hc)]; exact k1 hc
  · rw [if_neg (show ¬ mm_c2 .eq x y = true from fun hq => hc (of_decide_eq_true hq))]; exact k2 hc
theorem Ev.ic_ne {off : Int} {t : Nat} {x y : Int32} (hh : mm_hd mi = some H) (hi : mm_cd mi pc = some (.if_icmp .ne off, 3, r1, r2)) (ht : mm_tgt pc off = some t) (k1 : ¬ x = y → Ev L xs d mi t lv st h r) (k2 : ¬ (¬ x = y) → Ev L xs d mi (pc + 3) lv st h r) : Ev L xs d mi pc lv (.int y :: .int x :: st) h r := by
  have hs : mm_step (mm_B L xs mm_mc mm_na) H.1 H.2.1 H.2.2.2.1 (.if_icmp .ne off) 3 r1 r2 pc lv (.int y :: .int x :: st) h = some (.inl (if mm_c2 .ne x y = true then t else pc + 3, lv, st, h)) := by simp only [mm_step, if_true, ht]
  refine Ev.nx hh hi hs ?_
  dsimp only
  by_cases hc : ¬ x = y
  · rw [if_pos (show mm_c2 .ne x y = true from decide_eq_true hc)]; exact k1 hc
  · rw [if_neg (show ¬ mm_c2 .ne x y = true from fun hq => hc (of_decide_eq_true hq))]; exact k2 hc
theorem Ev.ic_lt {off : Int} {t : Nat} {x y : Int32} (hh : mm_hd mi = some H) (hi : mm_cd mi pc = some (.if_icmp .lt off, 3, r1, r2)) (ht : mm_tgt pc off = some t) (k1 : x < y → Ev L xs d mi t lv st h r) (k2 : ¬ (x < y) → Ev L xs d mi (pc + 3) lv st h r) : Ev L xs d mi pc lv (.int y :: .int x :: st) h r := by
  have hs : mm_step (mm_B L xs mm_mc mm_na) H.1 H.2.1 H.2.2.2.1 (.if_icmp .lt off) 3 r1 r2 pc lv (.int y :: .int x :: st) h = some (.inl (if mm_c2 .lt x y = true then t else pc + 3, lv, st, h)) := by simp only [mm_step, if_true, ht]
  refine Ev.nx hh hi hs ?_
  dsimp only
  by_cases hc : x < y
  · rw [if_pos (show mm_c2 .lt x y = true from decide_eq_true hc)]; exact k1 hc
  · rw [if_neg (show ¬ mm_c2 .lt x y = true from fun hq => hc (of_decide_eq_true hq))]; exact k2 hc
theorem Ev.ic_ge {off : Int} {t : Nat} {x y : Int32} (hh : mm_hd mi = some H) (hi : mm_cd mi pc = some (.if_icmp .ge off, 3, r1, r2)) (ht : mm_tgt pc off = some t) (k1 : y ≤ x → Ev L xs d mi t lv st h r) (k2 : ¬ (y ≤ x) → Ev L xs d mi (pc + 3) lv st h r) : Ev L xs d mi pc lv (.int y :: .int x :: st) h r := by
  have hs : mm_step (mm_B L xs mm_mc mm_na) H.1 H.2.1 H.2.2.2.1 (.if_icmp .ge off) 3 r1 r2 pc lv (.int y :: .int x :: st) h = some (.inl (if mm_c2 .ge x y = true then t else pc + 3, lv, st, h)) := by simp only [mm_step, if_true, ht]
  refine Ev.nx hh hi hs ?_
  dsimp only
  by_cases hc : y ≤ x
  · rw [if_pos (show mm_c2 .ge x y = true from decide_eq_true hc)]; exact k1 hc
  · rw [if_neg (show ¬ mm_c2 .ge x y = true from fun hq => hc (of_decide_eq_true hq))]; exact k2 hc
theorem Ev.ic_gt {off : Int} {t : Nat} {x y : Int32} (hh : mm_hd mi = some H) (hi : mm_cd mi pc = some (.if_icmp .gt off, 3, r1, r2)) (ht : mm_tgt pc off = some t) (k1 : y < x → Ev L xs d mi t lv st h r) (k2 : ¬ (y < x) → Ev L xs d mi (pc + 3) lv st h r) : Ev L xs d mi pc lv (.int y :: .int x :: st) h r := by
  have hs : mm_step (mm_B L xs mm_mc mm_na) H.1 H.2.1 H.2.2.2.1 (.if_icmp .gt off) 3 r1 r2 pc lv (.int y :: .int x :: st) h = some (.inl (if mm_c2 .gt x y = true then t else pc + 3, lv, st, h)) := by simp only [mm_step, if_true, ht]
  refine Ev.nx hh hi hs ?_
  dsimp only
  by_cases hc : y < x
  · rw [if_pos (show mm_c2 .gt x y = true from decide_eq_true hc)]; exact k1 hc
  · rw [if_neg (show ¬ mm_c2 .gt x y = true from fun hq => hc (of_decide_eq_true hq))]; exact k2 hc
theorem Ev.ic_le {off : Int} {t : Nat} {x y : Int32} (hh : mm_hd mi = some H) (hi : mm_cd mi pc = some (.if_icmp .le off, 3, r1, r2)) (ht : mm_tgt pc off = some t) (k1 : x ≤ y → Ev L xs d mi t lv st h r) (k2 : ¬ (x ≤ y) → Ev L xs d mi (pc + 3) lv st h r) : Ev L xs d mi pc lv (.int y :: .int x :: st) h r := by
  have hs : mm_step (mm_B L xs mm_mc mm_na) H.1 H.2.1 H.2.2.2.1 (.if_icmp .le off) 3 r1 r2 pc lv (.int y :: .int x :: st) h = some (.inl (if mm_c2 .le x y = true then t else pc + 3, lv, st, h)) := by simp only [mm_step, if_true, ht]
  refine Ev.nx hh hi hs ?_
  dsimp only
  by_cases hc : x ≤ y
  · rw [if_pos (show mm_c2 .le x y = true from decide_eq_true hc)]; exact k1 hc
  · rw [if_neg (show ¬ mm_c2 .le x y = true from fun hq => hc (of_decide_eq_true hq))]; exact k2 hc
theorem Ev.ireturn {x : Int32} (hh : mm_hd mi = some H) (hi : mm_cd mi pc = some (.ireturn, 1, r1, r2)) (hok : mm_rok H.2.2.1 (some (.int x)) = true) : Ev L xs d mi pc lv [.int x] h (.inl (some (.int x)), h) := Ev.rt hh hi rfl hok
theorem Ev.return_ (hh : mm_hd mi = some H) (hi : mm_cd mi pc = some (.return_, 1, r1, r2)) (hok : mm_rok H.2.2.1 none = true) : Ev L xs d mi pc lv [] h (.inl none, h) := Ev.rt hh hi rfl hok
theorem Ev.throw {i : Nat} {t : Nat} (hh : mm_hd mi = some H) (hi : mm_cd mi pc = some (.new i, 3, 1, t)) (hs : (st.map fun v => v.category).sum ≤ 8) : Ev L xs d mi pc lv st h (.inr (mm_X t), (h.1, false, h.2.2.1 + 1, h.2.2.2 + 6)) := by
  refine Ev.th hh hi ?_
  simp only [mm_step, if_true]
  rw [if_pos hs]
theorem Ev.minmax {i : Nat} {x y : Int32} (hh : mm_hd mi = some H) (hi : mm_cd mi pc = some (.invokestatic i, 3, 2, r2)) (hs : (st.map fun v => v.category).sum ≤ 8) (k : Ev L xs d mi (pc + 3) lv (.int (if x < y then y else x) :: st) h r) : Ev L xs d mi pc lv (.int y :: .int x :: st) h r := by
  refine Ev.nx hh hi (x := (pc + 3, lv, .int (if x < y then y else x) :: st, h)) ?_ k
  simp only [mm_step, if_true]
  rw [if_pos hs]
theorem Ev.minmax3 {i : Nat} {x y : Int32} (hh : mm_hd mi = some H) (hi : mm_cd mi pc = some (.invokestatic i, 3, 3, r2)) (hs : (st.map fun v => v.category).sum ≤ 8) (k : Ev L xs d mi (pc + 3) lv (.int (if y < x then y else x) :: st) h r) : Ev L xs d mi pc lv (.int y :: .int x :: st) h r := by
  refine Ev.nx hh hi (x := (pc + 3, lv, .int (if y < x then y else x) :: st, h)) ?_ k
  simp only [mm_step, if_true]
  rw [if_pos hs]
end EVI
