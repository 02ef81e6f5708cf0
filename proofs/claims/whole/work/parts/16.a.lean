/-! THE MAKERS: rules -/
theorem mkG {e : va_E} {t : List va_E} : ∀ (p : List va_E) {b : Nat}, p.length = b → (p ++ e :: t)[b]? = some e
  | [], _, h => by subst h; rfl
  | _ :: p, _, h => by subst h; exact mkG p rfl
theorem mkS {e e' : va_E} {t : List va_E} : ∀ (p : List va_E) {b : Nat}, p.length = b → (p ++ e :: t).set b e' = p ++ e' :: t
  | [], _, h => by subst h; rfl
  | x :: p, _, h => by subst h; exact congrArg (fun l => x :: l) (mkS p rfl)
def ZA (n : Nat) : va_E := .inl (0, n, .inl (fun _ => 0))
def oC (ci : Nat) (fs : List Value) : va_E := .inr (ci, fs)
section MK
variable {L : Nat} {xs : Nat → Int32} {d mi pc : Nat} {lv : mm_L} {st : List Value} {r : mm_R} {p t l : List va_E} {fs : List Value} {n k ci kk b q m i : Nat} {r1 : Int} {H : mm_Hd}
theorem Mput {v : Value} (hh : mm_hd mi = some H) (hi : mm_cd mi pc = some (.putfield i, 3, r1, kk)) (h1 : r1.toNat = ci) (hk : kk < fs.length) (hf : mm_fitF mm_ty ci kk v = true) (ho : mm_fin ci kk = false ∨ (H.2.2.2.1 = true ∧ H.1 = ci)) (hb : p.length = b) (kont : Ev L xs d mi (pc + 3) lv st (p ++ oC ci (fs.set kk v) :: t, true, n, k) r) : Ev L xs d mi pc lv (v :: .ref b :: st) (p ++ oC ci fs :: t, true, n, k) r := by
  refine Ev.nx hh hi (x := (pc + 3, lv, st, (p ++ oC ci (fs.set kk v) :: t, true, n, k))) ?_ kont
  show (if 3 = 3 then mm_putf mm_ty mm_fin H.2.2.2.1 H.1 r1.toNat kk pc lv (v :: .ref b :: st) (p ++ oC ci fs :: t, true, n, k) else none) = _
  rw [if_pos rfl, h1]
  unfold mm_putf
  dsimp only
  rw [mkG p hb]
  dsimp only [oC]
  rw [if_pos ⟨rfl, hk, hf, ho⟩, mkS p hb]
theorem Mget {v : Value} (hh : mm_hd mi = some H) (hi : mm_cd mi pc = some (.getfield i, 3, r1, kk)) (h1 : r1.toNat = ci) (hg : l[b]? = some (oC ci fs)) (hv : fs[kk]? = some v) (kont : Ev L xs d mi (pc + 3) lv (v :: st) (l, true, n, k) r) : Ev L xs d mi pc lv (.ref b :: st) (l, true, n, k) r := by
  refine Ev.nx hh hi (x := (pc + 3, lv, v :: st, (l, true, n, k))) ?_ kont
  show (if 3 = 3 then mm_getf r1.toNat kk pc lv (.ref b :: st) (l, true, n, k) else none) = _
  rw [if_pos rfl, h1]
  unfold mm_getf
  dsimp only
  rw [hg]
  dsimp only [oC]
  rw [if_pos rfl, hv]
theorem Mni {c : Int32} (hh : mm_hd mi = some H) (hi : mm_cd mi pc = some (.newarray .int, 2, 0, 0)) (hc : c = nI m) (hm : m ≤ 100000) (kont : Ev L xs d mi (pc + 2) lv (.ref l.length :: st) (l ++ [ZA m], true, n + 1, k + m) r) : Ev L xs d mi pc lv (.int c :: st) (l, true, n, k) r := by
  subst hc
  have hz : ¬ nI m < 0 := by rw [show (0 : Int32) = nI 0 by decide, lt0 (by omega)]; exact id
  refine Ev.nx hh hi (x := (pc + 2, lv, .ref l.length :: st, (l ++ [ZA m], true, n + 1, k + m))) ?_ kont
  show (if 2 = 2 then (if ¬ nI m < 0 ∧ (nI m).toNatClampNeg ≤ 100000 then mm_new1 2 (.inl (0, (nI m).toNatClampNeg, .inl (fun _ => 0))) (nI m).toNatClampNeg pc lv st (l, true, n, k) else none) else none) = _
  rw [if_pos rfl, nI_clp (by omega), if_pos ⟨hz, hm⟩]
  rfl
theorem Mnb {c : Int32} (hh : mm_hd mi = some H) (hi : mm_cd mi pc = some (.newarray .byte, 2, 0, 0)) (hc : c = nI m) (hm : m ≤ 100000) (kont : Ev L xs d mi (pc + 2) lv (.ref l.length :: st) (l ++ [.inl (1, m, .inl (fun _ => 0))], true, n + 1, k + m) r) : Ev L xs d mi pc lv (.int c :: st) (l, true, n, k) r := by
  subst hc
  have hz : ¬ nI m < 0 := by rw [show (0 : Int32) = nI 0 by decide, lt0 (by omega)]; exact id
  refine Ev.nx hh hi (x := (pc + 2, lv, .ref l.length :: st, (l ++ [.inl (1, m, .inl (fun _ => 0))], true, n + 1, k + m))) ?_ kont
  show (if 2 = 2 then (if ¬ nI m < 0 ∧ (nI m).toNatClampNeg ≤ 100000 then mm_new1 2 (.inl (1, (nI m).toNatClampNeg, .inl (fun _ => 0))) (nI m).toNatClampNeg pc lv st (l, true, n, k) else none) else none) = _
  rw [if_pos rfl, nI_clp (by omega), if_pos ⟨hz, hm⟩]
  rfl
theorem Mnl {c : Int32} (hh : mm_hd mi = some H) (hi : mm_cd mi pc = some (.newarray .long, 2, 0, 0)) (hc : c = nI m) (hm : m ≤ 100000) (kont : Ev L xs d mi (pc + 2) lv (.ref l.length :: st) (l ++ [.inl (2, m, .inr (.inl (fun _ => 0)))], true, n + 1, k + m) r) : Ev L xs d mi pc lv (.int c :: st) (l, true, n, k) r := by
  subst hc
  have hz : ¬ nI m < 0 := by rw [show (0 : Int32) = nI 0 by decide, lt0 (by omega)]; exact id
  refine Ev.nx hh hi (x := (pc + 2, lv, .ref l.length :: st, (l ++ [.inl (2, m, .inr (.inl (fun _ => 0)))], true, n + 1, k + m))) ?_ kont
  show (if 2 = 2 then (if ¬ nI m < 0 ∧ (nI m).toNatClampNeg ≤ 100000 then mm_new1 2 (.inl (2, (nI m).toNatClampNeg, .inr (.inl (fun _ => 0)))) (nI m).toNatClampNeg pc lv st (l, true, n, k) else none) else none) = _
  rw [if_pos rfl, nI_clp (by omega), if_pos ⟨hz, hm⟩]
  rfl
theorem Mna {c : Int32} (hh : mm_hd mi = some H) (hi : mm_cd mi pc = some (.anewarray i, 3, 0, 0)) (hc : c = nI m) (hm : m ≤ 100000) (kont : Ev L xs d mi (pc + 3) lv (.ref l.length :: st) (l ++ [.inl (3, m, .inr (.inr (.inr (.inr (fun _ => none)))))], true, n + 1, k + m) r) : Ev L xs d mi pc lv (.int c :: st) (l, true, n, k) r := by
  subst hc
  have hz : ¬ nI m < 0 := by rw [show (0 : Int32) = nI 0 by decide, lt0 (by omega)]; exact id
  refine Ev.nx hh hi (x := (pc + 3, lv, .ref l.length :: st, (l ++ [.inl (3, m, .inr (.inr (.inr (.inr (fun _ => none)))))], true, n + 1, k + m))) ?_ kont
  show (if 3 = 3 then (if ¬ nI m < 0 ∧ (nI m).toNatClampNeg ≤ 100000 then mm_new1 3 (.inl (3, (nI m).toNatClampNeg, .inr (.inr (.inr (.inr (fun _ => none)))))) (nI m).toNatClampNeg pc lv st (l, true, n, k) else none) else none) = _
  rw [if_pos rfl, nI_clp (by omega), if_pos ⟨hz, hm⟩]
  rfl
/-- Object's own maker -/
theorem Mob {a : Nat} {h : mm_H} (hh : mm_hd mi = some H) (hi : mm_cd mi pc = some (.invokespecial i, 3, 1, 0)) (hs : (st.map fun v => v.category).sum ≤ 8) (kont : Ev L xs d mi (pc + 3) lv st h r) : Ev L xs d mi pc lv (.ref a :: st) h r := by
  refine Ev.nx hh hi (x := (pc + 3, lv, st, h)) ?_ kont
  show (if 3 = 3 then (if (st.map fun v => v.category).sum ≤ 8 then (some (.inl (pc + 3, lv, st, h)) : Option mm_O) else none) else none) = _
  rw [if_pos rfl, if_pos hs]
theorem Mnew {cj lj : Nat} (hh : mm_hd mi = some H) (hi : mm_cd mi pc = some (.new i, 3, 0, cj)) (hl : (mm_defv cj).length = lj) (kont : Ev L xs d mi (pc + 3) lv (.ref l.length :: st) (l ++ [oC cj (mm_defv cj)], true, n + 1, k + lj) r) : Ev L xs d mi pc lv st (l, true, n, k) r := by
  subst hl
  exact Ev.nx hh hi (x := (pc + 3, lv, .ref l.length :: st, (l ++ [oC cj (mm_defv cj)], true, n + 1, k + (mm_defv cj).length))) rfl kont
/-- a maker's call -/
theorem Mcall {j cj na dj a dn dk : Nat} {As : List Value} {sub : List va_E} {J : mm_Hd} (hh : mm_hd mi = some H) (hi : mm_cd mi pc = some (.invokespecial i, 3, 0, j)) (hj : mm_cal j cj na J) (hn : As.length = na) (hs : (st.map fun v => v.category).sum ≤ 8) (hl : (lg_sl (.ref a :: As)).length ≤ J.2.1) (hd : dj < d) (hp' : l.length = a)
    (hc : ∀ e, dj ≤ e → Cl L xs e j (.ref a :: As) (l ++ [oC cj (mm_defv cj)], true, n, k) (.inl none, (l ++ sub, true, n + dn, k + dk))) (kont : Ev L xs d mi (pc + 3) lv st (l ++ sub, true, n + dn, k + dk) r) : Ev L xs d mi pc lv (As.reverse ++ .ref a :: st) (l ++ [oC cj (mm_defv cj)], true, n, k) r := by
  obtain ⟨h1, h2, h3⟩ := hj
  refine Ev.cl hh hi (rest := st) (as := .ref a :: As) (j := j) ?_ h3 hl hd hc kont
  show (if 3 = 3 then mm_callV (mm_mc j) j (mm_na j) (As.reverse ++ .ref a :: st) (l ++ [oC cj (mm_defv cj)], true, n, k) else none) = _
  rw [if_pos rfl, h1, h2]
  have hr : As.reverse.length = na := by rw [List.length_reverse, hn]
  have ed : (As.reverse ++ .ref a :: st).drop na = .ref a :: st := by rw [← hr, List.drop_left]
  have et : (As.reverse ++ .ref a :: st).take na = As.reverse := by rw [← hr, List.take_left]
  unfold mm_callV
  rw [ed]
  dsimp only
  rw [mkG l hp']
  dsimp only [oC]
  rw [if_pos ⟨rfl, by rw [List.length_append, hr]; omega, hs⟩, et, List.reverse_reverse]
theorem Mret {l' : List va_E} {n' k' : Nat} (hh : mm_hd mi = some H) (hi : mm_cd mi pc = some (.return_, 1, 0, 0)) (hok : mm_rok H.2.2.1 none = true) (hl : l = l') (hn : n = n') (hk : k = k') : Ev L xs d mi pc lv [] (l, true, n, k) (.inl none, (l', true, n', k')) := by
  subst hl; subst hn; subst hk
  exact Ev.return_ hh hi hok
/-- this.f := an int -/
theorem MPI {c : Int} {x : Int32} (hh : mm_hd mi = some H) (h0 : mm_cd mi pc = some (.aload_n 0, 1, 0, 0)) (h1 : mm_cd mi (pc + 1) = some (.iconst c, 1, 0, 0)) (h2 : mm_cd mi (pc + 2) = some (.putfield i, 3, r1, kk)) (hv : Int32.ofInt c = x) (hr : r1.toNat = ci) (hk : kk < fs.length) (hf : mm_fitF mm_ty ci kk (.int x) = true) (ho : mm_fin ci kk = false ∨ (H.2.2.2.1 = true ∧ H.1 = ci)) (hb : p.length = b) (l0 : mm_look lv 0 = some (.ref b)) (kont : Ev L xs d mi (pc + 5) lv [] (p ++ oC ci (fs.set kk (.int x)) :: t, true, n, k) r) : Ev L xs d mi pc lv [] (p ++ oC ci fs :: t, true, n, k) r := by
  refine Ev.aload_n hh h0 l0 ?_
  refine Ev.iconst hh h1 hv ?_
  exact Mput hh h2 hr hk hf ho hb kont
theorem len_e {e : va_E} (hb : p.length = b) (hq : t.length + 1 = q) : (p ++ e :: t).length = b + q := by
  rw [List.length_append, List.length_cons, hb, hq]
theorem app_e {e : va_E} {u : List va_E} : (p ++ e :: t) ++ u = p ++ e :: (t ++ u) := by rw [List.append_assoc, List.cons_append]
/-- this.f := new int[m] -/
theorem MNA {w : Nat} (hh : mm_hd mi = some H) (h0 : mm_cd mi pc = some (.aload_n 0, 1, 0, 0)) (hp' : ∀ {st : List Value} {h : mm_H}, Ev L xs d mi (pc + 1 + w) lv (.int (nI m) :: st) h r → Ev L xs d mi (pc + 1) lv st h r) (h2 : mm_cd mi (pc + 1 + w) = some (.newarray .int, 2, 0, 0)) (h3 : mm_cd mi (pc + 1 + w + 2) = some (.putfield i, 3, r1, kk)) (hm : m ≤ 100000) (hr : r1.toNat = ci) (hk : kk < fs.length) (hf : mm_fitF mm_ty ci kk (.ref (b + q)) = true) (ho : mm_fin ci kk = false ∨ (H.2.2.2.1 = true ∧ H.1 = ci)) (hb : p.length = b) (l0 : mm_look lv 0 = some (.ref b)) (hq : t.length + 1 = q) (kont : Ev L xs d mi (pc + 1 + w + 5) lv [] (p ++ oC ci (fs.set kk (.ref (b + q))) :: (t ++ [ZA m]), true, n + 1, k + m) r) : Ev L xs d mi pc lv [] (p ++ oC ci fs :: t, true, n, k) r := by
  refine Ev.aload_n hh h0 l0 (hp' ?_)
  refine Mni hh h2 rfl hm ?_
  rw [len_e hb hq, app_e]
  exact Mput hh h3 hr hk hf ho hb kont
/-- this.f := new C() -/
theorem MNC {j cj lj dj dn dk i1 i2 : Nat} {sub : List va_E} {J : mm_Hd} (hh : mm_hd mi = some H) (h0 : mm_cd mi pc = some (.aload_n 0, 1, 0, 0)) (h1 : mm_cd mi (pc + 1) = some (.new i1, 3, 0, cj)) (h2 : mm_cd mi (pc + 4) = some (.dup, 1, 0, 0)) (h3 : mm_cd mi (pc + 5) = some (.invokespecial i2, 3, 0, j)) (h4 : mm_cd mi (pc + 8) = some (.putfield i, 3, r1, kk)) (hj : mm_cal j cj 0 J) (hl : (mm_defv cj).length = lj) (hJ : 1 ≤ J.2.1) (hd : dj < d) (hr : r1.toNat = ci) (hk : kk < fs.length) (hf : mm_fitF mm_ty ci kk (.ref (b + q)) = true) (ho : mm_fin ci kk = false ∨ (H.2.2.2.1 = true ∧ H.1 = ci)) (hb : p.length = b) (l0 : mm_look lv 0 = some (.ref b)) (hq : t.length + 1 = q)
    (hc : ∀ (p' : List va_E) (n k : Nat), p'.length = b + q → ∀ e, dj ≤ e → Cl L xs e j [.ref (b + q)] (p' ++ [oC cj (mm_defv cj)], true, n, k) (.inl none, (p' ++ sub, true, n + dn, k + dk))) (kont : Ev L xs d mi (pc + 11) lv [] (p ++ oC ci (fs.set kk (.ref (b + q))) :: (t ++ sub), true, n + 1 + dn, k + lj + dk) r) : Ev L xs d mi pc lv [] (p ++ oC ci fs :: t, true, n, k) r := by
  refine Ev.aload_n hh h0 l0 ?_
  refine Mnew hh h1 hl ?_
  rw [len_e hb hq]
  refine Ev.dup hh h2 rfl ?_
  refine Mcall (As := []) hh h3 hj rfl (Nat.le_of_ble_eq_true rfl) hJ hd (len_e hb hq) (hc _ _ _ (len_e hb hq)) ?_
  rw [app_e]
  exact Mput hh h4 hr hk hf ho hb kont
/-- this.f := new C(x), x the one argument that is loaded -/
theorem MNX {j cj lj dj dn dk i1 i2 w : Nat} {x : Value} {sub : List va_E} {J : mm_Hd} (hh : mm_hd mi = some H) (h0 : mm_cd mi pc = some (.aload_n 0, 1, 0, 0)) (h1 : mm_cd mi (pc + 1) = some (.new i1, 3, 0, cj)) (h2 : mm_cd mi (pc + 4) = some (.dup, 1, 0, 0)) (hx : ∀ {st : List Value} {n k : Nat}, Ev L xs d mi (pc + 5 + w) lv (x :: st) (p ++ oC ci fs :: (t ++ [oC cj (mm_defv cj)]), true, n, k) r → Ev L xs d mi (pc + 5) lv st (p ++ oC ci fs :: (t ++ [oC cj (mm_defv cj)]), true, n, k) r) (h3 : mm_cd mi (pc + 5 + w) = some (.invokespecial i2, 3, 0, j)) (h4 : mm_cd mi (pc + 5 + w + 3) = some (.putfield i, 3, r1, kk)) (hj : mm_cal j cj 1 J) (hl : (mm_defv cj).length = lj) (hJ : (lg_sl [.ref (b + q), x]).length ≤ J.2.1) (hd : dj < d) (hr : r1.toNat = ci) (hk : kk < fs.length) (hf : mm_fitF mm_ty ci kk (.ref (b + q)) = true) (ho : mm_fin ci kk = false ∨ (H.2.2.2.1 = true ∧ H.1 = ci)) (hb : p.length = b) (l0 : mm_look lv 0 = some (.ref b)) (hq : t.length + 1 = q)
    (hc : ∀ (p' : List va_E) (n k : Nat), p'.length = b + q → ∀ e, dj ≤ e → Cl L xs e j [.ref (b + q), x] (p' ++ [oC cj (mm_defv cj)], true, n, k) (.inl none, (p' ++ sub, true, n + dn, k + dk))) (kont : Ev L xs d mi (pc + 5 + w + 6) lv [] (p ++ oC ci (fs.set kk (.ref (b + q))) :: (t ++ sub), true, n + 1 + dn, k + lj + dk) r) : Ev L xs d mi pc lv [] (p ++ oC ci fs :: t, true, n, k) r := by
  refine Ev.aload_n hh h0 l0 ?_
  refine Mnew hh h1 hl ?_
  rw [len_e hb hq, app_e]
  refine Ev.dup hh h2 rfl ?_
  refine hx ?_
  rw [← app_e]
  refine Mcall (As := [x]) hh h3 hj rfl (Nat.le_of_ble_eq_true rfl) hJ hd (len_e hb hq) (hc _ _ _ (len_e hb hq)) ?_
  rw [app_e]
  exact Mput hh h4 hr hk hf ho hb kont
/-- this.f := an argument -/
theorem MPA {x : Nat} (hh : mm_hd mi = some H) (h0 : mm_cd mi pc = some (.aload_n 0, 1, 0, 0)) (h1 : mm_cd mi (pc + 1) = some (.aload_n 1, 1, 0, 0)) (h2 : mm_cd mi (pc + 2) = some (.putfield i, 3, r1, kk)) (hr : r1.toNat = ci) (hk : kk < fs.length) (hf : mm_fitF mm_ty ci kk (.ref x) = true) (ho : mm_fin ci kk = false ∨ (H.2.2.2.1 = true ∧ H.1 = ci)) (hb : p.length = b) (l0 : mm_look lv 0 = some (.ref b)) (l1 : mm_look lv 1 = some (.ref x)) (kont : Ev L xs d mi (pc + 5) lv [] (p ++ oC ci (fs.set kk (.ref x)) :: t, true, n, k) r) : Ev L xs d mi pc lv [] (p ++ oC ci fs :: t, true, n, k) r := by
  refine Ev.aload_n hh h0 l0 ?_
  refine Ev.aload_n hh h1 l1 ?_
  exact Mput hh h2 hr hk hf ho hb kont
/-- an array of objects -/
def oA (f : Nat → Option Nat) : va_E := .inl (3, 12, .inr (.inr (.inr (.inr f))))
theorem Maa {f : Nat → Option Nat} {v j a : Nat} {gs : List Value} {l' : List va_E} (hh : mm_hd mi = some H) (hi : mm_cd mi pc = some (.aastore, 1, 0, 0)) (ha : l[a]? = some (oA f)) (hv : l[v]? = some (oC 9 gs)) (hj : j < 12) (hs : l.set a (oA (va_up f j (some v))) = l') (kont : Ev L xs d mi (pc + 1) lv st (l', true, n, k) r) : Ev L xs d mi pc lv (.ref v :: .int (nI j) :: .ref a :: st) (l, true, n, k) r := by
  subst hs
  refine Ev.nx hh hi (x := (pc + 1, lv, st, (l.set a (oA (va_up f j (some v))), true, n, k))) ?_ kont
  show (if 1 = 1 then mm_aast pc lv (.ref v :: .int (nI j) :: .ref a :: st) (l, true, n, k) else none) = _
  rw [if_pos rfl]
  unfold mm_aast
  dsimp only
  rw [ha, hv]
  dsimp only [oA, oC]
  have hz : ¬ nI j < 0 := by rw [show (0 : Int32) = nI 0 by decide, lt0 (by omega)]; exact id
  show (if 3 = 3 ∧ ¬(nI j < 0 ∨ 12 ≤ (nI j).toNatClampNeg) then (some (.inl (pc + 1, lv, st, l.set a (.inl (3, 12, .inr (.inr (.inr (.inr (va_up f (nI j).toNatClampNeg (some v))))))), true, n, k)) : Option mm_O) else none) = _
  rw [nI_clp (by omega), if_pos ⟨rfl, fun e => e.elim hz (by omega)⟩]
theorem Mia {f : Nat → Int32} {j a w : Nat} {v : Int32} {l' : List va_E} (hh : mm_hd mi = some H) (hi : mm_cd mi pc = some (.iastore, 1, 0, 0)) (ha : l[a]? = some (.inl (0, w, .inl f))) (hj : j < w) (hw : w ≤ 100000) (hs : l.set a (.inl (0, w, .inl (upd f j v))) = l') (kont : Ev L xs d mi (pc + 1) lv st (l', true, n, k) r) : Ev L xs d mi pc lv (.int v :: .int (nI j) :: .ref a :: st) (l, true, n, k) r := by
  subst hs
  refine Ev.nx hh hi (x := (pc + 1, lv, st, (l.set a (.inl (0, w, .inl (upd f j v))), true, n, k))) ?_ kont
  show (if 1 = 1 then mm_iast pc lv (.int v :: .int (nI j) :: .ref a :: st) (l, true, n, k) else none) = _
  rw [if_pos rfl]
  unfold mm_iast
  dsimp only
  rw [ha]
  dsimp only
  have hz : ¬ nI j < 0 := by rw [show (0 : Int32) = nI 0 by decide, lt0 (by omega)]; exact id
  rw [nI_clp (by omega), if_pos ⟨rfl, fun e => e.elim hz (by omega)⟩]
theorem Mheap {l' : List va_E} {n' k' : Nat} (h : l = l') (hn : n = n') (hk : k = k') (kont : Ev L xs d mi pc lv st (l', true, n', k') r) : Ev L xs d mi pc lv st (l, true, n, k) r := by
  subst h; subst hn; subst hk; exact kont
/-- this.f := new byte[m], new long[m], new C[m] -/
theorem MNB {w : Nat} (hh : mm_hd mi = some H) (h0 : mm_cd mi pc = some (.aload_n 0, 1, 0, 0)) (hp' : ∀ {st : List Value} {h : mm_H}, Ev L xs d mi (pc + 1 + w) lv (.int (nI m) :: st) h r → Ev L xs d mi (pc + 1) lv st h r) (h2 : mm_cd mi (pc + 1 + w) = some (.newarray .byte, 2, 0, 0)) (h3 : mm_cd mi (pc + 1 + w + 2) = some (.putfield i, 3, r1, kk)) (hm : m ≤ 100000) (hr : r1.toNat = ci) (hk : kk < fs.length) (hf : mm_fitF mm_ty ci kk (.ref (b + q)) = true) (ho : mm_fin ci kk = false ∨ (H.2.2.2.1 = true ∧ H.1 = ci)) (hb : p.length = b) (l0 : mm_look lv 0 = some (.ref b)) (hq : t.length + 1 = q) (kont : Ev L xs d mi (pc + 1 + w + 5) lv [] (p ++ oC ci (fs.set kk (.ref (b + q))) :: (t ++ [.inl (1, m, .inl (fun _ => 0))]), true, n + 1, k + m) r) : Ev L xs d mi pc lv [] (p ++ oC ci fs :: t, true, n, k) r := by
  refine Ev.aload_n hh h0 l0 (hp' ?_)
  refine Mnb hh h2 rfl hm ?_
  rw [len_e hb hq, app_e]
  exact Mput hh h3 hr hk hf ho hb kont
theorem MNL {w : Nat} (hh : mm_hd mi = some H) (h0 : mm_cd mi pc = some (.aload_n 0, 1, 0, 0)) (hp' : ∀ {st : List Value} {h : mm_H}, Ev L xs d mi (pc + 1 + w) lv (.int (nI m) :: st) h r → Ev L xs d mi (pc + 1) lv st h r) (h2 : mm_cd mi (pc + 1 + w) = some (.newarray .long, 2, 0, 0)) (h3 : mm_cd mi (pc + 1 + w + 2) = some (.putfield i, 3, r1, kk)) (hm : m ≤ 100000) (hr : r1.toNat = ci) (hk : kk < fs.length) (hf : mm_fitF mm_ty ci kk (.ref (b + q)) = true) (ho : mm_fin ci kk = false ∨ (H.2.2.2.1 = true ∧ H.1 = ci)) (hb : p.length = b) (l0 : mm_look lv 0 = some (.ref b)) (hq : t.length + 1 = q) (kont : Ev L xs d mi (pc + 1 + w + 5) lv [] (p ++ oC ci (fs.set kk (.ref (b + q))) :: (t ++ [.inl (2, m, .inr (.inl (fun _ => 0)))]), true, n + 1, k + m) r) : Ev L xs d mi pc lv [] (p ++ oC ci fs :: t, true, n, k) r := by
  refine Ev.aload_n hh h0 l0 (hp' ?_)
  refine Mnl hh h2 rfl hm ?_
  rw [len_e hb hq, app_e]
  exact Mput hh h3 hr hk hf ho hb kont
theorem MNR {w i1 : Nat} (hh : mm_hd mi = some H) (h0 : mm_cd mi pc = some (.aload_n 0, 1, 0, 0)) (hp' : ∀ {st : List Value} {h : mm_H}, Ev L xs d mi (pc + 1 + w) lv (.int (nI 12) :: st) h r → Ev L xs d mi (pc + 1) lv st h r) (h2 : mm_cd mi (pc + 1 + w) = some (.anewarray i1, 3, 0, 0)) (h3 : mm_cd mi (pc + 1 + w + 3) = some (.putfield i, 3, r1, kk)) (hr : r1.toNat = ci) (hk : kk < fs.length) (hf : mm_fitF mm_ty ci kk (.ref (b + q)) = true) (ho : mm_fin ci kk = false ∨ (H.2.2.2.1 = true ∧ H.1 = ci)) (hb : p.length = b) (l0 : mm_look lv 0 = some (.ref b)) (hq : t.length + 1 = q) (kont : Ev L xs d mi (pc + 1 + w + 6) lv [] (p ++ oC ci (fs.set kk (.ref (b + q))) :: (t ++ [oA (fun _ => none)]), true, n + 1, k + 12) r) : Ev L xs d mi pc lv [] (p ++ oC ci fs :: t, true, n, k) r := by
  refine Ev.aload_n hh h0 l0 (hp' ?_)
  refine Mna hh h2 rfl (by omega) ?_
  rw [len_e hb hq, app_e]
  exact Mput hh h3 hr hk hf ho hb kont
end MK
