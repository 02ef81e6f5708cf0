/-! FROM THE MINI MACHINE'S WORLD TO THE HEAP -/
def mm_tr (b : Nat) (sA : Nat → Nat) : Value → Value
  | .ref a => .ref (b + a)
  | .retAddr k => .ref (sA k)
  | v => v
theorem mm_tr_cat (b : Nat) (sA : Nat → Nat) (v : Value) : (mm_tr b sA v).category = v.category := by cases v <;> rfl
theorem mm_tr_sum (b : Nat) (sA : Nat → Nat) (r : List Value) : ((r.map (mm_tr b sA)).map fun v => v.category).sum = (r.map fun v => v.category).sum := by
  rw [List.map_map]
  congr 1
  apply List.map_congr_left
  intro v _
  exact mm_tr_cat b sA v
abbrev mm_trq (b : Nat) (sA : Nat → Nat) (q : Nat × Value) : Nat × Value := (q.1, mm_tr b sA q.2)
def mm_trA (b : Nat) (x : vp_A) : vp_A := (x.1, match x.2 with
  | .inr (.inr (.inr (.inr f))) => .inr (.inr (.inr (.inr (fun j => (f j).map (fun a => b + a)))))
  | y => y)
def mm_trE (b : Nat) (sA : Nat → Nat) (cid : Nat → ClassId) : va_E → va_E
  | .inl (k, a) => .inl (cid k, mm_trA b a)
  | .inr (ci, fs) => .inr (ci, fs.map (mm_tr b sA))
def mm_ws (b : Nat) (sA : Nat → Nat) (cid : Nat → ClassId) (h : List va_E) : va_W := h.mapIdx (fun i e => (b + i, mm_trE b sA cid e))
theorem mm_look_ok {b : Nat} {sA : Nat → Nat} {ls : Array Slot} {nL : Nat} {lv : mm_L} {i : Nat} {v : Value} (hl : lv_has ls nL (lv.map (mm_trq b sA))) (h : mm_look lv i = some v) : ls[i]? = some (.val (mm_tr b sA v)) := by
  unfold mm_look at h
  cases hf : lv.find? (fun q => q.1 == i) with
  | none => rw [hf] at h; cases h
  | some q =>
    rw [hf] at h
    have hq : q ∈ lv := List.mem_of_find?_eq_some hf
    have hi : q.1 = i := by have := List.find?_some hf; simpa using this
    have hv : q.2 = v := Option.some.inj h
    have h1 := hl.2.2 (mm_trq b sA q) (List.mem_map_of_mem hq)
    rw [← hi, ← hv]
    exact h1
theorem mm_filt {b : Nat} {sA : Nat → Nat} {f : Nat × Value → Bool} (hf : ∀ q, f (mm_trq b sA q) = f q) (lv : mm_L) : (lv.map (mm_trq b sA)).filter f = (lv.filter f).map (mm_trq b sA) := by
  rw [List.filter_map]
  congr 1
  apply List.filter_congr
  intro q _
  exact hf q
theorem mm_st1_map (b : Nat) (sA : Nat → Nat) (lv : mm_L) (i : Nat) (v : Value) : (i, mm_tr b sA v) :: (lv.map (mm_trq b sA)).filter (fun q => !(q.1 == i) && !(q.1 + 1 == i && q.2.category == 2)) = (mm_st1 lv i v).map (mm_trq b sA) := by
  rw [mm_filt (fun q => by simp only [mm_tr_cat])]
  rfl
theorem mm_st2_map (b : Nat) (sA : Nat → Nat) (lv : mm_L) (i : Nat) (v : Value) : (i, mm_tr b sA v) :: (lv.map (mm_trq b sA)).filter (fun q => !(q.1 == i) && (!(q.1 == i + 1) && !(q.1 + 1 == i && q.2.category == 2))) = (mm_st2 lv i v).map (mm_trq b sA) := by
  rw [mm_filt (fun q => by simp only [mm_tr_cat])]
  rfl
theorem mm_args_map (b : Nat) (sA : Nat → Nat) : ∀ (vs : List Value) (i : Nat), lv_args i (vs.map (mm_tr b sA)) = (lv_args i vs).map (mm_trq b sA)
  | [], _ => rfl
  | v :: vs, i => by
    simp only [List.map_cons, lv_args, mm_tr_cat]
    rw [mm_args_map b sA vs]
theorem mm_sl_len (b : Nat) (sA : Nat → Nat) : ∀ (vs : List Value), (lg_sl (vs.map (mm_tr b sA))).length = (lg_sl vs).length
  | [] => rfl
  | v :: vs => by
    have ih := mm_sl_len b sA vs
    unfold lg_sl at ih ⊢
    simp only [List.map_cons, List.flatMap_cons, List.length_append, mm_tr_cat, ih]
    split <;> rfl
theorem mm_ws_get {b : Nat} {sA : Nat → Nat} {cid : Nat → ClassId} {h : List va_E} {a : Nat} {e : va_E} (hh : h[a]? = some e) : (mm_ws b sA cid h)[a]? = some (b + a, mm_trE b sA cid e) := by
  simp [mm_ws, List.getElem?_mapIdx, hh]
theorem mm_ws_set (b : Nat) (sA : Nat → Nat) (cid : Nat → ClassId) (h : List va_E) (a : Nat) (e : va_E) : (mm_ws b sA cid h).set a (b + a, mm_trE b sA cid e) = mm_ws b sA cid (h.set a e) := by
  apply List.ext_getElem?
  intro i
  unfold mm_ws
  rw [List.getElem?_set, List.getElem?_mapIdx, List.getElem?_mapIdx, List.getElem?_set, List.length_mapIdx]
  by_cases hi : a = i
  · subst hi
    simp only [if_true]
    split <;> rfl
  · rw [if_neg hi, if_neg hi]
theorem mm_ws_app (b : Nat) (sA : Nat → Nat) (cid : Nat → ClassId) (h : List va_E) (e : va_E) : mm_ws b sA cid (h ++ [e]) = mm_ws b sA cid h ++ [(b + h.length, mm_trE b sA cid e)] := by
  unfold mm_ws
  rw [List.mapIdx_append]
  simp
theorem mm_ws_D (b : Nat) (sA : Nat → Nat) (cid : Nat → ClassId) (h : List va_E) : va_D (fun q => b ≤ q) (mm_ws b sA cid h) := by
  have key : ∀ (k : Nat) (q : Nat × va_E), (mm_ws b sA cid h)[k]? = some q → q.1 = b + k := by
    intro k q hq
    unfold mm_ws at hq
    rw [List.getElem?_mapIdx] at hq
    cases hk : h[k]? with
    | none => rw [hk] at hq; cases hq
    | some e => rw [hk] at hq; cases hq; rfl
  refine ⟨fun i j p q hp hq e => ?_, fun k q hq => ?_⟩
  · have h1 := key i p hp
    have h2 := key j q hq
    omega
  · have h1 := key k q hq
    show b ≤ q.1
    omega
abbrev mm_tys (cid : Nat → ClassId) : List (ClassId × FieldType) := [(cid 0, .int), (cid 1, .byte), (cid 2, .long), (cid 3, .object RX9)]
