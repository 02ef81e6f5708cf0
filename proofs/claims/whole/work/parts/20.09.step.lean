/-! ONE STEP OF THE MINI MACHINE IS A STEP OF THE MACHINE -/
/-- what a row of code needs of the tables -/
def mm_rowok (o : Nat) (ins : Instr) (r1 : Int) (r2 : Nat) : Prop := match ins with
  | .getfield i => mm_flw o (i, r1.toNat, r2) ∈ lw_tbl ∧ r1.toNat < 12 ∧ r2 < mm_nf r1.toNat
  | .putfield i => mm_flw o (i, r1.toNat, r2) ∈ lw_tbl ∧ r1.toNat < 12 ∧ r2 < mm_nf r1.toNat
  | .ldc i => (r2 = 0 → Jvm.Cond.constant (mm_cn o) i (Int32.ofInt r1) ∈ lw_tbl) ∧ ∀ k, r2 = k + 1 → ∃ tx, (o, i, tx, k) ∈ mm_strs
  | .ldc_w i => r2 = 0 → Jvm.Cond.constant (mm_cn o) i (Int32.ofInt r1) ∈ lw_tbl
  | .ldc2_w i => Jvm.Cond.constantLong (mm_cn o) i (Int64.ofInt r1) ∈ lw_tbl
  | .new i => r1 = 0 → r2 < 12 ∧ Jvm.Cond.classLink (mm_cn o) i (mm_cn r2) ∈ lw_tbl ∧ Jvm.Cond.instantiable (mm_cn r2) (mm_nf r2) ∈ lw_tbl ∧ Jvm.Cond.initialized (mm_cn r2) ∈ lw_tbl
  | .anewarray i => Jvm.Cond.classLink (mm_cn o) i RX9 ∈ lw_tbl
  | .newarray t => Jvm.Cond.arrayClass (newarray.typeOf t) ∈ lw_tbl
  | .invokevirtual i => (r1 = 1 → Jvm.Cond.methodLink (mm_cn o) i ⟨"java/lang/String", "length", "()I"⟩ ∈ lw_tbl) ∧ (r1 = 2 → Jvm.Cond.methodLink (mm_cn o) i ⟨"java/lang/String", "charAt", "(I)C"⟩ ∈ lw_tbl)
  | .invokespecial i => r1 = 1 → Jvm.Cond.methodLink (mm_cn o) i objectInit ∈ lw_tbl
  | .invokestatic i => (r1 = 1 → Jvm.Cond.methodLink (mm_cn o) i arraycopyName ∈ lw_tbl) ∧ (r1 = 2 → Jvm.Cond.methodLink (mm_cn o) i Lib.Math.max.name ∈ lw_tbl) ∧ (r1 = 3 → Jvm.Cond.methodLink (mm_cn o) i Lib.Math.min.name ∈ lw_tbl)
  | _ => True
theorem mm_xw : Jvm.Cond.native arraycopyName ∈ lw_tbl ∧ Jvm.Cond.static arraycopyName ∈ lw_tbl ∧ Jvm.Cond.initialized "java/lang/System" ∈ lw_tbl ∧ Jvm.Cond.instanceMethod objectInit ∈ lw_tbl ∧ Jvm.Cond.code objectInit ⟨#[0xb1]⟩ 1 none ∈ lw_tbl := ⟨List.mem_of_getElem? (i := 752) (by decide +kernel), List.mem_of_getElem? (i := 751) (by decide +kernel), List.mem_of_getElem? (i := 154) (by decide +kernel), List.mem_of_getElem? (i := 175) (by decide +kernel), List.mem_of_getElem? (i := 176) (by decide +kernel)⟩
theorem mm_look_at {b : Nat} {sA : Nat → Nat} {lv : mm_L} {i : Nat} {v : Value} (h : mm_look lv i = some v) : ∃ k : Nat, (lv.map (mm_trq b sA))[k]? = some (i, mm_tr b sA v) := by
  unfold mm_look at h
  cases hf : lv.find? (fun q => q.1 == i) with
  | none => rw [hf] at h; cases h
  | some q =>
    rw [hf] at h
    have hq : q ∈ lv := List.mem_of_find?_eq_some hf
    have hi : q.1 = i := by have := List.find?_some hf; simpa using this
    have hv : q.2 = v := Option.some.inj h
    obtain ⟨k, hk⟩ := List.getElem?_of_mem hq
    exact ⟨k, by rw [List.getElem?_map, hk, ← hi, ← hv]; rfl⟩
theorem mm_fit_ok {b : Nat} {sA : Nat → Nat} {ci k : Nat} {v : Value} (h : mm_fitF mm_ty ci k v = true) : narrow (mm_ty ci k) (mm_tr b sA v) = mm_tr b sA v ∧ fits (mm_ty ci k) (mm_tr b sA v) = true := by
  unfold mm_fitF at h
  generalize mm_ty ci k = ty at h ⊢
  split at h
  · exact ⟨rfl, rfl⟩
  · rename_i x
    have h := of_decide_eq_true h
    rcases h with rfl | rfl <;> exact ⟨rfl, rfl⟩
  · exact ⟨rfl, rfl⟩
  · exact ⟨rfl, rfl⟩
  · cases h
theorem mm_decl {ci k : Nat} (h : ci < 12) (hk : k < mm_nf ci) : (mm_TT ci k).1 = mm_cn ci := mm_ci (P := fun ci => ∀ k, k < mm_nf ci → (mm_TT ci k).1 = mm_cn ci) (by decide +kernel) (by decide +kernel) (by decide +kernel) (by decide +kernel) (by decide +kernel) (by decide +kernel) (by decide +kernel) (by decide +kernel) (by decide +kernel) (by decide +kernel) (by decide +kernel) (by decide +kernel) h k hk
theorem mm_defv_ok {b : Nat} {sA : Nat → Nat} {ci j : Nat} (hj : j < mm_nf ci) : defaultValue (mm_ty ci j) = vp_V ((mm_defv ci).map (mm_tr b sA)) j := by
  unfold vp_V mm_defv
  rw [List.map_map, List.getD_eq_getElem?_getD, List.getElem?_map, List.getElem?_range hj]
  show _ = mm_tr b sA (defaultValue (mm_ty ci j))
  cases (mm_ty ci j) <;> rfl
theorem mm_push_P {D : va_G} {b : Nat} {sA : Nat → Nat} {cid : Nat → ClassId} {h : List va_E} {e : va_E} {H H1 : Heap} (hP : va_P D vwCl (mm_ws b sA cid h) H) (hsz : H.size = b + h.length) (o1 : ∀ q, q < b + h.length → H1[q]? = H[q]?) (hat : va_at D vwCl (b + h.length, mm_trE b sA cid e) H1) : va_P D vwCl (mm_ws b sA cid (h ++ [e])) H1 := by
  rw [mm_ws_app]
  refine (hP.kept (fun k x hx => o1 x.1 (by rw [← hsz]; exact (hP k x hx).lt))).app (fun k x hx => ?_)
  have hz : k < 1 := (List.getElem?_eq_some_iff.mp hx).1
  rw [show k = 0 by omega] at hx
  cases hx
  exact hat
theorem mm_xm : Jvm.Cond.static Lib.Math.max.name ∈ lw_tbl ∧ Jvm.Cond.code Lib.Math.max.name Lib.Math.max.code 2 (some .int) ∈ lw_tbl ∧ Jvm.Cond.static Lib.Math.min.name ∈ lw_tbl ∧ Jvm.Cond.code Lib.Math.min.name Lib.Math.min.code 2 (some .int) ∈ lw_tbl ∧ Jvm.Cond.initialized "java/lang/Math" ∈ lw_tbl := ⟨List.mem_of_getElem? (i := 1035) (by decide +kernel), List.mem_of_getElem? (i := 1036) (by decide +kernel), List.mem_of_getElem? (i := 910) (by decide +kernel), List.mem_of_getElem? (i := 911) (by decide +kernel), List.mem_of_getElem? (i := 159) (by decide +kernel)⟩
section MMS
variable {p : Program} {l : Launch} {e : Env} {R : Room} {s : State} {m : MethodId} {args : Array Value} {below : List Frame} {meth : Method} {c : Code} {H : Heap} {locs : List Loc} {cells slots : Nat} {Q : State → Prop}
variable {D : va_G} {b : Nat} {sA : Nat → Nat} {cid : Nat → ClassId} {L : Nat} {xs : Nat → Int32} {mc na : Nat → Nat}
/-- the heap's size has an upper bound in every state that stands -/
theorem mm_up {g : JFrame} (k : H.size ≤ s.heap.size + cells → W p l e R s m args below meth c H locs cells slots Q g) : W p l e R s m args below meth c H locs cells slots Q g := fun T hT X => k (by rw [← hT]; exact X.heapSize) T hT X
theorem mm_size {h : List va_E} (hP : va_P D vwCl (mm_ws b sA cid h) H) (h0 : b ≤ H.size) : b + h.length ≤ H.size := by
  rcases Nat.eq_zero_or_pos h.length with q | q
  · omega
  · have hk : h[h.length - 1]? = some (h[h.length - 1]'(by omega)) := List.getElem?_eq_getElem (by omega)
    have h2 := (hP _ _ (mm_ws_get hk)).lt
    have h3 : b + (h.length - 1) < H.size := h2
    omega
/-- what a step goes on with -/
def mm_K (p : Program) (l : Launch) (e : Env) (R : Room) (s : State) (m : MethodId) (args : Array Value) (below : List Frame) (meth : Method) (c : Code) (Q : State → Prop) (D : va_G) (b : Nat) (sA : Nat → Nat) (cid : Nat → ClassId) (nL n0 k0 : Nat) (x : Nat × mm_L × List Value × mm_H) : Prop :=
  ∀ (ls' : Array Slot) (H' : Heap) (locs' : List Loc) (cells' slots' : Nat), lv_has ls' nL (x.2.1.map (mm_trq b sA)) → va_P D vwCl (mm_ws b sA cid x.2.2.2.1) H' → va_S (fun q => b ≤ q) s.heap H' locs' → (x.2.2.2.2.1 = true → s.heap.size + cells' = b + x.2.2.2.1.length) →
    cells' + n0 = x.2.2.2.2.2.1 → slots' + k0 = x.2.2.2.2.2.2 → W p l e R s m args below meth c H' locs' cells' slots' Q (F0 m x.1 ls' (x.2.2.1.map (mm_tr b sA)))
theorem mm_tgt_ok {pc t : Nat} {off : Int} (h : mm_tgt pc off = some t) : (pc : Int) + off = (t : Int) := by
  unfold mm_tgt at h
  split at h
  · have h1 := Option.some.inj h
    omega
  · cases h
set_option maxHeartbeats 4000000 in
theorem mm_len_ok {bytes : ByteArray} {own nL d i k pc : Nat} {ls : Array Slot} {lv : mm_L} {r : List Value}
    (hx : p.tables.exec = Jvm.exec) (hb : c.code = bytes) (hml : c.maxLocals = nL) (hown : s.vm.findClass (mm_cn own) = some m.cls) (hts : ∀ w ∈ mm_tbl, w.before args s = true) (hR : d + 8 ≤ R.frames ∧ 40 * d + 200 ≤ R.locals) (hG : mm_G D b sA cid L xs s s.heap) (hbs : b ≤ s.heap.size) (hrc : cells + 0 ≤ R.cells ∧ slots + 0 ≤ R.slots)
    (hd : decode bytes pc = .ok (.invokevirtual i, 3)) (hlk : Jvm.Cond.methodLink (mm_cn own) i ⟨"java/lang/String", "length", "()I"⟩ ∈ lw_tbl) (hl : lv_has ls nL (lv.map (mm_trq b sA))) (hS : va_S (fun q => b ≤ q) s.heap H locs) (hsum : (r.map fun v => v.category).sum ≤ 8) (hk : k < 36)
    (kk : W p l e R s m args below meth c H locs cells slots Q (F0 m (pc + 3) ls (.int (Int32.ofNat (mm_txt k).length) :: r.map (mm_tr b sA)))) : W p l e R s m args below meth c H locs cells slots Q (F0 m pc ls (.ref (sA k) :: r.map (mm_tr b sA))) := by
  obtain ⟨adV, hV⟩ := hG.2.2.2.2.1
  have f2 : (Jvm.Cond.methodLink (mm_cn own) i mm_yl).before args s = true := mm_hw hts hlk rfl
  exact mm_aftS (va_runV (own := mm_cn own) (C := "java/lang/String") (bytes := mm_ylc) (maxL := 1) (ret := some .int) (n := 0) (b := sA k) (As := []) (rest := r.map (mm_tr b sA)) ⟨hx, hb, hml, hown, hts⟩ (mm_s_len (D := D) (b := b) (sA := sA) (cid := cid) (L := L) (xs := xs) hk) ⟨⟨rfl, rfl, by show 1 + 1 ≤ _; omega, by show 8 + (1 + 11) + 32 * 1 ≤ _; omega, mm_wS_good mm_yl_w hts, List.mem_cons_self, hts _ mm_yl_w, hts _ mm_n_S, ⟨by decide, by decide⟩, mm_parS (by decide +kernel), f2⟩, hts _ mm_yl_i.1, hts _ mm_yl_i.2⟩ ⟨mm_blindS (fun _ _ _ _ q => q), vk_recv hV hk hS, fun U hU hW => mm_pcS hG hbs hS hU hW trivial⟩ rfl rfl hl.1 rfl (lv_room (by rw [mm_tr_sum]; exact hsum)) hd ⟨hrc.1, hrc.2⟩) kk
set_option maxHeartbeats 4000000 in
theorem mm_chr_ok {bytes : ByteArray} {own nL d i k pc : Nat} {j : Int32} {ls : Array Slot} {lv : mm_L} {r : List Value}
    (hx : p.tables.exec = Jvm.exec) (hb : c.code = bytes) (hml : c.maxLocals = nL) (hown : s.vm.findClass (mm_cn own) = some m.cls) (hts : ∀ w ∈ mm_tbl, w.before args s = true) (hR : d + 8 ≤ R.frames ∧ 40 * d + 200 ≤ R.locals) (hG : mm_G D b sA cid L xs s s.heap) (hbs : b ≤ s.heap.size) (hrc : cells + 0 ≤ R.cells ∧ slots + 0 ≤ R.slots)
    (hd : decode bytes pc = .ok (.invokevirtual i, 3)) (hlk : Jvm.Cond.methodLink (mm_cn own) i ⟨"java/lang/String", "charAt", "(I)C"⟩ ∈ lw_tbl) (hl : lv_has ls nL (lv.map (mm_trq b sA))) (hS : va_S (fun q => b ≤ q) s.heap H locs) (hsum : (r.map fun v => v.category).sum ≤ 8) (hk : k < 36) (hj : ¬ (j < 0 ∨ (mm_txt k).length ≤ j.toNatClampNeg))
    (kk : W p l e R s m args below meth c H locs cells slots Q (F0 m (pc + 3) ls (.int ((mm_txt k).getD j.toNatClampNeg 0) :: r.map (mm_tr b sA)))) : W p l e R s m args below meth c H locs cells slots Q (F0 m pc ls (.int j :: .ref (sA k) :: r.map (mm_tr b sA))) := by
  obtain ⟨adV, hV⟩ := hG.2.2.2.2.1
  have f2 : (Jvm.Cond.methodLink (mm_cn own) i mm_ya).before args s = true := mm_hw hts hlk rfl
  exact mm_aftS (va_runV (own := mm_cn own) (C := "java/lang/String") (bytes := mm_yac) (maxL := 2) (ret := some .char) (n := 1) (b := sA k) (As := [.int j]) (rest := r.map (mm_tr b sA)) ⟨hx, hb, hml, hown, hts⟩ (mm_s_chr (D := D) (b := b) (sA := sA) (cid := cid) (L := L) (xs := xs) hk hj) ⟨⟨rfl, rfl, by show 3 + 1 ≤ _; omega, by show 8 + (2 + 11) + 32 * 3 ≤ _; omega, mm_wS_good mm_ya_w hts, List.mem_cons_self, hts _ mm_ya_w, hts _ mm_n_S, ⟨by decide, by decide⟩, mm_parS (by decide +kernel), f2⟩, hts _ mm_ya_i.1, hts _ mm_ya_i.2⟩ ⟨mm_blindS (fun _ _ _ _ q => q), vk_recv hV hk hS, fun U hU hW => mm_pcS hG hbs hS hU hW trivial⟩ rfl rfl hl.1 rfl (lv_room (by rw [mm_tr_sum]; exact hsum)) hd ⟨hrc.1, hrc.2⟩) kk
set_option maxHeartbeats 8000000 in
set_option maxRecDepth 100000 in
theorem mm_step_ok {bytes : ByteArray} {own nL d n0 k0 : Nat} {ini : Bool} {ins : Instr} {len : Nat} {r1 : Int} {r2 pc : Nat} {lv : mm_L} {st : List Value} {h : mm_H} {x : Nat × mm_L × List Value × mm_H} {ls : Array Slot}
    (hx : p.tables.exec = Jvm.exec) (hb : c.code = bytes) (hml : c.maxLocals = nL) (hown : s.vm.findClass (mm_cn own) = some m.cls) (hts : ∀ w ∈ mm_tbl, w.before args s = true) (hR : d + 8 ≤ R.frames ∧ 40 * d + 200 ≤ R.locals) (hG : mm_G D b sA cid L xs s s.heap) (hini : ini = true → meth.name = "<init>") (hbs : b ≤ s.heap.size)
    (hd : decode bytes pc = .ok (ins, len)) (hrow : mm_rowok own ins r1 r2) (hs : mm_step (mm_B L xs mc na) own nL ini ins len r1 r2 pc lv st h = some (.inl x))
    (hl : lv_has ls nL (lv.map (mm_trq b sA))) (hP : va_P D vwCl (mm_ws b sA cid h.1) H) (hS : va_S (fun q => b ≤ q) s.heap H locs) (hX : h.2.1 = true → s.heap.size + cells = b + h.1.length) (hc : cells + n0 = h.2.2.1) (hk : slots + k0 = h.2.2.2) (hRc : x.2.2.2.2.2.1 ≤ n0 + R.cells) (hRk : x.2.2.2.2.2.2 ≤ k0 + R.slots)
    (k : mm_K p l e R s m args below meth c Q D b sA cid nL n0 k0 x) : W p l e R s m args below meth c H locs cells slots Q (F0 m pc ls (st.map (mm_tr b sA))) := by
  have hA : ∀ q : Nat, s.heap.size ≤ q → (fun q => b ≤ q) q := fun q hq => Nat.le_trans hbs hq
  have hDD := mm_ws_D b sA cid h.1
  have hK := hG.1
  have k' : ∀ (pc' : Nat) (lv' : mm_L) (st' : List Value), x = (pc', lv', st', h) → ∀ ls', lv_has ls' nL (lv'.map (mm_trq b sA)) → W p l e R s m args below meth c H locs cells slots Q (F0 m pc' ls' (st'.map (mm_tr b sA))) := fun pc' lv' st' hxx ls' hl' => by
    subst hxx
    exact k ls' H locs cells slots hl' hP hS hX hc hk
  cases ins
  case iconst n =>
    simp only [mm_step, mm_push] at hs
    split at hs
    · rename_i e1; subst e1
      injection hs with hs; injection hs with hs
      exact lv_iconst hx hb hd rfl (k' _ _ _ hs.symm ls hl)
    · cases hs
  case bipush n =>
    simp only [mm_step, mm_push] at hs
    split at hs
    · rename_i e1; subst e1
      injection hs with hs; injection hs with hs
      exact lv_bipush hx hb hd rfl (k' _ _ _ hs.symm ls hl)
    · cases hs
  case sipush n =>
    simp only [mm_step, mm_push] at hs
    split at hs
    · rename_i e1; subst e1
      injection hs with hs; injection hs with hs
      exact lv_sipush hx hb hd rfl (k' _ _ _ hs.symm ls hl)
    · cases hs
  case lconst n =>
    simp only [mm_step, mm_push] at hs
    split at hs
    · rename_i e1; subst e1
      injection hs with hs; injection hs with hs
      exact lv_lconst hx hb hd rfl (k' _ _ _ hs.symm ls hl)
    · cases hs
  case ldc i =>
    simp only [mm_step, mm_push] at hs
    split at hs
    · rename_i e1; subst e1
      split at hs
      · injection hs with hs; injection hs with hs
        exact lv_ldc hx hb hown (mm_hw hts (hrow.1 rfl) rfl) hd (k' _ _ _ hs.symm ls hl)
      · rename_i kk
        injection hs with hs; injection hs with hs
        obtain ⟨tx, hm⟩ := hrow.2 kk rfl
        exact va_ldcS hx hb hown (hG.2.2.2.1 _ hm) hd (k' _ _ _ hs.symm ls hl)
    · cases hs
  case ldc_w i =>
    simp only [mm_step, mm_push] at hs
    split at hs
    · rename_i e1; subst e1
      split at hs
      · injection hs with hs; injection hs with hs
        exact lv_ldcw hx hb hown (mm_hw hts (hrow rfl) rfl) hd (k' _ _ _ hs.symm ls hl)
      · cases hs
    · cases hs
  case ldc2_w i =>
    simp only [mm_step, mm_push] at hs
    split at hs
    · rename_i e1; subst e1
      injection hs with hs; injection hs with hs
      exact lv_ldc2 hx hb hown (mm_hw hts hrow rfl) hd (k' _ _ _ hs.symm ls hl)
    · cases hs
  case iload i =>
    simp only [mm_step, mm_ild] at hs
    split at hs
    · rename_i e1; subst e1
      split at hs
      · rename_i v e2
        injection hs with hs; injection hs with hs
        exact lv_iload hx hb hd (mm_look_ok hl e2) (k' _ _ _ hs.symm ls hl)
      · cases hs
    · cases hs
  case iload_n i =>
    simp only [mm_step, mm_ild] at hs
    split at hs
    · rename_i e1; subst e1
      split at hs
      · rename_i v e2
        injection hs with hs; injection hs with hs
        exact lv_iload_n hx hb hd rfl (mm_look_ok hl e2) (k' _ _ _ hs.symm ls hl)
      · cases hs
    · cases hs
  case lload i =>
    simp only [mm_step, mm_lld] at hs
    split at hs
    · rename_i e1; subst e1
      split at hs
      · rename_i v e2
        injection hs with hs; injection hs with hs
        exact lv_lload hx hb hd (mm_look_ok hl e2) (k' _ _ _ hs.symm ls hl)
      · cases hs
    · cases hs
  case lload_n i =>
    simp only [mm_step, mm_lld] at hs
    split at hs
    · rename_i e1; subst e1
      split at hs
      · rename_i v e2
        injection hs with hs; injection hs with hs
        exact lv_lload_n hx hb hd rfl (mm_look_ok hl e2) (k' _ _ _ hs.symm ls hl)
      · cases hs
    · cases hs
  case aload i =>
    simp only [mm_step, mm_ald] at hs
    split at hs
    · rename_i e1; subst e1
      split at hs
      · rename_i v e2
        injection hs with hs; injection hs with hs
        exact lv_aload hx hb hd (mm_look_ok hl e2) (k' _ _ _ hs.symm ls hl)
      · rename_i v e2
        injection hs with hs; injection hs with hs
        exact lv_aload hx hb hd (mm_look_ok hl e2) (k' _ _ _ hs.symm ls hl)
      · cases hs
    · cases hs
  case aload_n i =>
    simp only [mm_step, mm_ald] at hs
    split at hs
    · rename_i e1; subst e1
      split at hs
      · rename_i v e2
        injection hs with hs; injection hs with hs
        exact lv_aload_n hx hb hd rfl (mm_look_ok hl e2) (k' _ _ _ hs.symm ls hl)
      · rename_i v e2
        injection hs with hs; injection hs with hs
        exact lv_aload_n hx hb hd rfl (mm_look_ok hl e2) (k' _ _ _ hs.symm ls hl)
      · cases hs
    · cases hs
  case istore i =>
    simp only [mm_step, mm_ist] at hs
    split at hs
    · rename_i e1; subst e1
      split at hs
      · rename_i x9 r9
        split at hs
        · rename_i hi
          injection hs with hs; injection hs with hs
          exact lv_istore hx hb hd hl hi (mm_st1_map b sA lv i (.int x9)) (fun ls' hl' => k' _ _ _ hs.symm ls' hl')
        · cases hs
      · cases hs
    · cases hs
  case istore_n i =>
    simp only [mm_step, mm_ist] at hs
    split at hs
    · rename_i e1; subst e1
      split at hs
      · rename_i x9 r9
        split at hs
        · rename_i hi
          injection hs with hs; injection hs with hs
          exact lv_istore_n hx hb hd rfl hl hi (mm_st1_map b sA lv i (.int x9)) (fun ls' hl' => k' _ _ _ hs.symm ls' hl')
        · cases hs
      · cases hs
    · cases hs
  case lstore i =>
    simp only [mm_step, mm_lst] at hs
    split at hs
    · rename_i e1; subst e1
      split at hs
      · rename_i x9 r9
        split at hs
        · rename_i hi
          injection hs with hs; injection hs with hs
          exact lv_lstore hx hb hd hl hi (mm_st2_map b sA lv i (.long x9)) (fun ls' hl' => k' _ _ _ hs.symm ls' hl')
        · cases hs
      · cases hs
    · cases hs
  case lstore_n i =>
    simp only [mm_step, mm_lst] at hs
    split at hs
    · rename_i e1; subst e1
      split at hs
      · rename_i x9 r9
        split at hs
        · rename_i hi
          injection hs with hs; injection hs with hs
          exact lv_lstore_n hx hb hd rfl hl hi (mm_st2_map b sA lv i (.long x9)) (fun ls' hl' => k' _ _ _ hs.symm ls' hl')
        · cases hs
      · cases hs
    · cases hs
  case astore i =>
    simp only [mm_step, mm_ast] at hs
    split at hs
    · rename_i e1; subst e1
      split at hs
      · rename_i x9 r9
        split at hs
        · rename_i hi
          injection hs with hs; injection hs with hs
          exact lv_astore hx hb hd hl hi (mm_st1_map b sA lv i (.ref x9)) (fun ls' hl' => k' _ _ _ hs.symm ls' hl')
        · cases hs
      · cases hs
    · cases hs
  case astore_n i =>
    simp only [mm_step, mm_ast] at hs
    split at hs
    · rename_i e1; subst e1
      split at hs
      · rename_i x9 r9
        split at hs
        · rename_i hi
          injection hs with hs; injection hs with hs
          exact lv_astore_n hx hb hd rfl hl hi (mm_st1_map b sA lv i (.ref x9)) (fun ls' hl' => k' _ _ _ hs.symm ls' hl')
        · cases hs
      · cases hs
    · cases hs
  case iinc i n =>
    simp only [mm_step] at hs
    split at hs
    · rename_i e1
      obtain ⟨e1, hi⟩ := e1
      subst e1
      split at hs
      · rename_i v e2
        injection hs with hs; injection hs with hs
        obtain ⟨kk, hkk⟩ := mm_look_at (b := b) (sA := sA) e2
        exact lv_iinc hx hb hd hl hkk rfl hi (mm_st1_map b sA lv i (.int _)) (fun ls' hl' => k' _ _ _ hs.symm ls' hl')
      · cases hs
    · cases hs
  case iadd =>
    simp only [mm_step, mm_i2] at hs
    split at hs
    · rename_i e1; subst e1
      split at hs
      · injection hs with hs; injection hs with hs
        exact lv_iadd hx hb hd (k' _ _ _ hs.symm ls hl)
      · cases hs
    · cases hs
  case isub =>
    simp only [mm_step, mm_i2] at hs
    split at hs
    · rename_i e1; subst e1
      split at hs
      · injection hs with hs; injection hs with hs
        exact lv_isub hx hb hd (k' _ _ _ hs.symm ls hl)
      · cases hs
    · cases hs
  case imul =>
    simp only [mm_step, mm_i2] at hs
    split at hs
    · rename_i e1; subst e1
      split at hs
      · injection hs with hs; injection hs with hs
        exact lv_imul hx hb hd (k' _ _ _ hs.symm ls hl)
      · cases hs
    · cases hs
  case iand =>
    simp only [mm_step, mm_i2] at hs
    split at hs
    · rename_i e1; subst e1
      split at hs
      · injection hs with hs; injection hs with hs
        exact lv_iand hx hb hd (k' _ _ _ hs.symm ls hl)
      · cases hs
    · cases hs
  case ior =>
    simp only [mm_step, mm_i2] at hs
    split at hs
    · rename_i e1; subst e1
      split at hs
      · injection hs with hs; injection hs with hs
        exact lv_ior hx hb hd (k' _ _ _ hs.symm ls hl)
      · cases hs
    · cases hs
  case ixor =>
    simp only [mm_step, mm_i2] at hs
    split at hs
    · rename_i e1; subst e1
      split at hs
      · injection hs with hs; injection hs with hs
        exact lv_ixor hx hb hd (k' _ _ _ hs.symm ls hl)
      · cases hs
    · cases hs
  case ishl =>
    simp only [mm_step, mm_i2] at hs
    split at hs
    · rename_i e1; subst e1
      split at hs
      · injection hs with hs; injection hs with hs
        exact lv_ishl hx hb hd (k' _ _ _ hs.symm ls hl)
      · cases hs
    · cases hs
  case ishr =>
    simp only [mm_step, mm_i2] at hs
    split at hs
    · rename_i e1; subst e1
      split at hs
      · injection hs with hs; injection hs with hs
        exact lv_ishr hx hb hd (k' _ _ _ hs.symm ls hl)
      · cases hs
    · cases hs
  case iushr =>
    simp only [mm_step, mm_i2] at hs
    split at hs
    · rename_i e1; subst e1
      split at hs
      · injection hs with hs; injection hs with hs
        exact lv_iushr hx hb hd rfl (k' _ _ _ hs.symm ls hl)
      · cases hs
    · cases hs
  case ladd =>
    simp only [mm_step, mm_l2] at hs
    split at hs
    · rename_i e1; subst e1
      split at hs
      · injection hs with hs; injection hs with hs
        exact lv_ladd hx hb hd (k' _ _ _ hs.symm ls hl)
      · cases hs
    · cases hs
  case lmul =>
    simp only [mm_step, mm_l2] at hs
    split at hs
    · rename_i e1; subst e1
      split at hs
      · injection hs with hs; injection hs with hs
        exact lv_lmul hx hb hd (k' _ _ _ hs.symm ls hl)
      · cases hs
    · cases hs
  case idiv =>
    simp only [mm_step] at hs
    split at hs
    · rename_i e1; subst e1
      split at hs
      · split at hs
        · rename_i hne
          injection hs with hs; injection hs with hs
          exact lv_idiv hx hb hd hne (k' _ _ _ hs.symm ls hl)
        · cases hs
      · cases hs
    · cases hs
  case irem =>
    simp only [mm_step] at hs
    split at hs
    · rename_i e1; subst e1
      split at hs
      · split at hs
        · rename_i hne
          injection hs with hs; injection hs with hs
          exact lv_irem hx hb hd hne (k' _ _ _ hs.symm ls hl)
        · cases hs
      · cases hs
    · cases hs
  case ldiv =>
    simp only [mm_step] at hs
    split at hs
    · rename_i e1; subst e1
      split at hs
      · split at hs
        · rename_i hne
          injection hs with hs; injection hs with hs
          exact lv_ldiv hx hb hd hne (k' _ _ _ hs.symm ls hl)
        · cases hs
      · cases hs
    · cases hs
  case ineg =>
    simp only [mm_step] at hs
    split at hs
    · rename_i e1; subst e1
      split at hs
      · injection hs with hs; injection hs with hs
        exact lv_ineg hx hb hd (k' _ _ _ hs.symm ls hl)
      · cases hs
    · cases hs
  case lcmp =>
    simp only [mm_step] at hs
    split at hs
    · rename_i e1; subst e1
      split at hs
      · injection hs with hs; injection hs with hs
        exact W.lcmp hx hb hd (k' _ _ _ hs.symm ls hl)
      · cases hs
    · cases hs
  case i2l =>
    simp only [mm_step] at hs
    split at hs
    · rename_i e1; subst e1
      split at hs
      · injection hs with hs; injection hs with hs
        exact lv_i2l hx hb hd rfl (k' _ _ _ hs.symm ls hl)
      · cases hs
    · cases hs
  case l2i =>
    simp only [mm_step] at hs
    split at hs
    · rename_i e1; subst e1
      split at hs
      · injection hs with hs; injection hs with hs
        exact lv_l2i hx hb hd rfl (k' _ _ _ hs.symm ls hl)
      · cases hs
    · cases hs
  case i2b =>
    simp only [mm_step] at hs
    split at hs
    · rename_i e1; subst e1
      split at hs
      · injection hs with hs; injection hs with hs
        exact lv_i2b hx hb hd rfl (k' _ _ _ hs.symm ls hl)
      · cases hs
    · cases hs
  case dup =>
    simp only [mm_step] at hs
    split at hs
    · rename_i e1; subst e1
      split at hs
      · split at hs
        · rename_i hv
          injection hs with hs; injection hs with hs
          exact lv_dup hx hb hd ((mm_tr_cat b sA _).trans hv) (k' _ _ _ hs.symm ls hl)
        · cases hs
      · cases hs
    · cases hs
  case pop =>
    simp only [mm_step] at hs
    split at hs
    · rename_i e1; subst e1
      split at hs
      · split at hs
        · rename_i hv
          injection hs with hs; injection hs with hs
          exact lv_pop hx hb hd ((mm_tr_cat b sA _).trans hv) (k' _ _ _ hs.symm ls hl)
        · cases hs
      · cases hs
    · cases hs
  case dup2 =>
    simp only [mm_step] at hs
    split at hs
    · rename_i e1; subst e1
      split at hs
      · split at hs
        · rename_i hv
          injection hs with hs; injection hs with hs
          exact lv_dup2_11 hx hb hd ((mm_tr_cat b sA _).trans hv.1) ((mm_tr_cat b sA _).trans hv.2) (k' _ _ _ hs.symm ls hl)
        · cases hs
      · cases hs
    · cases hs
  case goto off =>
    simp only [mm_step, mm_jmp] at hs
    split at hs
    · rename_i e1; subst e1
      split at hs
      · rename_i t0 e2
        injection hs with hs; injection hs with hs
        exact lv_goto hx hb hd (mm_tgt_ok e2) (k' _ _ _ hs.symm ls hl)
      · cases hs
    · cases hs
  case ifCond cc off =>
    simp only [mm_step] at hs
    split at hs
    · rename_i e1; subst e1
      split at hs
      · split at hs
        · rename_i t0 e2
          injection hs with hs; injection hs with hs
          cases cc
          · exact lv_if_eq hx hb hd (mm_tgt_ok e2) (fun q => k' _ _ _ (hs.symm.trans (by rw [if_pos (by simp [mm_c1, q])])) ls hl) (fun q => k' _ _ _ (hs.symm.trans (by rw [if_neg (by simp [mm_c1, q])])) ls hl)
          · exact lv_if_ne hx hb hd (mm_tgt_ok e2) (fun q => k' _ _ _ (hs.symm.trans (by rw [if_pos (by simp [mm_c1, q])])) ls hl) (fun q => k' _ _ _ (hs.symm.trans (by rw [if_neg (by simp [mm_c1, q])])) ls hl)
          · exact lv_if_lt hx hb hd (mm_tgt_ok e2) (fun q => k' _ _ _ (hs.symm.trans (by rw [if_pos (by simp [mm_c1, q])])) ls hl) (fun q => k' _ _ _ (hs.symm.trans (by rw [if_neg (by simp [mm_c1, q])])) ls hl)
          · exact lv_if_ge hx hb hd (mm_tgt_ok e2) (fun q => k' _ _ _ (hs.symm.trans (by rw [if_pos (by simp [mm_c1, q])])) ls hl) (fun q => k' _ _ _ (hs.symm.trans (by rw [if_neg (by simp [mm_c1, q])])) ls hl)
          · exact lv_if_gt hx hb hd (mm_tgt_ok e2) (fun q => k' _ _ _ (hs.symm.trans (by rw [if_pos (by simp [mm_c1, q])])) ls hl) (fun q => k' _ _ _ (hs.symm.trans (by rw [if_neg (by simp [mm_c1, q])])) ls hl)
          · exact lv_if_le hx hb hd (mm_tgt_ok e2) (fun q => k' _ _ _ (hs.symm.trans (by rw [if_pos (by simp [mm_c1, q])])) ls hl) (fun q => k' _ _ _ (hs.symm.trans (by rw [if_neg (by simp [mm_c1, q])])) ls hl)
        · cases hs
      · cases hs
    · cases hs
  case if_icmp cc off =>
    simp only [mm_step] at hs
    split at hs
    · rename_i e1; subst e1
      split at hs
      · split at hs
        · rename_i t0 e2
          injection hs with hs; injection hs with hs
          cases cc
          · exact lv_icmp_eq hx hb hd (mm_tgt_ok e2) (fun q => k' _ _ _ (hs.symm.trans (by rw [if_pos (by simp [mm_c2, q])])) ls hl) (fun q => k' _ _ _ (hs.symm.trans (by rw [if_neg (by simp [mm_c2, q])])) ls hl)
          · exact lv_icmp_ne hx hb hd (mm_tgt_ok e2) (fun q => k' _ _ _ (hs.symm.trans (by rw [if_pos (by simp [mm_c2, q])])) ls hl) (fun q => k' _ _ _ (hs.symm.trans (by rw [if_neg (by simp [mm_c2, q])])) ls hl)
          · exact lv_icmp_lt hx hb hd (mm_tgt_ok e2) (fun q => k' _ _ _ (hs.symm.trans (by rw [if_pos (by simp [mm_c2, q])])) ls hl) (fun q => k' _ _ _ (hs.symm.trans (by rw [if_neg (by simp [mm_c2, q])])) ls hl)
          · exact lv_icmp_ge hx hb hd (mm_tgt_ok e2) (fun q => k' _ _ _ (hs.symm.trans (by rw [if_pos (by simp [mm_c2, q])])) ls hl) (fun q => k' _ _ _ (hs.symm.trans (by rw [if_neg (by simp [mm_c2, q])])) ls hl)
          · exact lv_icmp_gt hx hb hd (mm_tgt_ok e2) (fun q => k' _ _ _ (hs.symm.trans (by rw [if_pos (by simp [mm_c2, q])])) ls hl) (fun q => k' _ _ _ (hs.symm.trans (by rw [if_neg (by simp [mm_c2, q])])) ls hl)
          · exact lv_icmp_le hx hb hd (mm_tgt_ok e2) (fun q => k' _ _ _ (hs.symm.trans (by rw [if_pos (by simp [mm_c2, q])])) ls hl) (fun q => k' _ _ _ (hs.symm.trans (by rw [if_neg (by simp [mm_c2, q])])) ls hl)
        · cases hs
      · cases hs
    · cases hs
  case tableswitch dd lo hi offs =>
    simp only [mm_step, mm_jmp] at hs
    split at hs
    · split at hs
      · rename_i hq
        split at hs
        · rename_i t0 e2
          injection hs with hs; injection hs with hs
          exact lv_tableOut hx hb hd hq (mm_tgt_ok e2) (k' _ _ _ hs.symm ls hl)
        · cases hs
      · rename_i hq
        split at hs
        · rename_i off e3
          split at hs
          · rename_i t0 e2
            injection hs with hs; injection hs with hs
            exact lv_tableIn hx hb hd (fun z => hq (Or.inl z)) (fun z => hq (Or.inr z)) e3 (mm_tgt_ok e2) (k' _ _ _ hs.symm ls hl)
          · cases hs
        · cases hs
    · cases hs
  case getfield i =>
    simp only [mm_step, mm_getf] at hs
    split at hs
    · rename_i e1; subst e1
      split at hs
      · rename_i a r
        split at hs
        · rename_i cI fs ea
          split at hs
          · rename_i hci
            subst hci
            split at hs
            · rename_i v hv
              injection hs with hs; injection hs with hs
              exact va_get (D := D) (cl := vwCl) hx hb hts (mm_inok hrow.2.1) hown hK hP a (mm_ws_get ea) (mm_cl hrow.2.1) r2 hrow.2.2 (mm_hw hts hrow.1 rfl) (fun _ q => q) (by rw [List.getElem?_map, hv]; rfl) hd (k' _ _ _ hs.symm ls hl)
            · cases hs
          · cases hs
        · cases hs
      · cases hs
    · cases hs
  case putfield i =>
    simp only [mm_step, mm_putf] at hs
    split at hs
    · rename_i e1; subst e1
      split at hs
      · rename_i v a r
        split at hs
        · rename_i cI fs ea
          split at hs
          · rename_i hci
            obtain ⟨rfl, hlen, hfit, hfin⟩ := hci
            obtain ⟨hn1, hf1⟩ := mm_fit_ok (b := b) (sA := sA) hfit
            injection hs with hs; injection hs with hs
            subst hs
            have kk : ∀ (H1 : Heap) (locs1 : List Loc), va_P D vwCl ((mm_ws b sA cid h.1).set a (b + a, .inr (r1.toNat, (fs.map (mm_tr b sA)).set r2 (mm_tr b sA v)))) H1 → va_D (fun q => b ≤ q) ((mm_ws b sA cid h.1).set a (b + a, .inr (r1.toNat, (fs.map (mm_tr b sA)).set r2 (mm_tr b sA v)))) → va_S (fun q => b ≤ q) s.heap H1 locs1 → W p l e R s m args below meth c H1 locs1 cells slots Q (F0 m (pc + 3) ls (r.map (mm_tr b sA))) := fun H1 locs1 hP1 _ hS1 => by
              refine k ls H1 locs1 cells slots hl ?_ hS1 (fun q => by rw [List.length_set]; exact hX q) hc hk
              show va_P D vwCl (mm_ws b sA cid (h.1.set a (.inr (r1.toNat, fs.set r2 v)))) H1
              rw [← mm_ws_set]
              show va_P D vwCl ((mm_ws b sA cid h.1).set a (b + a, .inr (r1.toNat, (fs.set r2 v).map (mm_tr b sA)))) H1
              rw [List.map_set]
              exact hP1
            rcases Bool.eq_false_or_eq_true (mm_fin r1.toNat r2) with hq | hq
            · have hz : ini = true ∧ own = r1.toNat := by
                rcases hfin with z | z
                · have z : mm_fin r1.toNat r2 = false := z
                  rw [hq] at z; cases z
                · exact z
              exact va_putF (D := D) (cl := vwCl) hx hb hts (mm_inok hrow.2.1) (mm_ty r1.toNat) (mm_tyok hrow.2.1) (mm_nmok hrow.2.1) hown hK hP hDD hS a (mm_ws_get ea) (mm_cl hrow.2.1) r2 hrow.2.2 (mm_hw hts hrow.1 rfl) (fun _ q => q) hq (hini hz.1) (by rw [hz.2]; exact mm_decl hrow.2.1 hrow.2.2) (mm_tyok hrow.2.1 r2 hrow.2.2) hn1 hf1 (by rw [List.length_map]; exact hlen) hd kk
            · exact va_put (D := D) (cl := vwCl) hx hb hts (mm_inok hrow.2.1) (mm_ty r1.toNat) (mm_tyok hrow.2.1) (mm_nmok hrow.2.1) hown hK hP hDD hS a (mm_ws_get ea) (mm_cl hrow.2.1) r2 hrow.2.2 (mm_hw hts hrow.1 rfl) (fun _ q => q) hq (mm_tyok hrow.2.1 r2 hrow.2.2) hn1 hf1 (by rw [List.length_map]; exact hlen) hd kk
          · cases hs
        · cases hs
      · cases hs
    · cases hs
  case baload =>
    simp only [mm_step, mm_iald] at hs
    split at hs
    · rename_i e1; subst e1
      split at hs
      · rename_i i a r
        split at hs
        · rename_i cI n f ea
          split at hs
          · rename_i hci
            obtain ⟨rfl, hin⟩ := hci
            injection hs with hs; injection hs with hs
            exact va_bald (D := D) (cl := vwCl) hx hb hK hP a 1 (mm_ws_get ea) rfl hin hd (k' _ _ _ hs.symm ls hl)
          · cases hs
        · cases hs
      · cases hs
    · cases hs
  case laload =>
    simp only [mm_step, mm_lald] at hs
    split at hs
    · rename_i e1; subst e1
      split at hs
      · rename_i i a r
        split at hs
        · rename_i cI n f ea
          split at hs
          · rename_i hci
            obtain ⟨rfl, hin⟩ := hci
            injection hs with hs; injection hs with hs
            exact va_lald (D := D) (cl := vwCl) hx hb hK hP a 2 (mm_ws_get ea) rfl hin hd (k' _ _ _ hs.symm ls hl)
          · cases hs
        · cases hs
      · cases hs
    · cases hs
  case aaload =>
    simp only [mm_step, mm_aald] at hs
    split at hs
    · rename_i e1; subst e1
      split at hs
      · rename_i i a r
        split at hs
        · rename_i cI n f ea
          split at hs
          · rename_i hci
            obtain ⟨rfl, hin⟩ := hci
            split at hs
            · rename_i q eq
              injection hs with hs; injection hs with hs
              refine va_aldq (D := D) (cl := vwCl) hx hb hK hP a 3 (mm_ws_get ea) rfl hin hd ?_
              rw [eq]
              exact k' _ _ _ hs.symm ls hl
            · cases hs
          · cases hs
        · cases hs
      · cases hs
    · cases hs
  case iaload =>
    simp only [mm_step, mm_sld] at hs
    split at hs
    · rename_i e1; subst e1
      split at hs
      · rename_i i q r
        split at hs
        · rename_i hci
          obtain ⟨rfl, hin⟩ := hci
          injection hs with hs; injection hs with hs
          exact va_sld (A := fun q => b ≤ q) hx hb hG.2.2.2.2.2.2.1 (Nat.lt_of_lt_of_le hG.2.2.2.2.2.2.2 hbs) (Nat.not_le.mpr hG.2.2.2.2.2.2.2) hS hin hd (k' _ _ _ hs.symm ls hl)
        · cases hs
      · simp only [mm_iald] at hs
        split at hs
        · rename_i i a r _
          split at hs
          · rename_i cI n f ea
            split at hs
            · rename_i hci
              obtain ⟨rfl, hin⟩ := hci
              injection hs with hs; injection hs with hs
              exact va_iald (D := D) (cl := vwCl) hx hb hK hP a 0 (mm_ws_get ea) rfl hin hd (k' _ _ _ hs.symm ls hl)
            · cases hs
          · cases hs
        · cases hs
    · cases hs
  case arraylength =>
    simp only [mm_step, mm_sln] at hs
    split at hs
    · rename_i e1; subst e1
      split at hs
      · rename_i q r
        split at hs
        · rename_i hci
          subst hci
          injection hs with hs; injection hs with hs
          exact va_slen (A := fun q => b ≤ q) hx hb hG.2.2.2.2.2.2.1 (Nat.lt_of_lt_of_le hG.2.2.2.2.2.2.2 hbs) (Nat.not_le.mpr hG.2.2.2.2.2.2.2) hS hd (k' _ _ _ hs.symm ls hl)
        · cases hs
      · cases hs
    · cases hs
  case iastore =>
    simp only [mm_step, mm_iast] at hs
    split at hs
    · rename_i e1; subst e1
      split at hs
      · rename_i v i a r
        split at hs
        · rename_i cI n f ea
          split at hs
          · rename_i hci
            obtain ⟨rfl, hin⟩ := hci
            injection hs with hs; injection hs with hs
            subst hs
            refine va_iast (D := D) (cl := vwCl) hx hb hK hP hDD hS a 0 (mm_ws_get ea) rfl hin hd (fun H1 locs1 hP1 _ hS1 => ?_)
            refine k ls H1 locs1 cells slots hl ?_ hS1 (fun q => by rw [List.length_set]; exact hX q) hc hk
            show va_P D vwCl (mm_ws b sA cid (h.1.set a (.inl (0, n, .inl (upd f i.toNatClampNeg v))))) H1
            rw [← mm_ws_set]
            exact hP1
          · cases hs
        · cases hs
      · cases hs
    · cases hs
  case bastore =>
    simp only [mm_step, mm_bast] at hs
    split at hs
    · rename_i e1; subst e1
      split at hs
      · rename_i v i a r
        split at hs
        · rename_i cI n f ea
          split at hs
          · rename_i hci
            obtain ⟨rfl, hin⟩ := hci
            injection hs with hs; injection hs with hs
            subst hs
            refine va_bast (D := D) (cl := vwCl) hx hb hK hP hDD hS a 1 (mm_ws_get ea) rfl hin hd (fun H1 locs1 hP1 _ hS1 => ?_)
            refine k ls H1 locs1 cells slots hl ?_ hS1 (fun q => by rw [List.length_set]; exact hX q) hc hk
            show va_P D vwCl (mm_ws b sA cid (h.1.set a (.inl (1, n, .inl (upd f i.toNatClampNeg (vp_nar .byte v)))))) H1
            rw [← mm_ws_set]
            exact hP1
          · cases hs
        · cases hs
      · cases hs
    · cases hs
  case lastore =>
    simp only [mm_step, mm_last] at hs
    split at hs
    · rename_i e1; subst e1
      split at hs
      · rename_i v i a r
        split at hs
        · rename_i cI n f ea
          split at hs
          · rename_i hci
            obtain ⟨rfl, hin⟩ := hci
            injection hs with hs; injection hs with hs
            subst hs
            refine va_last (D := D) (cl := vwCl) hx hb hK hP hDD hS a 2 (mm_ws_get ea) rfl hin hd (fun H1 locs1 hP1 _ hS1 => ?_)
            refine k ls H1 locs1 cells slots hl ?_ hS1 (fun q => by rw [List.length_set]; exact hX q) hc hk
            show va_P D vwCl (mm_ws b sA cid (h.1.set a (.inl (2, n, .inr (.inl (vp_updL f i.toNatClampNeg v)))))) H1
            rw [← mm_ws_set]
            exact hP1
          · cases hs
        · cases hs
      · cases hs
    · cases hs
  case aastore =>
    simp only [mm_step, mm_aast] at hs
    split at hs
    · rename_i e1; subst e1
      split at hs
      · rename_i v i a r
        split at hs
        · rename_i cI n f vs ea ev
          split at hs
          · rename_i hci
            obtain ⟨rfl, hin⟩ := hci
            injection hs with hs; injection hs with hs
            subst hs
            refine va_astq (D := D) (cl := vwCl) (r := (RX9, TX9, 14)) hx hb hK hP hDD hS a 3 v 9 (mm_ws_get ea) rfl (mm_ws_get ev) rfl hin hd (fun H1 locs1 hP1 _ hS1 => ?_)
            refine k ls H1 locs1 cells slots hl ?_ hS1 (fun q => by rw [List.length_set]; exact hX q) hc hk
            show va_P D vwCl (mm_ws b sA cid (h.1.set a (.inl (3, n, .inr (.inr (.inr (.inr (va_up f i.toNatClampNeg (some v))))))))) H1
            rw [← mm_ws_set]
            have he : mm_trE b sA cid (.inl (3, n, .inr (.inr (.inr (.inr (va_up f i.toNatClampNeg (some v))))))) = .inl (cid 3, n, .inr (.inr (.inr (.inr (va_up (fun j => (f j).map (fun a => b + a)) i.toNatClampNeg (some (b + v))))))) := by
              show Sum.inl (cid 3, n, Sum.inr (Sum.inr (Sum.inr (Sum.inr (fun j => (va_up f i.toNatClampNeg (some v) j).map (fun a => b + a)))))) = _
              congr 7
              funext j
              unfold va_up
              split <;> rfl
            rw [he]
            exact hP1
          · cases hs
        · cases hs
      · cases hs
    · cases hs
  case newarray t =>
    simp only [mm_step, mm_newa, mm_new1] at hs
    split at hs
    · rename_i e1; subst e1
      split at hs
      · rename_i n r
        split at hs
        · rename_i hcn
          cases t <;> simp only at hs <;> try (cases hs; done)
          case byte =>
            · split at hs
              · rename_i hex
                injection hs with hs; injection hs with hs
                subst hs
                refine mm_up (fun hup => ?_)
                have hsz : H.size = b + h.1.length := by have q1 := hX hex; have q2 := mm_size hP (Nat.le_trans hbs hS.1); omega
                refine va_newaK hx hb (mm_hw hts hrow rfl) rfl hd rfl hcn.1 rfl (by have := hcn.2; show _ * 1 ≤ _; omega) (by have q : h.2.2.1 + 1 ≤ n0 + R.cells := hRc; omega) (by have q : h.2.2.2 + _ ≤ k0 + R.slots := hRk; omega) hsz fun H1 cA e1 z1 o1 hAr hfc => ?_
                have hcA : cA = cid 1 := Option.some.inj (hfc.symm.trans (hK.2 1 _ rfl).2)
                subst hcA
                exact k ls H1 locs (cells + 1) (slots + n.toNatClampNeg) hl (mm_push_P hP hsz o1 e1) ⟨Nat.le_trans hS.1 (by omega), fun y h1 h2 => (o1 y (by have := hS.1; omega)).trans (hS.2.1 y h1 h2), hS.2.2⟩ (fun _ => by have q1 := hX hex; rw [List.length_append]; show _ = _ + (_ + 1); omega) (by show _ = h.2.2.1 + 1; omega) (by show _ = h.2.2.2 + _; omega)
              · cases hs
          case int =>
            · split at hs
              · rename_i hex
                injection hs with hs; injection hs with hs
                subst hs
                refine mm_up (fun hup => ?_)
                have hsz : H.size = b + h.1.length := by have q1 := hX hex; have q2 := mm_size hP (Nat.le_trans hbs hS.1); omega
                refine va_newaK hx hb (mm_hw hts hrow rfl) rfl hd rfl hcn.1 rfl (by have := hcn.2; show _ * 4 ≤ _; omega) (by have q : h.2.2.1 + 1 ≤ n0 + R.cells := hRc; omega) (by have q : h.2.2.2 + _ ≤ k0 + R.slots := hRk; omega) hsz fun H1 cA e1 z1 o1 hAr hfc => ?_
                have hcA : cA = cid 0 := Option.some.inj (hfc.symm.trans (hK.2 0 _ rfl).2)
                subst hcA
                exact k ls H1 locs (cells + 1) (slots + n.toNatClampNeg) hl (mm_push_P hP hsz o1 e1) ⟨Nat.le_trans hS.1 (by omega), fun y h1 h2 => (o1 y (by have := hS.1; omega)).trans (hS.2.1 y h1 h2), hS.2.2⟩ (fun _ => by have q1 := hX hex; rw [List.length_append]; show _ = _ + (_ + 1); omega) (by show _ = h.2.2.1 + 1; omega) (by show _ = h.2.2.2 + _; omega)
              · cases hs
          case long =>
            · split at hs
              · rename_i hex
                injection hs with hs; injection hs with hs
                subst hs
                refine mm_up (fun hup => ?_)
                have hsz : H.size = b + h.1.length := by have q1 := hX hex; have q2 := mm_size hP (Nat.le_trans hbs hS.1); omega
                refine va_newaK hx hb (mm_hw hts hrow rfl) rfl hd rfl hcn.1 rfl (by have := hcn.2; show _ * 8 ≤ _; omega) (by have q : h.2.2.1 + 1 ≤ n0 + R.cells := hRc; omega) (by have q : h.2.2.2 + _ ≤ k0 + R.slots := hRk; omega) hsz fun H1 cA e1 z1 o1 hAr hfc => ?_
                have hcA : cA = cid 2 := Option.some.inj (hfc.symm.trans (hK.2 2 _ rfl).2)
                subst hcA
                exact k ls H1 locs (cells + 1) (slots + n.toNatClampNeg) hl (mm_push_P hP hsz o1 e1) ⟨Nat.le_trans hS.1 (by omega), fun y h1 h2 => (o1 y (by have := hS.1; omega)).trans (hS.2.1 y h1 h2), hS.2.2⟩ (fun _ => by have q1 := hX hex; rw [List.length_append]; show _ = _ + (_ + 1); omega) (by show _ = h.2.2.1 + 1; omega) (by show _ = h.2.2.2 + _; omega)
              · cases hs
        · cases hs
      · cases hs
    · cases hs
  case anewarray i =>
    simp only [mm_step, mm_anew, mm_new1] at hs
    split at hs
    · rename_i e1; subst e1
      split at hs
      · rename_i n r
        split at hs
        · rename_i hcn
          split at hs
          · rename_i hex
            injection hs with hs; injection hs with hs
            subst hs
            refine mm_up (fun hup => ?_)
            have hsz : H.size = b + h.1.length := by have q1 := hX hex; have q2 := mm_size hP (Nat.le_trans hbs hS.1); omega
            refine W.anew hx hb hown (mm_hw hts hrow rfl) (va_AO.use hG.2.1.1) rfl hd rfl hcn.1 (by have := hcn.2; omega) (by have q : h.2.2.1 + 1 ≤ n0 + R.cells := hRc; omega) (by have q : h.2.2.2 + _ ≤ k0 + R.slots := hRk; omega) fun cA kA comp f1 f2 f3 f4 => ?_
            have hcA : cA = cid 3 := by
              obtain ⟨_, _, _, _, _, q4⟩ := (hK.2 3 _ rfl).2
              exact Option.some.inj (f1.symm.trans q4)
            subst hcA
            generalize hH1 : H.push ({ cls := cid 3, slots := Array.replicate n.toNatClampNeg .null, vm := .none } : Cell) = H1
            have z1 : H1.size = H.size + 1 := by rw [← hH1, Array.size_push]
            have e1 : H1[b + h.1.length]? = some (arrV (cid 3) n.toNatClampNeg (fun _ => .null)) := by rw [← hsz, ← hH1, Array.getElem?_push_size, ← arrV_new]
            have o1 : ∀ q : Nat, q < b + h.1.length → H1[q]? = H[q]? := fun q hq => by rw [← hH1, Array.getElem?_push, if_neg (by omega)]
            rw [hsz]
            exact k ls H1 locs (cells + 1) (slots + n.toNatClampNeg) hl (mm_push_P hP hsz o1 e1) ⟨Nat.le_trans hS.1 (by omega), fun y h1 h2 => (o1 y (by have := hS.1; omega)).trans (hS.2.1 y h1 h2), hS.2.2⟩ (fun _ => by have q1 := hX hex; rw [List.length_append]; show _ = _ + (_ + 1); omega) (by show _ = h.2.2.1 + 1; omega) (by show _ = h.2.2.2 + _; omega)
          · cases hs
        · cases hs
      · cases hs
    · cases hs
  case new i =>
    simp only [mm_step, mm_new1] at hs
    split at hs
    · rename_i e1; subst e1
      split at hs
      · split at hs
        · rename_i hex
          injection hs with hs; injection hs with hs
          subst hs
          obtain ⟨hr2, hcl, hins, hin0⟩ := hrow rfl
          refine mm_up (fun hup => ?_)
          have hsz : H.size = b + h.1.length := by have q1 := hX hex; have q2 := mm_size hP (Nat.le_trans hbs hS.1); omega
          have hdl : (mm_defv r2).length = mm_nf r2 := by simp [mm_defv]
          have hRk2 : h.2.2.2 + (mm_defv r2).length ≤ k0 + R.slots := hRk
          have hKn := hK.1 r2 _ (mm_cl hr2)
          refine W.newcK hx hb hown (mm_hw hts hcl rfl) (mm_hw hts hins rfl) (mm_hw hts hin0 rfl) rfl hd (by have q : h.2.2.1 + 1 ≤ n0 + R.cells := hRc; omega) (by omega) hKn.2.1 hsz fun H1 kC hkC e1 z1 o1 => ?_
          refine k ls H1 locs (cells + 1) (slots + mm_nf r2) hl (mm_push_P hP hsz o1 ⟨_, mm_cl hr2, (u_born (mm_ty r2) hts (mm_inok hr2) hKn hkC e1 (mm_tyok hr2)).to (fun j hj => mm_defv_ok hj)⟩) ⟨Nat.le_trans hS.1 (by omega), fun y h1 h2 => (o1 y (by have := hS.1; omega)).trans (hS.2.1 y h1 h2), hS.2.2⟩ (fun _ => by have q1 := hX hex; rw [List.length_append]; show _ = _ + (_ + 1); omega) (by show _ = h.2.2.1 + 1; omega) (by show _ = h.2.2.2 + (mm_defv r2).length; omega)
        · cases hs
      · split at hs
        · injection hs with hs; cases hs
        · cases hs
      · cases hs
    · cases hs
  case invokevirtual i =>
    simp only [mm_step] at hs
    split at hs
    · rename_i e1; subst e1
      split at hs
      · simp only [mm_callV] at hs
        split at hs
        · split at hs
          · split at hs
            · injection hs with hs; cases hs
            · cases hs
          · cases hs
        · cases hs
      · simp only [mm_len] at hs
        split at hs
        · rename_i q r
          split at hs
          · rename_i hq
            injection hs with hs; injection hs with hs
            exact mm_len_ok hx hb hml hown hts hR hG hbs (by subst hs; dsimp only at hRc hRk; omega) hd (hrow.1 rfl) hl hS hq.1 hq.2 (k' _ _ _ hs.symm ls hl)
          · cases hs
        · cases hs
      · simp only [mm_chr] at hs
        split at hs
        · rename_i j q r
          split at hs
          · rename_i hq
            injection hs with hs; injection hs with hs
            exact mm_chr_ok hx hb hml hown hts hR hG hbs (by subst hs; dsimp only at hRc hRk; omega) hd (hrow.2 rfl) hl hS hq.1 hq.2.1 hq.2.2 (k' _ _ _ hs.symm ls hl)
          · cases hs
        · cases hs
      · cases hs
    · cases hs
  case invokespecial i =>
    simp only [mm_step] at hs
    split at hs
    · rename_i e1; subst e1
      split at hs
      · simp only [mm_callV] at hs
        split at hs
        · split at hs
          · split at hs
            · injection hs with hs; cases hs
            · cases hs
          · cases hs
        · cases hs
      · split at hs
        · rename_i a r
          split at hs
          · rename_i hq
            injection hs with hs; injection hs with hs
            exact W.objInit hx hb hown (mm_hw hts (hrow rfl) rfl) (mm_hw hts mm_xw.2.2.2.1 rfl) (mm_hw hts mm_xw.2.2.2.2 rfl) rfl (by rw [hml]; exact hl.1) rfl hd (by omega) (by have q1 := lv_room (m := m) (pc := pc) (ls := ls) (rest := r) (st := r.map (mm_tr b sA)) (by rw [mm_tr_sum]; exact hq); have q2 := hR.2; show 2 * 0 + _ + 12 ≤ _; have q3 : 2 * 0 + ((r.map (mm_tr b sA)).map fun v => v.category).sum ≤ 8 := q1; omega) (k' _ _ _ hs.symm ls hl)
          · cases hs
        · cases hs
      · cases hs
    · cases hs
  case invokestatic i =>
    simp only [mm_step] at hs
    split at hs
    · rename_i e1; subst e1
      split at hs
      · simp only [mm_callS] at hs
        split at hs
        · injection hs with hs; cases hs
        · cases hs
      · simp only [mm_copy] at hs
        split at hs
        · rename_i n dp a1 sp a0 r
          split at hs
          · rename_i c0 n0' f c1 n1 g ea0 ea1
            split at hs
            · rename_i hq
              obtain ⟨⟨rfl, rfl⟩, ⟨h1, h2, h3⟩, ⟨h4, h5⟩, h6⟩ := hq
              injection hs with hs; injection hs with hs
              subst hs
              refine va_copyi (D := D) (cl := vwCl) hx hb (by rw [hml]; exact hl.1.symm) hown (mm_hw hts (hrow.1 rfl) rfl) (mm_hw hts mm_xw.1 rfl) (mm_hw hts mm_xw.2.1 rfl) (mm_hw hts mm_xw.2.2.1 rfl) hK hP hDD hS a0 a1 0 0 (mm_ws_get ea0) (mm_ws_get ea1) rfl rfl rfl h1 h2 h3 h4 h5 (fun _ _ => rfl) (by omega) (by rw [mm_tr_sum]; have q2 := hR.2; have q3 : nativeFrameWords "java/lang/System" "arraycopy" 5 ≤ 100 := (by decide +kernel); omega) hd (fun H1 locs1 hP1 _ hS1 => ?_)
              refine k ls H1 locs1 cells slots hl ?_ hS1 (fun q => by rw [List.length_set]; exact hX q) hc hk
              show va_P D vwCl (mm_ws b sA cid (h.1.set a1 (.inl (0, n1, .inl (va_cpy f g sp.toNatClampNeg dp.toNatClampNeg n.toNatClampNeg))))) H1
              rw [← mm_ws_set]
              exact hP1
            · cases hs
          · cases hs
        · cases hs
      · split at hs
        · split at hs
          · rename_i hq
            injection hs with hs; injection hs with hs
            exact va_mmax hx hb (by rw [hml]; exact hl.1.symm) hown (mm_hw hts (hrow.2.1 rfl) rfl) (mm_hw hts mm_xm.1 rfl) (mm_hw hts mm_xm.2.2.2.2 rfl) (mm_hw hts mm_xm.2.1 rfl) (by omega) (by rw [mm_tr_sum]; omega) (by subst hs; dsimp only at hRc hRk; omega) (by subst hs; dsimp only at hRc hRk; omega) hd (k' _ _ _ hs.symm ls hl)
          · cases hs
        · cases hs
      · split at hs
        · split at hs
          · rename_i hq
            injection hs with hs; injection hs with hs
            exact va_mmin hx hb (by rw [hml]; exact hl.1.symm) hown (mm_hw hts (hrow.2.2 rfl) rfl) (mm_hw hts mm_xm.2.2.1 rfl) (mm_hw hts mm_xm.2.2.2.2 rfl) (mm_hw hts mm_xm.2.2.2.1 rfl) (by omega) (by rw [mm_tr_sum]; omega) (by subst hs; dsimp only at hRc hRk; omega) (by subst hs; dsimp only at hRc hRk; omega) hd (k' _ _ _ hs.symm ls hl)
          · cases hs
        · cases hs
      · cases hs
    · cases hs
  case ireturn =>
    simp only [mm_step] at hs
    split at hs
    · rename_i e1; subst e1
      split at hs
      · injection hs with hs; cases hs
      · cases hs
    · cases hs
  case return_ =>
    simp only [mm_step] at hs
    split at hs
    · rename_i e1; subst e1
      split at hs
      · injection hs with hs; cases hs
      · cases hs
    · cases hs
  all_goals (simp only [mm_step] at hs; cases hs; done)
end MMS
