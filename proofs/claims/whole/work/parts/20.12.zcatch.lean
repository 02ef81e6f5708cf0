/-! A CALLEE'S THROW, CAUGHT BY NAME -/
section MMC
/-- a row that names a class, over this pc: it takes the exception, or the search goes on; the entry is linked -/
theorem mm_fh {E : CtlPost} {e : Env} {d : Bool} {acts : List Action} {S : State} {f : JFrame} {a : Addr} {Q : Handler → Pre} {x : ExceptionTableEntry} {t : List ExceptionTableEntry} {c : ClassId} {cell : Cell} (hx : covers x f.pc = true) (h0 : x.catchType ≠ 0) (hl : S.vm.ClassLinks e.platform f.method.cls x.catchType c) (hcell : S.heap[a]? = some cell) (hobj : ∀ k, cell.vm ≠ .statics k)
    (hk : ∃ k, S.vm.classes[cell.cls]? = some k) (hc : ∃ k, S.vm.classes[c]? = some k) :
    wp (findHandler.go f a (x :: t)) Q E e d acts S ↔ if S.vm.assignable cell.cls c = true then Q (.found x.handlerPc) d acts (S.setVm (S.vm.noted f.method.cls x.catchType (.cls c))) else wp (findHandler.go f a t) Q E e d acts (S.setVm (S.vm.noted f.method.cls x.catchType (.cls c))) := by
  have hgiv := (resolveClass_links e.toSetting hl).op (op := VmOp.resolveClass f.method.cls x.catchType) rfl
  have hal : S.vm.Alike (S.vm.noted f.method.cls x.catchType (.cls c)) := (Vm.Alike.refl S.vm).noted _ _ _
  obtain ⟨k1, hk1⟩ := hk
  obtain ⟨k2, hk2⟩ := hc
  obtain ⟨j1, hj1, -⟩ := hal.2.2 _ _ hk1
  obtain ⟨j2, hj2, -⟩ := hal.2.2 _ _ hk2
  have has : (S.vm.noted f.method.cls x.catchType (.cls c)).assignable cell.cls c = S.vm.assignable cell.cls c := by rw [hal.assignable]
  simp only [covers] at hx
  cases hfit : S.vm.assignable cell.cls c <;> simp [findHandler.go, hx, h0, hgiv.1, hgiv.2, hcell, hobj, hj1, hj2, has, hfit, VmOp.dirties, VmOp.acts]
theorem mm_dn {e : Env} {s₀ : State} {f : JFrame} {a : Addr} {cell : Cell} (hobj : ∀ k, cell.vm ≠ .statics k) (hk0 : ∃ k, s₀.vm.classes[cell.cls]? = some k) {x : ExceptionTableEntry} {suf : List ExceptionTableEntry} {cx : ClassId}
    (hx : covers x f.pc = true) (hx0 : x.catchType ≠ 0) (hxl : s₀.vm.ClassLinks e.platform f.method.cls x.catchType cx) (hxa : s₀.vm.assignable cell.cls cx = true) :
    ∀ (pre : List ExceptionTableEntry), (∀ z ∈ pre, covers z f.pc = true ∧ z.catchType ≠ 0 ∧ ∃ cz, s₀.vm.ClassLinks e.platform f.method.cls z.catchType cz ∧ s₀.vm.assignable cell.cls cz = false) →
    ∀ (S : State), s₀.WarmedH S.vm → S.heap[a]? = some cell → ∃ vm', s₀.WarmedH vm' ∧ ∀ (Q : Handler → Pre) (E : CtlPost) (d : Bool) (acts : List Action), wp (findHandler.go f a (pre ++ x :: suf)) Q E e d acts S ↔ Q (.found x.handlerPc) d acts (S.setVm vm') := by
  obtain ⟨k0, hk0⟩ := hk0
  have step : ∀ (z : ExceptionTableEntry) (cz : ClassId), s₀.vm.ClassLinks e.platform f.method.cls z.catchType cz → ∀ S : State, s₀.WarmedH S.vm → S.vm.ClassLinks e.platform f.method.cls z.catchType cz ∧ s₀.WarmedH (S.vm.noted f.method.cls z.catchType (.cls cz)) ∧ (∃ k, S.vm.classes[cell.cls]? = some k) ∧ (∃ k, S.vm.classes[cz]? = some k) ∧ S.vm.assignable cell.cls cz = s₀.vm.assignable cell.cls cz := by
    intro z cz hl S hW
    obtain ⟨dk, _, _, kt, hd, _, _, _, _, hkt, _, hopen⟩ := hl.here
    obtain ⟨k1, hk1, -⟩ := hW.alike.2.2 _ _ hk0
    obtain ⟨k2, hk2, -⟩ := hW.alike.2.2 _ _ hkt
    exact ⟨hW.classLinks hl, hW.noted hd hopen (State.rightAt_cls hl), ⟨k1, hk1⟩, ⟨k2, hk2⟩, by rw [hW.alike.assignable]⟩
  intro pre
  induction pre with
  | nil =>
    intro _ S hW hcell
    obtain ⟨g1, g2, g3, g4, g5⟩ := step x cx hxl S hW
    refine ⟨_, g2, fun Q E d acts => ?_⟩
    rw [List.nil_append, mm_fh hx hx0 g1 hcell hobj g3 g4, if_pos (by rw [g5]; exact hxa)]
  | cons z zs ih =>
    intro hp S hW hcell
    obtain ⟨hz, hz0, cz, hzl, hza⟩ := hp z List.mem_cons_self
    obtain ⟨g1, g2, g3, g4, g5⟩ := step z cz hzl S hW
    obtain ⟨vm', hW', hq⟩ := ih (fun y hy => hp y (List.mem_cons_of_mem _ hy)) (S.setVm (S.vm.noted f.method.cls z.catchType (.cls cz))) g2 hcell
    refine ⟨vm', hW', fun Q E d acts => ?_⟩
    rw [List.cons_append, mm_fh hz hz0 g1 hcell hobj g3 g4, if_neg (by rw [g5, hza]; decide)]
    exact hq Q E d acts
variable {p : Program} {l : Launch} {e : Env} {R : Room} {s : State} {m : MethodId} {args : Array Value} {below : List Frame} {meth : Method} {c : Code} {H : Heap} {locs : List Loc} {cells slots : Nat} {Q : State → Prop} {pc : Nat} {ls : Array Slot} {rest : List Value}
theorem mm_catchW {own E : String} {ce : Cell} {q : Addr} (hown : s.vm.findClass own = some m.cls) (pre : List ExceptionTableEntry) (x : ExceptionTableEntry) (suf : List ExceptionTableEntry) (hsplit : c.exceptionTable.toList = pre ++ x :: suf)
    (hpass : ∀ z ∈ pre, covers z pc = true ∧ z.catchType ≠ 0 ∧ ∃ nm : String, (Jvm.Cond.classLink own z.catchType nm).before args s = true ∧ va_Nc E nm s) (hx : covers x pc = true) (h0 : x.catchType ≠ 0)
    (hlink : (Jvm.Cond.classLink own x.catchType E).before args s = true) (hcell : H[q]? = some ce) (hv : ce.vm = .none) (hcl : s.vm.findClass E = some ce.cls)
    (kk : W p l e R s m args below meth c H locs cells slots Q (F0 m x.handlerPc ls [.ref q])) : vx_W p l e R s m args below meth c H locs cells slots Q (F0 m pc ls rest) q := by
  intro T hT X
  have hpl : e.platform.magicAccessors = ({} : Platform).magicAccessors := by rw [X.admits.platform]
  obtain ⟨c5, hc5, hcl5⟩ := Cond.classLink_spec hown hlink e.platform hpl
  have e5 : c5 = ce.cls := Option.some.inj (hc5.symm.trans hcl)
  obtain ⟨k9, hk9, -⟩ := Vm.findClass_spec hcl
  have hobj : ∀ k, ce.vm ≠ .statics k := fun k => by rw [hv]; intro z; cases z
  have hvm : ((T.setTop (F0 m pc ls rest)).pushFrame (.throwing q)).vm = T.vm := Stand.throwing_vm T _ q
  have hhp : ((T.setTop (F0 m pc ls rest)).pushFrame (.throwing q)).heap = T.heap := Stand.throwing_heap T _ q
  obtain ⟨vm', hW', hq⟩ := mm_dn (e := e) (s₀ := s) (f := F0 m pc ls rest) (a := q) (cell := ce) (x := x) (suf := suf) (cx := c5) hobj ⟨k9, hk9⟩ hx h0 hcl5 (by rw [e5]; exact va_asg _ _) pre
    (fun z hz => by
      obtain ⟨h1, h2, nm, h3, c6, t6, h4, h5, h6⟩ := hpass z hz
      obtain ⟨c7, hc7, hcl7⟩ := Cond.classLink_spec hown h3 e.platform hpl
      cases Option.some.inj (h4.symm.trans hcl)
      cases Option.some.inj (h5.symm.trans hc7)
      exact ⟨h1, h2, _, hcl7, h6⟩) ((T.setTop (F0 m pc ls rest)).pushFrame (.throwing q)) (by rw [hvm]; exact X.warmed) (by rw [hhp, hT]; exact hcell)
  have hmeth' : T.vm.method? m = some meth := X.method'
  have hfind : ∀ (Q9 : Handler → Pre) (E9 : CtlPost) (d : Bool) (acts : List Action), wp (findHandler (F0 m pc ls rest) q) Q9 E9 e d acts ((T.setTop (F0 m pc ls rest)).pushFrame (.throwing q)) ↔ Q9 (.found x.handlerPc) d acts (((T.setTop (F0 m pc ls rest)).pushFrame (.throwing q)).setVm vm') := fun Q9 E9 d acts => by
    rw [W.findHandler_eq (meth := meth) (code := c) (by rw [hvm]; exact hmeth') X.code, hsplit]
    exact hq Q9 E9 d acts
  have hAt : At T (F0 m pc ls rest).method c below := X.here
  obtain ⟨t2, a1, b1⟩ := kk (T.setVm vm') hT (X.noted hW')
  refine ⟨t2, ?_, b1⟩
  obtain ⟨hgo, hw⟩ := hAt.throwing q
  refine Steps.head hgo hw ?_
  have hst : (stepThrowing e ((T.setTop (F0 m pc ls rest)).pushFrame (.throwing q)) q (.java (F0 m pc ls rest) :: T.frames.tail)).Is ((((T.setTop (F0 m pc ls rest)).pushFrame (.throwing q)).setVm vm').setFrames (.java { (F0 m pc ls rest) with pc := x.handlerPc, stack := [.ref q] } :: T.frames.tail)) [] := by
    simp only [stepThrowing, searchFrame, vmDo]
    generalize hr : Sem.go _ e false [] _ = res
    obtain ⟨as, rfl, ha⟩ := Sem.eq_ok_of hr (a := Handler.found x.handlerPc) (s' := ((T.setTop (F0 m pc ls rest)).pushFrame (.throwing q)).setVm vm') (acts' := []) (by simp [hfind _ _ _ _])
    exact ⟨rfl, ha⟩
  rw [stepThread_throwing (frames_entered hAt.top _), hst.1]
  obtain ⟨g₀, hg⟩ := Option.isSome_iff_exists.mp hAt.top
  obtain ⟨r, hr⟩ := State.topJava?_eq_some.mp hg
  have hr' : (T.setVm vm').frames = .java g₀ :: r := hr
  rw [State.setTop_of_frames _ hr'] at a1
  have hfr : ∀ (u : State) (F G : List Frame), ((u.setFrames F).setVm vm').setFrames G = (u.setVm vm').setFrames G := fun u F G => by
    show ((u.setVm vm').setFrames F).setFrames G = _
    rw [State.setFrames_setFrames]
  rw [State.pushFrame, hfr, State.setTop_of_frames _ hr, hfr, hr]
  exact a1
end MMC
