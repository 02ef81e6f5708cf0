/-! THE MINI MACHINE IS SOUND: what it evaluates to, the machine comes to -/
def mm_xs : List String := ["java/lang/RuntimeException", "java/lang/Exception"]
/-- a throw of a new exception stands at pc -/
def mm_thrF (bytes : ByteArray) (own pc x : Nat) : Prop := ∃ (ik is ic kst : Nat) (tx : String), (decode bytes pc = .ok (.new ik, 3) ∧ decode bytes (pc + 3) = .ok (.dup, 1)) ∧
  ((decode bytes (pc + 4) = .ok (.ldc is, 2) ∧ decode bytes (pc + 6) = .ok (.invokespecial ic, 3) ∧ decode bytes (pc + 9) = .ok (.athrow, 1)) ∨ (decode bytes (pc + 4) = .ok (.ldc_w is, 3) ∧ decode bytes (pc + 7) = .ok (.invokespecial ic, 3) ∧ decode bytes (pc + 10) = .ok (.athrow, 1))) ∧
  (own, is, tx, kst) ∈ mm_strs ∧ Jvm.Cond.classLink (mm_cn own) ik (mm_xn x) ∈ lw_tbl ∧ Jvm.Cond.initialized (mm_xn x) ∈ lw_tbl ∧ ((∀ w ∈ vx_atS (mm_cn own) ic (mm_xn x) mm_xs, w ∈ lw_tbl ∧ mm_good w = true) ∨ ((decode bytes (pc + 4) = .ok (.ldc_w is, 3) ∧ decode bytes (pc + 7) = .ok (.invokespecial ic, 3) ∧ decode bytes (pc + 10) = .ok (.athrow, 1)) ∧ ∀ w ∈ (mm_oa (mm_cn own) ic (mm_xn x) "java/lang/RuntimeException" ["java/lang/Exception"]).filter vx_no, w ∈ lw_tbl ∧ mm_good w = true)) ∧ Bundle.fit (mm_xn x) = true
/-- what the tables say of a method that is called -/
def mm_mok (M : mm_M) : Prop := plainName M.1.cls = true ∧ (M.1.cls ≠ "java/lang/invoke/MethodHandle" ∧ M.1.cls ≠ "java/lang/invoke/VarHandle") ∧ Jvm.Cond.initialized M.1.cls ∈ lw_tbl ∧ mm_cn M.2.2.2.2.1 = M.1.cls ∧ M.2.2.1 ≤ 21 ∧
  ((M.2.2.2.2.2.2.1 = [] → Jvm.Cond.code M.1 M.2.1 M.2.2.1 M.2.2.2.1 ∈ lw_tbl) ∧ (M.2.2.2.2.2.2.1 ≠ [] → Jvm.Cond.codeWith M.1 M.2.1 M.2.2.1 M.2.2.2.1 M.2.2.2.2.2.2.1 ∈ lw_tbl)) ∧ (M.2.2.2.2.2.1 = true → M.1.name = "<init>")
/-- what they say of a call -/
def mm_calok (own : Nat) (ins : Instr) (r1 : Int) (Mj : mm_M) (ci n : Nat) : Prop := match ins with
  | .invokevirtual i => r1 = 0 → Jvm.Cond.methodLink (mm_cn own) i Mj.1 ∈ lw_tbl ∧ Jvm.Cond.instanceMethod Mj.1 ∈ lw_tbl ∧ Jvm.Cond.selects (mm_cn ci) Mj.1 Mj.1 ∈ lw_tbl ∧ ci < 12 ∧ (parseMethodDescriptor Mj.1.desc).map (fun d => d.parameters.length) = some n
  | .invokestatic i => r1 = 0 → Jvm.Cond.methodLink (mm_cn own) i Mj.1 ∈ lw_tbl ∧ Jvm.Cond.static Mj.1 ∈ lw_tbl ∧ (parseMethodDescriptor Mj.1.desc).map (fun d => d.parameters.length) = some n
  | .invokespecial i => r1 = 0 → (Jvm.Cond.methodLink (mm_cn own) i Mj.1 ∈ lw_tbl ∨ (own, i, Mj.1) ∈ mm_nest) ∧ Jvm.Cond.instanceMethod Mj.1 ∈ lw_tbl ∧ Mj.1.name = "<init>" ∧ Mj.2.2.2.1 = none ∧ (Mj.2.2.2.2.2.2.1 = [] ∧ Mj.2.2.2.2.2.1 = true) ∧ (parseMethodDescriptor Mj.1.desc).map (fun d => d.parameters.length) = some n
  | _ => True
def mm_Tab (P : Nat → Option mm_M) (X mc na : Nat → Nat) : Prop :=
  (∀ mi M, P mi = some M → ∀ q ∈ M.2.2.2.2.2.2.2.2, decode M.2.1 q.1 = .ok (q.2.1, q.2.2.1) ∧ mm_rowok M.2.2.2.2.1 q.2.1 q.2.2.2.1 q.2.2.2.2 ∧ (∀ i, q.2.1 = .new i → q.2.2.2.1 = 1 → mm_thrF M.2.1 M.2.2.2.2.1 q.1 (X q.2.2.2.2) ∧ M.2.2.2.2.2.2.1 = []) ∧ ∀ Mj, P q.2.2.2.2 = some Mj → mm_calok M.2.2.2.2.1 q.2.1 q.2.2.2.1 Mj (mc q.2.2.2.2) (na q.2.2.2.2) ∧ mm_mok Mj)
section MMT
variable {l : Launch} {D : va_G} {b : Nat} {sA : Nat → Nat} {cid : Nat → ClassId} {L : Nat} {xs : Nat → Int32} {mc na X : Nat → Nat} {P : Nat → Option mm_M}
/-- where a method's walk stands -/
def mm_Cx (l : Launch) (D : va_G) (b : Nat) (sA : Nat → Nat) (cid : Nat → ClassId) (L : Nat) (xs : Nat → Int32) (p : Program) (R : Room) (s : State) (m : MethodId) (args : Array Value) (meth : Method) (c : Code) (M : mm_M) (d : Nat) : Prop :=
  p.tables.exec = Jvm.exec ∧ c.code = M.2.1 ∧ c.maxLocals = M.2.2.1 ∧ s.vm.findClass (mm_cn M.2.2.2.2.1) = some m.cls ∧ (∀ w ∈ mm_tbl, w.before args s = true) ∧ c.exceptionTable.toList = tableOf M.2.2.2.2.2.2.1 ∧ (d + 8 ≤ R.frames ∧ 40 * d + 200 ≤ R.locals) ∧ meth.locks = false ∧ mm_G D b sA cid L xs s s.heap ∧ l.stackTraces = false ∧ (M.2.2.2.2.2.1 = true → meth.name = "<init>") ∧ b ≤ s.heap.size
/-- how a method's walk may end -/
def mm_End (p : Program) (l : Launch) (e : Env) (R : Room) (s : State) (m : MethodId) (args : Array Value) (below : List Frame) (meth : Method) (c : Code) (Q : State → Prop) (D : va_G) (b : Nat) (sA : Nat → Nat) (cid : Nat → ClassId) (X : Nat → Nat) (M : mm_M) (n0 k0 : Nat) (r : mm_R) : Prop :=
  (∀ v, r.1 = .inl v → ∀ (pc : Nat) (ls : Array Slot) (H : Heap) (locs : List Loc) (cells slots : Nat), mm_rok M.2.2.2.1 v = true → ((v = none ∧ decode M.2.1 pc = .ok (.return_, 1)) ∨ ∃ x, v = some (.int x) ∧ decode M.2.1 pc = .ok (.ireturn, 1)) → va_P D vwCl (mm_ws b sA cid r.2.1) H → va_S (fun q => b ≤ q) s.heap H locs → cells + n0 = r.2.2.2.1 → slots + k0 = r.2.2.2.2 →
    W p l e R s m args below meth c H locs cells slots Q (F0 m pc ls (v.toList.map (mm_tr b sA)))) ∧
  (∀ x, r.1 = .inr x → M.2.2.2.2.2.2.1 = [] → ∀ (pc : Nat) (ls : Array Slot) (rest : List Value) (H : Heap) (locs : List Loc) (cells slots : Nat) (q : Addr) (ce : Cell), va_P D vwCl (mm_ws b sA cid r.2.1) H → va_S (fun q => b ≤ q) s.heap H locs → cells + n0 = r.2.2.2.1 → slots + k0 = r.2.2.2.2 → H[q]? = some ce → ce.vm = .none → s.vm.findClass (mm_xn x) = some ce.cls →
    vx_W p l e R s m args below meth c H locs cells slots Q (F0 m pc ls rest) q) ∧
  (∀ t, r.1 = .inr (X t) → M.2.2.2.2.2.2.1 = [] → ∀ (pc : Nat) (ls : Array Slot) (rest : List Value) (H : Heap) (locs : List Loc) (cells slots : Nat), mm_thrF M.2.1 M.2.2.2.2.1 pc (X t) → ls.size = M.2.2.1 → (rest.map fun v => v.category).sum ≤ 8 → va_P D vwCl (mm_ws b sA cid r.2.1) H → va_S (fun q => b ≤ q) s.heap H locs → cells + 1 + n0 = r.2.2.2.1 → slots + 6 + k0 = r.2.2.2.2 →
    W p l e R s m args below meth c H locs cells slots Q (F0 m pc ls rest))
def mm_Pc (D : va_G) (b : Nat) (sA : Nat → Nat) (cid : Nat → ClassId) (L : Nat) (xs : Nat → Int32) (as : List Value) (h : mm_H) : Array Value → State → Prop := fun v U => v = (as.map (mm_tr b sA)).toArray ∧ mm_G D b sA cid L xs U U.heap ∧ b ≤ U.heap.size ∧ va_P D vwCl (mm_ws b sA cid h.1) U.heap ∧ (h.2.1 = true → U.heap.size = b + h.1.length)
def mm_Qr (D : va_G) (b : Nat) (sA : Nat → Nat) (cid : Nat → ClassId) (r : mm_R) : Array Value → State → Outcome → State → Prop := fun _ st oc t => ∃ v, r.1 = .inl v ∧ oc = .returned (v.map (mm_tr b sA)) ∧ va_P D vwCl (mm_ws b sA cid r.2.1) t.heap ∧ va_F (fun q => b ≤ q) st t
def mm_Xr (D : va_G) (b : Nat) (sA : Nat → Nat) (cid : Nat → ClassId) (r : mm_R) : String → State → State → Prop := fun E st t => ∃ x, r.1 = .inr x ∧ E = mm_xn x ∧ va_P D vwCl (mm_ws b sA cid r.2.1) t.heap ∧ va_F (fun q => b ≤ q) st t
abbrev mm_wsM (M : mm_M) : List Jvm.Cond := Jvm.Cond.codeWith M.1 M.2.1 M.2.2.1 M.2.2.2.1 M.2.2.2.2.2.2.1 :: mm_tbl
abbrev mm_rm (d : Nat) (h : mm_H) (r : mm_R) : Room := { frames := d + 8, cells := r.2.2.2.1 - h.2.2.1, slots := r.2.2.2.2 - h.2.2.2, locals := 40 * d + 200 }
def mm_Met (l : Launch) (D : va_G) (b : Nat) (sA : Nat → Nat) (cid : Nat → ClassId) (L : Nat) (xs : Nat → Int32) (M : mm_M) (d : Nat) (as : List Value) (h : mm_H) (r : mm_R) : Prop :=
  vx_Met l M.1 (mm_wsM M) (mm_rm d h r) (mm_Pc D b sA cid L xs as h) (mm_Qr D b sA cid r) (mm_Xr D b sA cid r) (r.2.2.2.1 - h.2.2.1) (r.2.2.2.2 - h.2.2.2) (fun q => b ≤ q)
def mm_Snd (l : Launch) (D : va_G) (b : Nat) (sA : Nat → Nat) (cid : Nat → ClassId) (L : Nat) (xs : Nat → Int32) (mc na X : Nat → Nat) (P : Nat → Option mm_M) (n : Nat) : Prop :=
  ∀ (d mi pc : Nat) (lv : mm_L) (st : List Value) (h : mm_H) (r : mm_R) (M : mm_M), mm_ev (mm_B L xs mc na) P X n d mi pc lv st h = some r → P mi = some M →
    ∀ (p : Program) (e : Env) (R : Room) (s : State) (m : MethodId) (args : Array Value) (below : List Frame) (meth : Method) (c : Code) (H : Heap) (locs : List Loc) (cells slots : Nat) (ls : Array Slot) (Q : State → Prop) (n0 k0 : Nat),
      mm_Cx l D b sA cid L xs p R s m args meth c M d → lv_has ls M.2.2.1 (lv.map (mm_trq b sA)) → va_P D vwCl (mm_ws b sA cid h.1) H → va_S (fun q => b ≤ q) s.heap H locs → (h.2.1 = true → s.heap.size + cells = b + h.1.length) → cells + n0 = h.2.2.1 → slots + k0 = h.2.2.2 → r.2.2.2.1 ≤ n0 + R.cells → r.2.2.2.2 ≤ k0 + R.slots →
      mm_End p l e R s m args below meth c Q D b sA cid X M n0 k0 r → W p l e R s m args below meth c H locs cells slots Q (F0 m pc ls (st.map (mm_tr b sA)))
set_option maxHeartbeats 40000000 in
/-- a method's end, as its contract has it -/
theorem mm_end_met {p : Program} {e : Env} {R : Room} {s : State} {m : MethodId} {args : Array Value} {below : List Frame} {meth : Method} {c : Code} {M : mm_M} {d n0 k0 : Nat} {r : mm_R}
    (C : mm_Cx l D b sA cid L xs p R s m args meth c M d) (hr : meth.sig.returnType = M.2.2.2.1) (hRc : r.2.2.2.1 ≤ n0 + R.cells) (hRk : r.2.2.2.2 ≤ k0 + R.slots) (hn : n0 ≤ r.2.2.2.1) (hk : k0 ≤ r.2.2.2.2) :
    mm_End p l e R s m args below meth c (vx_MQ below (mm_Qr D b sA cid r) (mm_Xr D b sA cid r) args s (r.2.2.2.1 - n0) (r.2.2.2.2 - k0) (fun q => b ≤ q)) D b sA cid X M n0 k0 r := by
  obtain ⟨hx, hb, hml, hown, hts, htab, hR, hlocks, hG, hl, hini, hbs⟩ := C
  have hout : M.2.2.2.2.2.2.1 = [] → ∀ x ∈ c.exceptionTable.toList, ∀ pc, covers x pc = false := fun h0 x hx => by
    rw [htab, h0] at hx
    exact absurd hx List.not_mem_nil
  refine ⟨fun v hv pc ls H locs cells slots hrok hdec hP hS hc hk => ?_, fun x hv h0 pc ls rest H locs cells slots q ce hP hS hc hk hce hcv hcl => ?_, fun x hv h0 pc ls rest H locs cells slots hthr hsz hsum hP hS hc hk => ?_⟩
  · have e1 : r.2.2.2.1 - n0 = cells := by omega
    have e2 : r.2.2.2.2 - k0 = slots := by omega
    rw [e1, e2]
    refine vx_ret ?_
    rcases hdec with ⟨rfl, hdec⟩ | ⟨x, rfl, hdec⟩
    · have hret : meth.sig.returnType = none := by
        rw [hr]
        generalize M.2.2.2.1 = ret at hrok
        cases ret with
        | none => rfl
        | some t => cases t <;> simp [mm_rok] at hrok
      exact W.vret hx hb hret (fun t ht hW => ⟨_, hv, rfl, by rw [ht]; exact hP, hS.F ht⟩) hS.2.2 hdec
    · have hret : ∃ ty, meth.sig.returnType = some ty ∧ narrow ty (.int x) = .int x := by
        rw [hr]
        generalize M.2.2.2.1 = ret at hrok
        cases ret with
        | none => simp [mm_rok] at hrok
        | some t =>
          cases t with
          | int => exact ⟨_, rfl, rfl⟩
          | boolean =>
            have h9 : x = 0 ∨ x = 1 := of_decide_eq_true hrok
            rcases h9 with rfl | rfl
            · exact ⟨_, rfl, rfl⟩
            · exact ⟨_, rfl, rfl⟩
          | _ => simp [mm_rok] at hrok
      obtain ⟨ty, h1, h2⟩ := hret
      exact W.zret hx hb h1 h2 (fun t ht hW => ⟨_, hv, rfl, by rw [ht]; exact hP, hS.F ht⟩) hS.2.2 hdec
  · exact vx_out (fun x hx => hout h0 x hx pc) hlocks hce hcv hcl (fun t ht _ => ⟨x, hv, rfl, by rw [ht]; exact hP, hS.F ht⟩) hS.2.2 (by omega) (by omega)
  · obtain ⟨ik, is, ic, kst, tx, ⟨d0, d3⟩, hd4, hst, hcl, hin, hat, hfit⟩ := hthr
    have hXC : ∀ t : State, s.vm.Alike t.vm → H.size ≤ t.heap.size → (∀ q : Nat, q < H.size → t.heap[q]? = H[q]?) → mm_Xr D b sA cid r (mm_xn (X x)) s t := fun t _ hle hq => ⟨X x, hv, rfl, hP.kept (fun k y hy => hq y.1 ((hP k y hy).lt)), Nat.le_trans hS.1 hle, fun q h1 h2 => (hq q (Nat.lt_of_lt_of_le h1 hS.1)).trans (hS.2.1 q h1 h2)⟩
    rcases hat with hat | ⟨⟨d4, d6, d9⟩, hat⟩
    · have hnames : ∀ n ∈ mm_xs, Bundle.fit n = true := by decide +kernel
      have hgood : ∀ w ∈ Jvm.Cond.classLink (mm_cn M.2.2.2.2.1) ik (mm_xn (X x)) :: Jvm.Cond.initialized (mm_xn (X x)) :: vx_atS (mm_cn M.2.2.2.2.1) ic (mm_xn (X x)) mm_xs, vx_ot w = true := by
        intro w hw
        rcases List.mem_cons.mp hw with rfl | hw
        · rfl
        rcases List.mem_cons.mp hw with rfl | hw
        · rfl
        · exact mm_good_ot (hat w hw).2
      have hlen : mm_xs.length = 2 := rfl
      have q1 : (Jvm.Cond.classLink (mm_cn M.2.2.2.2.1) ik (mm_xn (X x))).before args s = true := mm_hw hts hcl rfl
      have q2 : (Jvm.Cond.initialized (mm_xn (X x))).before args s = true := mm_hw hts hin rfl
      have q3 : vk_R (mm_cn M.2.2.2.2.1) is tx (sA kst) s := hG.2.2.2.1 (M.2.2.2.2.1, is, tx, kst) hst
      have q4 : ∀ w ∈ vx_atS (mm_cn M.2.2.2.2.1) ic (mm_xn (X x)) mm_xs, w.before args s = true := fun w hw => mm_hw hts (hat w hw).1 (hat w hw).2
      rcases hd4 with ⟨d4, d6, d9⟩ | ⟨d4, d6, d9⟩
      · exact vx_throwS (A := fun q => b ≤ q) (own := mm_cn M.2.2.2.2.1) (cls := mm_xn (X x)) (names := mm_xs) (ik := ik) (is := is) (ic := ic) (text := tx) (sa := sA kst) hx hb hl hown hfit hnames q1 q2 q3 q4 hgood hG.2.2.1.1 hG.2.2.1.2 hS (hsz.trans hml.symm) d0 d3 d4 d6 d9 (fun y hy => hout h0 y hy _) (by rw [hlen]; omega) (by rw [hlen]; omega) (by omega) (by omega) hlocks hXC hS.2.2 (by omega) (by omega)
      · exact vx_throwSW (A := fun q => b ≤ q) (own := mm_cn M.2.2.2.2.1) (cls := mm_xn (X x)) (names := mm_xs) (ik := ik) (is := is) (ic := ic) (text := tx) (sa := sA kst) hx hb hl hown hfit hnames q1 q2 q3 q4 hgood hG.2.2.1.1 hG.2.2.1.2 hS (hsz.trans hml.symm) d0 d3 d4 d6 d9 (fun y hy => hout h0 y hy _) (by rw [hlen]; omega) (by rw [hlen]; omega) (by omega) (by omega) hlocks hXC hS.2.2 (by omega) (by omega)
    · have q1 : (Jvm.Cond.classLink (mm_cn M.2.2.2.2.1) ik (mm_xn (X x))).before args s = true := mm_hw hts hcl rfl
      have q2 : (Jvm.Cond.initialized (mm_xn (X x))).before args s = true := mm_hw hts hin rfl
      have q3 : vk_R (mm_cn M.2.2.2.2.1) is tx (sA kst) s := hG.2.2.2.1 (M.2.2.2.2.1, is, tx, kst) hst
      have q4 : ∀ w ∈ (mm_oa (mm_cn M.2.2.2.2.1) ic (mm_xn (X x)) "java/lang/RuntimeException" ["java/lang/Exception"]).filter vx_no, w.before args s = true := fun w hw => mm_hw hts (hat w hw).1 (hat w hw).2
      have hgood : ∀ w ∈ Jvm.Cond.classLink (mm_cn M.2.2.2.2.1) ik (mm_xn (X x)) :: Jvm.Cond.initialized (mm_xn (X x)) :: (mm_oa (mm_cn M.2.2.2.2.1) ic (mm_xn (X x)) "java/lang/RuntimeException" ["java/lang/Exception"]).filter vx_no, vx_ot w = true := by
        intro w hw
        rcases List.mem_cons.mp hw with rfl | hw
        · rfl
        rcases List.mem_cons.mp hw with rfl | hw
        · rfl
        · exact mm_good_ot (hat w hw).2
      exact mm_throwXW (A := fun q => b ≤ q) (own := mm_cn M.2.2.2.2.1) (cls := mm_xn (X x)) (Y := "java/lang/RuntimeException") (r := ["java/lang/Exception"]) (ik := ik) (is := is) (ic := ic) (text := tx) (sa := sA kst) hx hb hl hown hfit (by decide +kernel) (by decide +kernel) q1 q2 q3 q4 hgood hG.2.2.1.1 hG.2.2.1.2 hS (hsz.trans hml.symm) d0 d3 d4 d6 d9 (fun y hy => hout h0 y hy _) (by show 1 + 4 < _; omega) (by show _ + (13 * (1 + 2) + 43) ≤ _; omega) (by omega) (by omega) hlocks hXC hS.2.2 (by omega) (by omega)
theorem mm_cw {M : mm_M} {args : Array Value} {s : State} (hok : mm_mok M) (hts : ∀ w ∈ mm_tbl, w.before args s = true) : (Jvm.Cond.codeWith M.1 M.2.1 M.2.2.1 M.2.2.2.1 M.2.2.2.2.2.2.1).before args s = true := by
  by_cases h0 : M.2.2.2.2.2.2.1 = []
  · have h1 := mm_hw hts (hok.2.2.2.2.2.1.1 h0) rfl
    rw [h0]
    simp only [Cond.before, Cond.holds] at h1 ⊢
    rw [← Cond.code_iff_codeWith_nil]
    exact h1
  · exact mm_hw hts (hok.2.2.2.2.2.1.2 h0) rfl
theorem mm_ws_good {M : mm_M} {args : Array Value} {s : State} (hok : mm_mok M) (hts : ∀ w ∈ mm_tbl, w.before args s = true) : ∀ w ∈ mm_wsM M, ∀ (a' : Array Value) (U : State), s.WarmedH U.vm → w.before a' U = true := by
  intro w hw a' U hW
  have h1 : ∀ w ∈ mm_tbl, w.before a' U = true := fun w hw => mm_tbl_good hts w hw a' U hW
  rcases List.mem_cons.mp hw with rfl | hw
  · exact mm_cw hok h1
  · exact h1 w hw
theorem mm_met_of {n d j : Nat} {as : List Value} {h : mm_H} {r : mm_R} {M : mm_M} (hS : mm_Snd l D b sA cid L xs mc na X P n) (hM : P j = some M) (hok : mm_mok M) (hlst : l.stackTraces = false) (hlen : (lg_sl as).length ≤ M.2.2.1)
    (hev : mm_ev (mm_B L xs mc na) P X n d j 0 (lv_args 0 as) [] h = some r) : mm_Met l D b sA cid L xs M d as h r := by
  have hmono := mm_ev_mono _ _ _ _ _ _ _ _ _ _ _ hev
  refine vx_ofWH (cc := M.2.1) (maxL := M.2.2.1) (ret := M.2.2.2.1) (hh := M.2.2.2.2.2.2.1) hok.1 rfl ?_
  intro p e s m args below meth c s₁ B hml hPc
  obtain ⟨rfl, hG, hbs, hPw, hex⟩ := hPc
  have htsA := atoms_spec (ws := mm_wsM M) B.pre
  have hts : ∀ w ∈ mm_tbl, w.before (as.map (mm_tr b sA)).toArray s = true := fun w hw => htsA w (List.mem_cons_of_mem _ hw)
  have hcw := htsA _ List.mem_cons_self
  have C : mm_Cx l D b sA cid L xs p (mm_rm d h r) s m (as.map (mm_tr b sA)).toArray meth c M d := ⟨B.exec, B.bytes, hml, by rw [hok.2.2.2.1]; exact findClass_of_methodNamed B.named, hts, vx_table (x := M.1) B hcw, ⟨Nat.le_refl _, Nat.le_refl _⟩, B.notSynchronized, hG, hlst, fun hi => by rw [(name_of_methodNamed B.named B.method).1]; exact hok.2.2.2.2.2.2 hi, hbs⟩
  have hl := lv_entry (as.map (mm_tr b sA)) (n := M.2.2.1) (by rw [mm_sl_len]; exact hlen)
  rw [lg_entry_eq]
  rw [mm_args_map] at hl
  generalize (lg_sl (as.map (mm_tr b sA)) ++ List.replicate (M.2.2.1 - (lg_sl (as.map (mm_tr b sA))).length) Slot.unset).toArray = ls at hl ⊢
  exact hS d j 0 _ [] h r M hev hM p e _ s m _ below meth c s.heap [] 0 0 ls _ h.2.2.1 h.2.2.2 C hl hPw va_S.rf (fun q => by rw [Nat.add_zero]; exact hex q) (Nat.zero_add _) (Nat.zero_add _) (by show r.2.2.2.1 ≤ h.2.2.1 + (r.2.2.2.1 - h.2.2.1); omega) (by show r.2.2.2.2 ≤ h.2.2.2 + (r.2.2.2.2 - h.2.2.2); omega) (mm_end_met C B.returns (by show r.2.2.2.1 ≤ h.2.2.1 + (r.2.2.2.1 - h.2.2.1); omega) (by show r.2.2.2.2 ≤ h.2.2.2 + (r.2.2.2.2 - h.2.2.2); omega) hmono.1 hmono.2)
theorem mm_blind {as : List Value} {h : mm_H} : FrameBlind (mm_Pc D b sA cid L xs as h) := fun _ U g mk q => ⟨q.1, mm_G_go (u := U) (U := U.calling g mk _) (State.WarmedH.refl U) (fun _ _ _ => rfl) q.2.1, q.2.2⟩
/-- behind a call -/
theorem mm_after {p : Program} {e : Env} {R : Room} {s : State} {m : MethodId} {args : Array Value} {below : List Frame} {meth : Method} {c : Code} {H : Heap} {locs : List Loc} {cells slots mc0 ms0 pc : Nat} {ls : Array Slot} {st0 rest : List Value} {a : Array Value} {r : mm_R} {Q : State → Prop}
    (hr : vx_Run p l e R s m args below meth c H locs cells slots mc0 ms0 (F0 m pc ls st0) rest (mm_Qr D b sA cid r a) (mm_Xr D b sA cid r) (fun q => b ≤ q)) (hS : va_S (fun q => b ≤ q) s.heap H locs)
    (kk : ∀ v, r.1 = .inl v → ∀ (H1 : Heap) (locs1 : List Loc), va_P D vwCl (mm_ws b sA cid r.2.1) H1 → va_S (fun q => b ≤ q) s.heap H1 locs1 → W p l e R s m args below meth c H1 locs1 (cells + mc0) (slots + ms0) Q (F0 m (pc + 3) ls ((v.map (mm_tr b sA)).toList ++ rest)))
    (kx : ∀ x, r.1 = .inr x → ∀ (q : Addr) (ce : Cell) (H1 : Heap) (locs1 : List Loc), va_P D vwCl (mm_ws b sA cid r.2.1) H1 → va_S (fun q => b ≤ q) s.heap H1 locs1 → H1[q]? = some ce → ce.vm = .none → s.vm.findClass (mm_xn x) = some ce.cls → vx_W p l e R s m args below meth c H1 locs1 (cells + mc0) (slots + ms0) Q (F0 m pc ls rest) q) :
    W p l e R s m args below meth c H locs cells slots Q (F0 m pc ls st0) := by
  intro T hT X
  rcases hr T hT X with ⟨v, st₀, t, T', L, h0, X', hL, e1, e2, ⟨v', hv', hv, hp, hF⟩, st⟩ | ⟨q, st₀, t, T', L, E, ce, h0, X', hL, e1, e2, ⟨x, hx, rfl, hp, hF⟩, hce, hcv, hcl, st⟩
  · have hv2 : v = v'.map (mm_tr b sA) := by cases hv; rfl
    subst hv2
    obtain ⟨k1, k2, k3⟩ := vx_keep h0 e1 hS (fun q _ h => h) (fun q h => h) hL hF
    obtain ⟨t2, a1, b1⟩ := kk v' hv' T'.heap (locs ++ L) (by rw [e1]; exact hp) k3 T' rfl X'
    exact ⟨t2, st t2 a1, b1⟩
  · obtain ⟨k1, k2, k3⟩ := vx_keep h0 e1 hS (fun q _ h => h) (fun q h => h) hL hF
    obtain ⟨t2, a1, b1⟩ := kx x hx q ce T'.heap (locs ++ L) (by rw [e1]; exact hp) k3 (by rw [e1]; exact hce) hcv hcl T' rfl X'
    exact ⟨t2, st.trans a1, b1⟩
end MMT
