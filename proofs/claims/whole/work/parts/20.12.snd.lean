/-! SOUNDNESS, THE INDUCTION -/
section MMU
variable {l : Launch} {D : va_G} {b : Nat} {sA : Nat → Nat} {cid : Nat → ClassId} {L : Nat} {xs : Nat → Int32} {mc na X : Nat → Nat} {P : Nat → Option mm_M}
variable {p : Program} {e : Env} {R : Room} {s : State} {m : MethodId} {args : Array Value} {below : List Frame} {meth : Method} {c : Code} {H : Heap} {locs : List Loc} {cells slots : Nat}
theorem mm_params {y : MethodName} {n : Nat} (h : (parseMethodDescriptor y.desc).map (fun d => d.parameters.length) = some n) : ∀ sig, parseMethodDescriptor y.desc = some sig → n = sig.parameters.length := fun sig hs => by
  rw [hs] at h
  exact (Option.some.inj h).symm
theorem mm_pcU {as : List Value} {h : mm_H} {U : State} (hG : mm_G D b sA cid L xs s s.heap) (hbs : b ≤ s.heap.size) (hP : va_P D vwCl (mm_ws b sA cid h.1) H) (hS : va_S (fun q => b ≤ q) s.heap H locs) (hX : h.2.1 = true → H.size = b + h.1.length) (hU : U.heap = H) (hW : s.WarmedH U.vm) : mm_Pc D b sA cid L xs as h (as.map (mm_tr b sA)).toArray U :=
  ⟨rfl, mm_G_go hW (fun q h1 h2 => by rw [hU]; exact hS.2.1 q h1 h2) hG, by rw [hU]; exact Nat.le_trans hbs hS.1, by rw [hU]; exact hP, fun q => by rw [hU]; exact hX q⟩
theorem mm_runV {M Mj : mm_M} {d ci n i pc : Nat} {as rest st : List Value} {h : mm_H} {r : mm_R} {ls : Array Slot} (C : mm_Cx l D b sA cid L xs p R s m args meth c M (d + 1)) (hMet : mm_Met l D b sA cid L xs Mj d as h r) (hok : mm_mok Mj)
    (hcal : Jvm.Cond.methodLink (mm_cn M.2.2.2.2.1) i Mj.1 ∈ lw_tbl ∧ Jvm.Cond.instanceMethod Mj.1 ∈ lw_tbl ∧ Jvm.Cond.selects (mm_cn ci) Mj.1 Mj.1 ∈ lw_tbl ∧ ci < 12 ∧ (parseMethodDescriptor Mj.1.desc).map (fun d => d.parameters.length) = some n)
    (hsh : mm_shV ci n st h as rest) (hsum : (rest.map fun v => v.category).sum ≤ 8) (hd : decode M.2.1 pc = .ok (.invokevirtual i, 3)) (hsz : ls.size = M.2.2.1) (hP : va_P D vwCl (mm_ws b sA cid h.1) H) (hS : va_S (fun q => b ≤ q) s.heap H locs) (hX : h.2.1 = true → H.size = b + h.1.length)
    (hrm : cells + (r.2.2.2.1 - h.2.2.1) ≤ R.cells ∧ slots + (r.2.2.2.2 - h.2.2.2) ≤ R.slots) :
    vx_Run p l e R s m args below meth c H locs cells slots (r.2.2.2.1 - h.2.2.1) (r.2.2.2.2 - h.2.2.2) (F0 m pc ls (st.map (mm_tr b sA))) (rest.map (mm_tr b sA)) (mm_Qr D b sA cid r (as.map (mm_tr b sA)).toArray) (mm_Xr D b sA cid r) (fun q => b ≤ q) := by
  obtain ⟨hx, hb, hml, hown, hts, htab, hR, hlocks, hG, hlst, hini, hbs⟩ := C
  obtain ⟨a, As, fs, rfl, rfl, hn, ea⟩ := hsh
  have f1 : (Jvm.Cond.initialized Mj.1.cls).before args s = true := mm_hw hts hok.2.2.1 rfl
  have f2 : (Jvm.Cond.methodLink (mm_cn M.2.2.2.2.1) i Mj.1).before args s = true := mm_hw hts hcal.1 rfl
  have f3 : (Jvm.Cond.instanceMethod Mj.1).before args s = true := mm_hw hts hcal.2.1 rfl
  have f4 : (Jvm.Cond.selects (mm_cn ci) Mj.1 Mj.1).before args s = true := mm_hw hts hcal.2.2.1 rfl
  have hnl := hok.2.2.2.2.1
  exact vx_runVX (hh := Mj.2.2.2.2.2.2.1) (C := mm_cn ci) (bytes := Mj.2.1) (maxL := Mj.2.2.1) (ret := Mj.2.2.2.1) (n := n) (b := b + a) (As := As.map (mm_tr b sA)) ⟨hx, hb, hml, hown, hts⟩ hMet
    ⟨⟨rfl, rfl, by show d + 8 + 1 ≤ _; omega, by show 8 + (Mj.2.2.1 + 11) + (40 * d + 200) ≤ _; omega, mm_ws_good hok hts, List.mem_cons_self⟩, mm_cw hok hts, f1, hok.2.1, mm_params hcal.2.2.2.2, f2, f3, f4⟩
    ⟨mm_blind, va_recv hG.1 hP (mm_cl hcal.2.2.2.1) (mm_ws_get ea), fun U hU hW => mm_pcU (as := .ref a :: As) hG hbs hP hS hX hU hW⟩
    rfl (by rw [List.length_map]; exact hn) hsz (by simp [List.map_append, List.map_reverse, mm_tr]) (lv_room (by rw [mm_tr_sum]; exact hsum)) hd hrm
theorem mm_runS {M Mj : mm_M} {d n i pc : Nat} {as rest st : List Value} {h : mm_H} {r : mm_R} {ls : Array Slot} (C : mm_Cx l D b sA cid L xs p R s m args meth c M (d + 1)) (hMet : mm_Met l D b sA cid L xs Mj d as h r) (hok : mm_mok Mj)
    (hcal : Jvm.Cond.methodLink (mm_cn M.2.2.2.2.1) i Mj.1 ∈ lw_tbl ∧ Jvm.Cond.static Mj.1 ∈ lw_tbl ∧ (parseMethodDescriptor Mj.1.desc).map (fun d => d.parameters.length) = some n)
    (hsh : mm_shS n st as rest) (hsum : (rest.map fun v => v.category).sum ≤ 8) (hd : decode M.2.1 pc = .ok (.invokestatic i, 3)) (hsz : ls.size = M.2.2.1) (hP : va_P D vwCl (mm_ws b sA cid h.1) H) (hS : va_S (fun q => b ≤ q) s.heap H locs) (hX : h.2.1 = true → H.size = b + h.1.length)
    (hrm : cells + (r.2.2.2.1 - h.2.2.1) ≤ R.cells ∧ slots + (r.2.2.2.2 - h.2.2.2) ≤ R.slots) :
    vx_Run p l e R s m args below meth c H locs cells slots (r.2.2.2.1 - h.2.2.1) (r.2.2.2.2 - h.2.2.2) (F0 m pc ls (st.map (mm_tr b sA))) (rest.map (mm_tr b sA)) (mm_Qr D b sA cid r (as.map (mm_tr b sA)).toArray) (mm_Xr D b sA cid r) (fun q => b ≤ q) := by
  obtain ⟨hx, hb, hml, hown, hts, htab, hR, hlocks, hG, hlst, hini, hbs⟩ := C
  obtain ⟨rfl, hn⟩ := hsh
  have f1 : (Jvm.Cond.initialized Mj.1.cls).before args s = true := mm_hw hts hok.2.2.1 rfl
  have f2 : (Jvm.Cond.methodLink (mm_cn M.2.2.2.2.1) i Mj.1).before args s = true := mm_hw hts hcal.1 rfl
  have f3 : (Jvm.Cond.static Mj.1).before args s = true := mm_hw hts hcal.2.1 rfl
  have hnl := hok.2.2.2.2.1
  exact vx_runSX (hh := Mj.2.2.2.2.2.2.1) (bytes := Mj.2.1) (maxL := Mj.2.2.1) (ret := Mj.2.2.2.1) (n := n) (As := as.map (mm_tr b sA)) ⟨hx, hb, hml, hown, hts⟩ hMet
    ⟨⟨rfl, rfl, by show d + 8 + 1 ≤ _; omega, by show 8 + (Mj.2.2.1 + 11) + (40 * d + 200) ≤ _; omega, mm_ws_good hok hts, List.mem_cons_self⟩, mm_cw hok hts, f1, hok.2.1, mm_params hcal.2.2, f2, f3⟩
    ⟨mm_blind, fun U hU hW => mm_pcU hG hbs hP hS hX hU hW⟩
    rfl (by rw [List.length_map]; exact hn) hsz (by simp [List.map_append, List.map_reverse]) (lv_room (by rw [mm_tr_sum]; exact hsum)) hd hrm
theorem mm_noX {M : mm_M} {d : Nat} {as : List Value} {h : mm_H} {r : mm_R} {v : Option Value} (hr : r.1 = .inl v) (hMet : mm_Met l D b sA cid L xs M d as h r) : Met l M.1 (mm_wsM M) (mm_rm d h r) (mm_Pc D b sA cid L xs as h) (mm_Qr D b sA cid r) (r.2.2.2.1 - h.2.2.1) (r.2.2.2.2 - h.2.2.2) (fun q => b ≤ q) := by
  refine MetFree.mono hMet (fun _ _ q => q) (fun _ _ _ _ _ _ => trivial) (fun a s o t _ q => ?_)
  rcases q with q | ⟨q, -, E, ce, L0, ⟨x, hx, -⟩, -⟩
  · exact q
  · rw [hr] at hx; cases hx
theorem mm_runI {M Mj : mm_M} {d ci n i pc : Nat} {as rest st : List Value} {h : mm_H} {r : mm_R} {v : Option Value} {ls : Array Slot} (C : mm_Cx l D b sA cid L xs p R s m args meth c M (d + 1)) (hMet : mm_Met l D b sA cid L xs Mj d as h r) (hrv : r.1 = .inl v) (hok : mm_mok Mj)
    (hcal : (Jvm.Cond.methodLink (mm_cn M.2.2.2.2.1) i Mj.1 ∈ lw_tbl ∨ (M.2.2.2.2.1, i, Mj.1) ∈ mm_nest) ∧ Jvm.Cond.instanceMethod Mj.1 ∈ lw_tbl ∧ Mj.1.name = "<init>" ∧ Mj.2.2.2.1 = none ∧ (Mj.2.2.2.2.2.2.1 = [] ∧ Mj.2.2.2.2.2.1 = true) ∧ (parseMethodDescriptor Mj.1.desc).map (fun d => d.parameters.length) = some n)
    (hsh : mm_shV ci n st h as rest) (hsum : (rest.map fun v => v.category).sum ≤ 8) (hd : decode M.2.1 pc = .ok (.invokespecial i, 3)) (hsz : ls.size = M.2.2.1) (hP : va_P D vwCl (mm_ws b sA cid h.1) H) (hS : va_S (fun q => b ≤ q) s.heap H locs) (hX : h.2.1 = true → H.size = b + h.1.length)
    (hrm : cells + (r.2.2.2.1 - h.2.2.1) ≤ R.cells ∧ slots + (r.2.2.2.2 - h.2.2.2) ≤ R.slots) :
    vx_Run p l e R s m args below meth c H locs cells slots (r.2.2.2.1 - h.2.2.1) (r.2.2.2.2 - h.2.2.2) (F0 m pc ls (st.map (mm_tr b sA))) (rest.map (mm_tr b sA)) (mm_Qr D b sA cid r (as.map (mm_tr b sA)).toArray) (mm_Xr D b sA cid r) (fun q => b ≤ q) := by
  obtain ⟨hx, hb, hml, hown, hts, htab, hR, hlocks, hG, hlst, hini, hbs⟩ := C
  obtain ⟨a, As, fs, rfl, rfl, hn, ea⟩ := hsh
  obtain ⟨hlk, hin, hnm, hret, ⟨hh0, -⟩, hpar⟩ := hcal
  have f1 : (Jvm.Cond.initialized Mj.1.cls).before args s = true := mm_hw hts hok.2.2.1 rfl
  have f3 : (Jvm.Cond.instanceMethod Mj.1).before args s = true := mm_hw hts hin rfl
  have hnl := hok.2.2.2.2.1
  have hcd : Jvm.Cond.code Mj.1 Mj.2.1 Mj.2.2.1 none ∈ mm_tbl := by
    have h1 := hok.2.2.2.2.2.1.1 hh0
    rw [hret] at h1
    exact List.mem_filter.mpr ⟨h1, rfl⟩
  have hcall := mm_noX hrv hMet
  refine fun T hT X => Or.inl ?_
  rcases hlk with hlk | hlk
  · have f2 : (Jvm.Cond.methodLink (mm_cn M.2.2.2.2.1) i Mj.1).before args s = true := mm_hw hts hlk rfl
    exact va_runI (bytes := Mj.2.1) (maxL := Mj.2.2.1) (n := n) (b := b + a) (As := As.map (mm_tr b sA)) ⟨hx, hb, hml, hown, hts⟩ hcall
      ⟨⟨rfl, rfl, by show d + 8 + 1 ≤ _; omega, by show 8 + (Mj.2.2.1 + 11) + (40 * d + 200) ≤ _; omega, mm_ws_good hok hts, List.mem_cons_of_mem _ hcd, hts _ hcd, f1, hok.2.1, mm_params hpar, f2⟩, hnm, f3⟩
      ⟨mm_blind, fun U hU hW => mm_pcU (as := .ref a :: As) hG hbs hP hS hX hU hW⟩
      rfl (by rw [List.length_map]; exact hn) hsz (by simp [List.map_append, List.map_reverse, mm_tr]) (lv_room (by rw [mm_tr_sum]; exact hsum)) hd hrm T hT X
  · have f2 : (Jvm.Cond.methodLinkNest (mm_cn M.2.2.2.2.1) i Mj.1 "SerialGate").before args s = true := by
      have h0 : va_Nw (.methodLinkNest (mm_cn M.2.2.2.2.1) i Mj.1 "SerialGate") s := hG.2.1.2.1 (M.2.2.2.2.1, i, Mj.1) hlk
      exact va_Nw.use (w := .methodLinkNest (mm_cn M.2.2.2.2.1) i Mj.1 "SerialGate") rfl h0
    exact va_runIN (host := "SerialGate") (bytes := Mj.2.1) (maxL := Mj.2.2.1) (n := n) (b := b + a) (As := As.map (mm_tr b sA)) ⟨hx, hb, hml, hown, hts⟩ hcall
      ⟨⟨⟨rfl, rfl, by show d + 8 + 1 ≤ _; omega, by show 8 + (Mj.2.2.1 + 11) + (40 * d + 200) ≤ _; omega, mm_ws_good hok hts, List.mem_cons_of_mem _ hcd⟩, hts _ hcd, f1, hok.2.1, mm_params hpar, f2⟩, hnm, f3⟩
      ⟨mm_blind, fun U hU hW => mm_pcU (as := .ref a :: As) hG hbs hP hS hX hU hW⟩
      rfl (by rw [List.length_map]; exact hn) hsz (by simp [List.map_append, List.map_reverse, mm_tr]) (lv_room (by rw [mm_tr_sum]; exact hsum)) hd hrm T hT X
/-- what the tables say of a method's handlers: each ends the method with its number -/
def mm_hok (M : mm_M) : Prop := ∀ q ∈ M.2.2.2.2.2.2.2.1, ∃ (k : Nat) (n : Int), ((∃ i : Nat, i < M.2.2.1 ∧ decode M.2.1 q.2.1 = .ok (.astore i, 2) ∧ k = 2) ∨ (∃ i : Fin 4, (i : Nat) < M.2.2.1 ∧ decode M.2.1 q.2.1 = .ok (.astore_n i, 1) ∧ k = 1)) ∧ decode M.2.1 (q.2.1 + k) = .ok (.iconst n, 1) ∧ n = q.2.2 ∧ decode M.2.1 (q.2.1 + k + 1) = .ok (.ireturn, 1) ∧ mm_rok M.2.2.2.1 (some (.int (Int32.ofInt q.2.2))) = true
/-- they catch what they name -/
def mm_cat (M : mm_M) : Prop := ∀ (pc x : Nat) (q : Nat × Nat × Int), M.2.2.2.2.2.2.2.1.find? (fun q => q.1 == x) = some q → ∀ (l : Launch) (D : va_G) (b : Nat) (sA : Nat → Nat) (cid : Nat → ClassId) (L : Nat) (xs : Nat → Int32) (p : Program) (e : Env) (R : Room) (s : State) (m : MethodId) (args : Array Value) (below : List Frame) (meth : Method) (c : Code) (d : Nat) (H : Heap) (locs : List Loc) (cells slots : Nat) (Q : State → Prop) (ls : Array Slot) (rest : List Value) (a : Addr) (ce : Cell) (i : Instr) (r1 : Int) (r2 : Nat),
  (pc, i, 3, r1, r2) ∈ M.2.2.2.2.2.2.2.2 → ((∃ j, i = .invokevirtual j) ∨ (∃ j, i = .invokespecial j) ∨ (∃ j, i = .invokestatic j)) → mm_Cx l D b sA cid L xs p R s m args meth c M d → H[a]? = some ce → ce.vm = .none → s.vm.findClass (mm_xn x) = some ce.cls →
  W p l e R s m args below meth c H locs cells slots Q (F0 m q.2.1 ls [.ref a]) → vx_W p l e R s m args below meth c H locs cells slots Q (F0 m pc ls rest) a
set_option maxHeartbeats 4000000 in
theorem mm_sound (HT : mm_Tab P X mc na) (HC : ∀ mi M, P mi = some M → mm_hok M ∧ mm_cat M ∧ (M.2.2.2.2.2.2.2.1.isEmpty = true → M.2.2.2.2.2.2.1 = [])) (hlst : l.stackTraces = false) : ∀ n, mm_Snd l D b sA cid L xs mc na X P n := by
  intro n
  induction n with
  | zero => intro d mi pc lv st h r M hev; simp [mm_ev] at hev
  | succ n ih =>
    intro d mi pc lv st h r M hev hM p e R s m args below meth c H locs cells slots ls Q n0 k0 C hl hP hS hX hc hk hRc hRk hE
    have hMM := hM
    obtain ⟨y, bytes, nL, ret, own, ini, hh, cat, code⟩ := M
    have hC := C
    obtain ⟨hx, hb, hml, hown, hts, htab, hR, hlocks, hG, hlst', hini, hbs⟩ := C
    dsimp only at hx hb hml hown hts htab hR hlocks hG hlst' hini hbs hl
    unfold mm_ev at hev
    rw [hM] at hev
    dsimp only at hev
    cases hf : code.find? (fun q => q.1 == pc) with
    | none => rw [hf] at hev; cases hev
    | some q =>
      obtain ⟨pc1, ins, len, r1, r2⟩ := q
      have hq : (pc1, ins, len, r1, r2) ∈ code := List.mem_of_find?_eq_some hf
      have hpc : pc1 = pc := by have := List.find?_some hf; simpa using this
      subst hpc
      obtain ⟨hd, hrow, hthr, hcall⟩ := HT mi _ hM _ hq
      dsimp only at hd hrow hthr hcall
      rw [hf] at hev
      dsimp only at hev
      cases hs : mm_step (mm_B L xs mc na) own nL ini ins len r1 r2 pc1 lv st h with
      | none => rw [hs] at hev; cases hev
      | some o =>
        rw [hs] at hev
        rcases o with ⟨pc', lv', st', h'⟩ | v | ⟨j, as, rest⟩ | t
        · dsimp only at hev
          have hm2 := mm_ev_mono _ _ _ _ _ _ _ _ _ _ _ hev
          exact mm_step_ok hx hb hml hown hts hR hG hini hbs hd hrow hs hl hP hS hX hc hk (Nat.le_trans hm2.1 hRc) (Nat.le_trans hm2.2 hRk) (fun ls' H' locs' cells' slots' hl' hP' hS' hX' hc' hk' => ih d mi pc' lv' st' h' r _ hev hMM p e R s m args below meth c H' locs' cells' slots' ls' Q n0 k0 hC hl' hP' hS' hX' hc' hk' hRc hRk hE)
        · dsimp only at hev
          split at hev
          · rename_i hrok
            cases hev
            obtain ⟨h1, h2, h3⟩ := mm_step_ret hs
            subst h1; subst h2
            refine hE.1 v rfl pc1 ls H locs cells slots hrok ?_ hP hS hc hk
            rcases h3 with ⟨rfl, rfl⟩ | ⟨rfl, x, rfl⟩
            · exact Or.inl ⟨rfl, hd⟩
            · exact Or.inr ⟨x, rfl, hd⟩
          · cases hev
        · dsimp only at hev
          cases d with
          | zero => cases hev
          | succ d =>
            dsimp only at hev
            obtain ⟨e1, e2, e3, hsum, hsh⟩ := mm_step_call hs
            subst e1; subst e2; subst e3
            cases hMj : P j with
            | none => rw [hMj] at hev; cases hev
            | some Mj =>
              obtain ⟨hcal, hok⟩ := hcall Mj hMj
              rw [hMj] at hev
              dsimp only at hev
              split at hev
              · rename_i hlen
                cases hej : mm_ev (mm_B L xs mc na) P X n d j 0 (lv_args 0 as) [] h with
                | none => rw [hej] at hev; cases hev
                | some rj =>
                  have hMet := mm_met_of ih hMj hok hlst hlen hej
                  have hmj := mm_ev_mono _ _ _ _ _ _ _ _ _ _ _ hej
                  have hxj := mm_ev_exact _ _ _ _ _ _ _ _ _ _ _ hej
                  rw [hej] at hev
                  refine mm_up (fun hup => ?_)
                  have hXs : h.2.1 = true → H.size = b + h.1.length := fun q => by have q1 := hX q; have q2 := mm_size hP (Nat.le_trans hbs hS.1); omega
                  obtain ⟨rr, h'⟩ := rj
                  have hfin : h'.2.2.1 ≤ r.2.2.2.1 ∧ h'.2.2.2 ≤ r.2.2.2.2 := by
                    rcases rr with v | x
                    · exact mm_ev_mono _ _ _ _ _ _ _ _ _ _ _ hev
                    · dsimp only at hev
                      split at hev
                      · cases hev
                      split at hev
                      · cases hev; exact ⟨Nat.le_refl _, Nat.le_refl _⟩
                      · split at hev
                        · cases hev; exact ⟨Nat.le_refl _, Nat.le_refl _⟩
                        · cases hev
                  dsimp only at hmj hxj
                  have hcc : cells + (h'.2.2.1 - h.2.2.1) + n0 = h'.2.2.1 := by omega
                  have hck : slots + (h'.2.2.2 - h.2.2.2) + k0 = h'.2.2.2 := by omega
                  have hrm : cells + (h'.2.2.1 - h.2.2.1) ≤ R.cells ∧ slots + (h'.2.2.2 - h.2.2.2) ≤ R.slots := by omega
                  have hrun : vx_Run p l e R s m args below meth c H locs cells slots (h'.2.2.1 - h.2.2.1) (h'.2.2.2 - h.2.2.2) (F0 m pc1 ls (st.map (mm_tr b sA))) (rest.map (mm_tr b sA)) (mm_Qr D b sA cid (rr, h') (as.map (mm_tr b sA)).toArray) (mm_Xr D b sA cid (rr, h')) (fun q => b ≤ q) := by
                    rcases hsh with ⟨i, rfl, hsh⟩ | ⟨i, rfl, hsh⟩ | ⟨i, rfl, hsh⟩
                    · exact mm_runV hC hMet hok (hcal rfl) hsh hsum hd hl.1 hP hS hXs hrm
                    · have hcal := hcal rfl
                      rcases rr with v | x
                      · exact mm_runI hC hMet rfl hok hcal hsh hsum hd hl.1 hP hS hXs hrm
                      · exfalso
                        dsimp only at hev
                        rw [if_pos hcal.2.2.2.2.1.2] at hev
                        cases hev
                    · exact mm_runS hC hMet hok (hcal rfl) hsh hsum hd hl.1 hP hS hXs hrm
                  refine mm_after hrun hS (fun v hv H1 locs1 hP1 hS1 => ?_) (fun x hv q ce H1 locs1 hP1 hS1 hce hcv hcl => ?_)
                  · dsimp only at hv
                    subst hv
                    dsimp only at hev
                    have h9 := ih (d + 1) mi (pc1 + 3) lv (v.toList ++ rest) h' r _ hev hMM p e R s m args below meth c H1 locs1 (cells + (h'.2.2.1 - h.2.2.1)) (slots + (h'.2.2.2 - h.2.2.2)) ls Q n0 k0 hC hl hP1 hS1 (fun q => by have q1 := hxj q; have q2 := hX q1.1; have q3 := q1.2; omega) hcc hck hRc hRk hE
                    have h8 : ((v.toList ++ rest).map (mm_tr b sA)) = (v.map (mm_tr b sA)).toList ++ rest.map (mm_tr b sA) := by cases v <;> rfl
                    rw [h8] at h9
                    exact h9
                  · dsimp only at hv
                    subst hv
                    dsimp only at hev
                    split at hev
                    · cases hev
                    split at hev
                    · rename_i qx qy qz hfind
                      cases hev
                      obtain ⟨hho, hca, -⟩ := HC mi _ hMM
                      refine hca pc1 x _ hfind l D b sA cid L xs p e R s m args below meth c (d + 1) H1 locs1 _ _ Q ls _ q ce _ _ _ hq (hsh.elim (fun ⟨i, h, _⟩ => Or.inl ⟨i, h⟩) (fun z => z.elim (fun ⟨i, h, _⟩ => Or.inr (Or.inl ⟨i, h⟩)) (fun ⟨i, h, _⟩ => Or.inr (Or.inr ⟨i, h⟩)))) hC hce hcv hcl ?_
                      obtain ⟨k, n9, hst9, hic, hn9, hret, hrok⟩ := hho _ (List.mem_of_find?_eq_some hfind)
                      have kend : ∀ ls' : Array Slot, W p l e R s m args below meth c H1 locs1 (cells + (h'.2.2.1 - h.2.2.1)) (slots + (h'.2.2.2 - h.2.2.2)) Q (F0 m (qy + k) ls' []) := fun ls' => by
                        refine lv_iconst hx hb hic rfl ?_
                        have h7 := hE.1 _ rfl (qy + k + 1) ls' H1 locs1 (cells + (h'.2.2.1 - h.2.2.1)) (slots + (h'.2.2.2 - h.2.2.2)) hrok (Or.inr ⟨_, rfl, hret⟩) hP1 hS1 hcc hck
                        rw [hn9]
                        exact h7
                      rcases hst9 with ⟨i9, hi9, hd9, rfl⟩ | ⟨i9, hi9, hd9, rfl⟩
                      · exact lv_astore hx hb hd9 hl hi9 rfl (fun ls' _ => kend ls')
                      · exact lv_astore_n hx hb hd9 rfl hl hi9 rfl (fun ls' _ => kend ls')
                    · split at hev
                      · rename_i hem
                        cases hev
                        exact hE.2.1 x rfl ((HC mi _ hMM).2.2 hem) pc1 ls _ H1 locs1 _ _ q ce hP1 hS1 hcc hck hce hcv hcl
                      · cases hev
              · cases hev
        · dsimp only at hev
          · cases hev
            obtain ⟨i, rfl, rfl, rfl, hsum⟩ := mm_step_thr hs
            have hth := hthr i rfl rfl
            exact hE.2.2 r2 rfl hth.2 pc1 ls (st.map (mm_tr b sA)) H locs cells slots hth.1 hl.1 (by rw [mm_tr_sum]; exact hsum) hP hS (by show _ = h.2.2.1 + 1; omega) (by show _ = h.2.2.2 + 6; omega)
end MMU
