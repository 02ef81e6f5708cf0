/-! THE LAW'S LOOP: what its cases need -/
theorem H372 : mm_hd 372 = some (12, 7, (some .boolean), false, []) := rfl
def lvB (i : Nat) : mm_L := [(4, .int (nI i)), (3, .ref 524), (2, .ref 512), (1, .ref 0), (0, .retAddr 1000000)]
def CN (s s' : mS) : Prop := s'.2.2.2.1 ≤ s.2.2.2.1 + 1 ∧ s'.2.2.2.2 ≤ s.2.2.2.2 + 6
theorem CN_e {s s' : mS} (h : s'.2.2 = s.2.2) : CN s s' := by unfold CN; rw [h]; exact ⟨by omega, by omega⟩
section LWC
variable {L : Nat} {xs : Nat → Int32} {s : mS} {r : mQ} {lv : mm_L} {st : List Value}
/-- an int of the script -/
theorem LD {pc i j : Nat} {n : Int} (h0 : mm_cd 372 pc = some (.aload_n 0, 1, 0, 0)) (h1 : mm_cd 372 (pc + 1) = some (.iload 4, 2, 0, 0)) (h2 : mm_cd 372 (pc + 3) = some (.iconst n, 1, 0, 0)) (h3 : mm_cd 372 (pc + 4) = some (.iadd, 1, 0, 0)) (h4 : mm_cd 372 (pc + 5) = some (.iaload, 1, 0, 0)) (hn : Int32.ofInt n = nI j) (l0 : mm_look lv 0 = some (.retAddr 1000000)) (l4 : mm_look lv 4 = some (.int (nI i))) (hL : L ≤ 3072) (hi : i + j < L) (k : Ev L xs 60 372 (pc + 6) lv (.int (xs (i + j)) :: st) (hp s) (hr r)) : Ev L xs 60 372 pc lv st (hp s) (hr r) := by
  refine Ev.aload_nT H372 h0 l0 ?_
  refine Ev.iload H372 h1 l4 ?_
  refine Ev.iconst H372 h2 hn ?_
  refine Ev.iadd H372 h3 ?_
  rw [nI_add]
  refine Rd.sld (c := some r) (i := 0) (k := 0) H372 h4 (gA_ok hi (by omega)) (fun _ => ?_)
  rw [nI_clp (by omega)]
  exact k
/-- a boolean out of an int of the script -/
theorem LZ {pc : Nat} {x : Int32} (h0 : mm_cd 372 pc = some (.ifCond .eq 7, 3, 0, 0)) (h1 : mm_cd 372 (pc + 3) = some (.iconst 1, 1, 0, 0)) (h2 : mm_cd 372 (pc + 4) = some (.goto 4, 3, 0, 0)) (h3 : mm_cd 372 (pc + 7) = some (.iconst 0, 1, 0, 0)) (t0 : mm_tgt pc 7 = some (pc + 7)) (t1 : mm_tgt (pc + 4) 4 = some (pc + 8)) (k : Ev L xs 60 372 (pc + 8) lv (.int (if x = 0 then nI 0 else nI 1) :: st) (hp s) (hr r)) : Ev L xs 60 372 pc lv (.int x :: st) (hp s) (hr r) := by
  refine Ev.if_eq H372 h0 t0 (fun e => ?_) (fun e => ?_)
  · rw [if_pos e] at k
    exact Ev.iconst H372 h3 (show Int32.ofInt 0 = nI 0 by decide) k
  · rw [if_neg e] at k
    exact Ev.iconst H372 h1 (show Int32.ofInt 1 = nI 1 by decide) (Ev.goto H372 h2 t1 k)
theorem CV {pc i j ci n dj a : Nat} {tm : List (Option Nat)} {As : List Value} {J : mm_Hd} {v : Int32} {s1 : mS} (hi : mm_cd 372 pc = some (.invokevirtual i, 3, 0, j)) (hj : mm_cal j ci n J) (o : mm_ob a ci tm) (hn : As.length = n) (hs : (st.map fun v => v.category).sum ≤ 8) (hl : (lg_sl (.ref a :: As)).length ≤ J.2.1) (hd : dj < 60) (hc : ∀ e, dj ≤ e → Cl L xs e j (.ref a :: As) (hp s) (hr (.inl (some v), s1))) (k : Ev L xs 60 372 (pc + 3) lv (.int v :: st) (hp s1) (hr r)) : Ev L xs 60 372 pc lv (As.reverse ++ .ref a :: st) (hp s) (hr r) := Ev.cl H372 hi (mm_stepV hj o hn hs) hj.2.2 hl hd hc k
theorem CVu {pc i j ci n dj a : Nat} {tm : List (Option Nat)} {As : List Value} {J : mm_Hd} {s1 : mS} (hi : mm_cd 372 pc = some (.invokevirtual i, 3, 0, j)) (hj : mm_cal j ci n J) (o : mm_ob a ci tm) (hn : As.length = n) (hs : (st.map fun v => v.category).sum ≤ 8) (hl : (lg_sl (.ref a :: As)).length ≤ J.2.1) (hd : dj < 60) (hc : ∀ e, dj ≤ e → Cl L xs e j (.ref a :: As) (hp s) (hr (.inl none, s1))) (k : Ev L xs 60 372 (pc + 3) lv st (hp s1) (hr r)) : Ev L xs 60 372 pc lv (As.reverse ++ .ref a :: st) (hp s) (hr r) := Ev.cl H372 hi (mm_stepV hj o hn hs) hj.2.2 hl hd hc k
theorem CSt {pc i j ci n dj : Nat} {As : List Value} {J : mm_Hd} {v : Int32} {s1 : mS} (hi : mm_cd 372 pc = some (.invokestatic i, 3, 0, j)) (hj : mm_cal j ci n J) (hn : As.length = n) (hs : (st.map fun v => v.category).sum ≤ 8) (hl : (lg_sl As).length ≤ J.2.1) (hd : dj < 60) (hc : ∀ e, dj ≤ e → Cl L xs e j As (hp s) (hr (.inl (some v), s1))) (k : Ev L xs 60 372 (pc + 3) lv (.int v :: st) (hp s1) (hr r)) : Ev L xs 60 372 pc lv (As.reverse ++ st) (hp s) (hr r) := Ev.cl H372 hi (mm_stepS hj hn hs) hj.2.2 hl hd hc k
theorem cmp_s (x : Int64) : lg_cmp x x = 0 := by unfold lg_cmp; simp
/-- both told the same: an int -/
theorem TLI {pc i : Nat} {off : Int} {x y : Int32} (h0 : mm_cd 372 pc = some (.aload_n 2, 1, 0, 0)) (h1 : mm_cd 372 (pc + 1) = some (.invokevirtual 130, 3, 0, 187)) (h2 : mm_cd 372 (pc + 4) = some (.iload 5, 2, 0, 0)) (h3 : mm_cd 372 (pc + 6) = some (.if_icmp .eq 5, 3, 0, 0)) (h4 : mm_cd 372 (pc + 11) = some (.iload 5, 2, 0, 0)) (h5 : mm_cd 372 (pc + 13) = some (.ifCond .ne 15, 3, 0, 0)) (h6 : mm_cd 372 (pc + 16) = some (.aload_n 3, 1, 0, 0)) (h7 : mm_cd 372 (pc + 17) = some (.iconst 0, 1, 0, 0)) (h8 : mm_cd 372 (pc + 18) = some (.laload, 1, 0, 0)) (h9 : mm_cd 372 (pc + 19) = some (.iload 6, 2, 0, 0)) (h10 : mm_cd 372 (pc + 21) = some (.i2l, 1, 0, 0)) (h11 : mm_cd 372 (pc + 22) = some (.lcmp, 1, 0, 0)) (h12 : mm_cd 372 (pc + 23) = some (.ifCond .eq 5, 3, 0, 0)) (h13 : mm_cd 372 (pc + 28) = some (.goto off, 3, 0, 0)) (t0 : mm_tgt (pc + 6) 5 = some (pc + 11)) (t1 : mm_tgt (pc + 13) 15 = some (pc + 28)) (t2 : mm_tgt (pc + 23) 5 = some (pc + 28)) (t3 : mm_tgt (pc + 28) off = some 2382) (hc : s.1 512 0 = x) (hv : x = 0 → s.2.1 524 0 = y.toInt64) (k : Ev L xs 60 372 2382 (lvB i) [] (hp s) (hr r)) : Ev L xs 60 372 pc ((6, .int y) :: (5, .int x) :: lvB i) [] (hp s) (hr r) := by
  have kE : Ev L xs 60 372 (pc + 28) ((6, .int y) :: (5, .int x) :: lvB i) [] (hp s) (hr r) := Ev.goto H372 h13 t3 (Ev.sub (l := lvB i) rfl rfl (mm_sub_c rfl (mm_sub_c rfl (mm_sub_c rfl (mm_sub_c rfl (mm_sub_c rfl mm_sub_n))))) k)
  refine Ev.aload_n H372 h0 rfl ?_
  refine CV (As := []) h1 cal187 ob11 rfl (Nat.le_of_ble_eq_true rfl) (Nat.le_of_ble_eq_true rfl) (by decide) (c187 (show q187 s = some (.inl (some x), s) by unfold q187; rw [hc]; rfl)) ?_
  refine Ev.iload H372 h2 rfl ?_
  refine Ev.ic_eq H372 h3 t0 (fun _ => ?_) (fun e => absurd rfl e)
  refine Ev.iload H372 h4 rfl ?_
  refine Ev.if_ne H372 h5 t1 (fun _ => kE) (fun e => ?_)
  have ex : x = 0 := Classical.not_not.mp e
  refine Ev.aload_n H372 h6 rfl ?_
  refine Ev.iconst H372 h7 (show Int32.ofInt 0 = nI 0 by decide) ?_
  refine Rd.laload (c := some r) H372 h8 ar_524 (gA_ok (by omega) (by omega)) (fun _ => ?_)
  refine Ev.iload H372 h9 rfl ?_
  refine Ev.i2l H372 h10 ?_
  refine Ev.lcmp H372 h11 ?_
  have e0 : s.2.1 524 (nI 0).toNatClampNeg = y.toInt64 := by rw [nI_clp (by omega)]; exact hv ex
  rw [e0, cmp_s]
  exact Ev.if_eq H372 h12 t2 (fun _ => kE) (fun e => absurd rfl e)
/-- both told the same: a boolean -/
theorem TLZ {pc i : Nat} {off : Int} {x y : Int32} (h0 : mm_cd 372 pc = some (.aload_n 2, 1, 0, 0)) (h1 : mm_cd 372 (pc + 1) = some (.invokevirtual 130, 3, 0, 187)) (h2 : mm_cd 372 (pc + 4) = some (.iload 5, 2, 0, 0)) (h3 : mm_cd 372 (pc + 6) = some (.if_icmp .eq 5, 3, 0, 0)) (h4 : mm_cd 372 (pc + 11) = some (.iload 5, 2, 0, 0)) (h5 : mm_cd 372 (pc + 13) = some (.ifCond .ne 22, 3, 0, 0)) (h6 : mm_cd 372 (pc + 16) = some (.aload_n 3, 1, 0, 0)) (h7 : mm_cd 372 (pc + 17) = some (.iconst 0, 1, 0, 0)) (h8 : mm_cd 372 (pc + 18) = some (.laload, 1, 0, 0)) (h9 : mm_cd 372 (pc + 19) = some (.iload 6, 2, 0, 0)) (g0 : mm_cd 372 (pc + 21) = some (.ifCond .eq 7, 3, 0, 0)) (g1 : mm_cd 372 (pc + 24) = some (.lconst 1, 1, 0, 0)) (g2 : mm_cd 372 (pc + 25) = some (.goto 4, 3, 0, 0)) (g3 : mm_cd 372 (pc + 28) = some (.lconst 0, 1, 0, 0)) (h11 : mm_cd 372 (pc + 29) = some (.lcmp, 1, 0, 0)) (h12 : mm_cd 372 (pc + 30) = some (.ifCond .eq 5, 3, 0, 0)) (h13 : mm_cd 372 (pc + 35) = some (.goto off, 3, 0, 0)) (t0 : mm_tgt (pc + 6) 5 = some (pc + 11)) (t1 : mm_tgt (pc + 13) 22 = some (pc + 35)) (t4 : mm_tgt (pc + 21) 7 = some (pc + 28)) (t5 : mm_tgt (pc + 25) 4 = some (pc + 29)) (t2 : mm_tgt (pc + 30) 5 = some (pc + 35)) (t3 : mm_tgt (pc + 35) off = some 2382) (hc : s.1 512 0 = x) (hv : x = 0 → s.2.1 524 0 = if y = 0 then 0 else 1) (k : Ev L xs 60 372 2382 (lvB i) [] (hp s) (hr r)) : Ev L xs 60 372 pc ((6, .int y) :: (5, .int x) :: lvB i) [] (hp s) (hr r) := by
  have kE : Ev L xs 60 372 (pc + 35) ((6, .int y) :: (5, .int x) :: lvB i) [] (hp s) (hr r) := Ev.goto H372 h13 t3 (Ev.sub (l := lvB i) rfl rfl (mm_sub_c rfl (mm_sub_c rfl (mm_sub_c rfl (mm_sub_c rfl (mm_sub_c rfl mm_sub_n))))) k)
  refine Ev.aload_n H372 h0 rfl ?_
  refine CV (As := []) h1 cal187 ob11 rfl (Nat.le_of_ble_eq_true rfl) (Nat.le_of_ble_eq_true rfl) (by decide) (c187 (show q187 s = some (.inl (some x), s) by unfold q187; rw [hc]; rfl)) ?_
  refine Ev.iload H372 h2 rfl ?_
  refine Ev.ic_eq H372 h3 t0 (fun _ => ?_) (fun e => absurd rfl e)
  refine Ev.iload H372 h4 rfl ?_
  refine Ev.if_ne H372 h5 t1 (fun _ => kE) (fun e => ?_)
  have ex : x = 0 := Classical.not_not.mp e
  refine Ev.aload_n H372 h6 rfl ?_
  refine Ev.iconst H372 h7 (show Int32.ofInt 0 = nI 0 by decide) ?_
  refine Rd.laload (c := some r) H372 h8 ar_524 (gA_ok (by omega) (by omega)) (fun _ => ?_)
  refine Ev.iload H372 h9 rfl ?_
  have e0 : s.2.1 524 (nI 0).toNatClampNeg = if y = 0 then 0 else 1 := by rw [nI_clp (by omega)]; exact hv ex
  rw [e0]
  refine Ev.if_eq H372 g0 t4 (fun e => ?_) (fun e => ?_)
  · rw [if_pos e]
    refine Ev.lconst H372 g3 (show Int64.ofNat ((0 : Fin 2) : Nat) = 0 by decide) ?_
    refine Ev.lcmp H372 h11 ?_
    rw [cmp_s]
    exact Ev.if_eq H372 h12 t2 (fun _ => kE) (fun e => absurd rfl e)
  · rw [if_neg e]
    refine Ev.lconst H372 g1 (show Int64.ofNat ((1 : Fin 2) : Nat) = 1 by decide) ?_
    refine Ev.goto H372 g2 t5 ?_
    refine Ev.lcmp H372 h11 ?_
    rw [cmp_s]
    exact Ev.if_eq H372 h12 t2 (fun _ => kE) (fun e => absurd rfl e)
end LWC
/-- what a case leaves: it comes to the end of the switch, with both sides alike -/
def KQ (L : Nat) (xs : Nat → Int32) (i B pc : Nat) (s : mS) : Prop := ∃ s', G (B + 60) s' ∧ CN s s' ∧ ∀ r : mQ, Ev L xs 60 372 2382 (lvB i) [] (hp s') (hr r) → Ev L xs 60 372 pc (lvB i) [] (hp s) (hr r)
theorem oI_3 : ∀ c, c ≤ 3 → Int32.ofInt ((c : Nat) : Int) = nI c := by decide
theorem bC_x {cat : List (Nat × Nat × Int)} {x u w c : Nat} {s1 : mS} {k : Int32 → mS → Option mQ} (h : cat.find? (fun q => q.1 == x) = some (u, w, ((c : Nat) : Int))) (hc : c ≤ 3) : bC cat (rx x s1) k = some (.inl (some (nI c)), sX s1) := by
  unfold bC rx
  dsimp only
  rw [h]
  dsimp only
  rw [oI_3 c hc]
theorem sL_1 {s : mS} {a k : Nat} {x : Int64} : (sL s a k x).1 = s.1 := Eq.trans rfl rfl
theorem sLz_at {s : mS} {a k : Nat} {x : Int64} : (sL s a k x).2.1 a k = x := by
  unfold sL
  show (if a = a then vp_updL (s.2.1 a) k x else s.2.1 a) k = x
  rw [if_pos rfl]
  exact if_pos rfl
theorem sL_22 {s : mS} {a k : Nat} {x : Int64} : (sL s a k x).2.2 = s.2.2 := Eq.trans rfl rfl
theorem G_up {B B' : Nat} {s : mS} (h : G B s) (hB : B ≤ B') : G B' s := by
  obtain ⟨⟨w1, w2, T, hT, w3⟩, hI, ⟨r, x, r1, r2, r3, r4, r5, r6⟩, hT5, hF, hU0, hU1, hU2⟩ := h
  refine ⟨⟨w1, w2, T, by omega, w3⟩, ?_, ⟨r, x, r1, r2, r3, r4, r5, fun d hd => ?_⟩, hT5, hF, IUH_mo hU0 hB, fun q => IUH_mo (hU1 q) hB, fun r hr e p hp => IUH_mo (hU2 r hr e p hp) hB⟩
  · rcases hI with q | ⟨i1, i2, i3, i4, T', hT', i5⟩
    · exact Or.inl q
    · exact Or.inr ⟨i1, i2, i3, i4, T', by omega, i5⟩
  · obtain ⟨q1, q2, T', hT', q3⟩ := r6 d hd
    exact ⟨q1, q2, T', by omega, q3⟩
