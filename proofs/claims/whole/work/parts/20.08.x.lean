/-! THE STRINGS OWN METHODS: length and charAt of a text, by contract -/
abbrev mm_yc : MethodName := ⟨"java/lang/String", "coder", "()B"⟩
abbrev mm_ycc : ByteArray := prog_24_method_152_code
theorem mm_yc_w : Jvm.Cond.code mm_yc mm_ycc 1 (some .byte) ∈ mm_tbl := List.mem_filter.mpr ⟨List.mem_of_getElem? (i := 827) (by decide +kernel), rfl⟩
theorem mm_yc_0 : decode mm_ycc 0 = .ok (.getstatic 38, 3) := by decide +kernel
theorem mm_yc_3 : decode mm_ycc 3 = .ok (.ifCond .eq 10, 3) := by decide +kernel
theorem mm_yc_6 : decode mm_ycc 6 = .ok (.aload_n 0, 1) := by decide +kernel
theorem mm_yc_7 : decode mm_ycc 7 = .ok (.getfield 15, 3) := by decide +kernel
theorem mm_yc_10 : decode mm_ycc 10 = .ok (.goto 4, 3) := by decide +kernel
theorem mm_yc_13 : decode mm_ycc 13 = .ok (.iconst 1, 1) := by decide +kernel
theorem mm_yc_14 : decode mm_ycc 14 = .ok (.ireturn, 1) := by decide +kernel
abbrev mm_yi : MethodName := ⟨"java/lang/String", "isLatin1", "()Z"⟩
abbrev mm_yic : ByteArray := prog_24_method_154_code
theorem mm_yi_w : Jvm.Cond.code mm_yi mm_yic 1 (some .boolean) ∈ mm_tbl := List.mem_filter.mpr ⟨List.mem_of_getElem? (i := 837) (by decide +kernel), rfl⟩
theorem mm_yi_0 : decode mm_yic 0 = .ok (.getstatic 38, 3) := by decide +kernel
theorem mm_yi_3 : decode mm_yic 3 = .ok (.ifCond .eq 14, 3) := by decide +kernel
theorem mm_yi_6 : decode mm_yic 6 = .ok (.aload_n 0, 1) := by decide +kernel
theorem mm_yi_7 : decode mm_yic 7 = .ok (.getfield 15, 3) := by decide +kernel
theorem mm_yi_10 : decode mm_yic 10 = .ok (.ifCond .ne 7, 3) := by decide +kernel
theorem mm_yi_13 : decode mm_yic 13 = .ok (.iconst 1, 1) := by decide +kernel
theorem mm_yi_14 : decode mm_yic 14 = .ok (.goto 4, 3) := by decide +kernel
theorem mm_yi_17 : decode mm_yic 17 = .ok (.iconst 0, 1) := by decide +kernel
theorem mm_yi_18 : decode mm_yic 18 = .ok (.ireturn, 1) := by decide +kernel
abbrev mm_yl : MethodName := ⟨"java/lang/String", "length", "()I"⟩
abbrev mm_ylc : ByteArray := prog_24_method_54_code
theorem mm_yl_w : Jvm.Cond.code mm_yl mm_ylc 1 (some .int) ∈ mm_tbl := List.mem_filter.mpr ⟨List.mem_of_getElem? (i := 823) (by decide +kernel), rfl⟩
theorem mm_yl_0 : decode mm_ylc 0 = .ok (.aload_n 0, 1) := by decide +kernel
theorem mm_yl_1 : decode mm_ylc 1 = .ok (.getfield 9, 3) := by decide +kernel
theorem mm_yl_4 : decode mm_ylc 4 = .ok (.arraylength, 1) := by decide +kernel
theorem mm_yl_5 : decode mm_ylc 5 = .ok (.aload_n 0, 1) := by decide +kernel
theorem mm_yl_6 : decode mm_ylc 6 = .ok (.invokevirtual 335, 3) := by decide +kernel
theorem mm_yl_9 : decode mm_ylc 9 = .ok (.ishr, 1) := by decide +kernel
theorem mm_yl_10 : decode mm_ylc 10 = .ok (.ireturn, 1) := by decide +kernel
abbrev mm_ya : MethodName := ⟨"java/lang/String", "charAt", "(I)C"⟩
abbrev mm_yac : ByteArray := prog_24_method_56_code
theorem mm_ya_w : Jvm.Cond.code mm_ya mm_yac 2 (some .char) ∈ mm_tbl := List.mem_filter.mpr ⟨List.mem_of_getElem? (i := 833) (by decide +kernel), rfl⟩
theorem mm_ya_0 : decode mm_yac 0 = .ok (.aload_n 0, 1) := by decide +kernel
theorem mm_ya_1 : decode mm_yac 1 = .ok (.invokevirtual 492, 3) := by decide +kernel
theorem mm_ya_4 : decode mm_yac 4 = .ok (.ifCond .eq 12, 3) := by decide +kernel
theorem mm_ya_7 : decode mm_yac 7 = .ok (.aload_n 0, 1) := by decide +kernel
theorem mm_ya_8 : decode mm_yac 8 = .ok (.getfield 9, 3) := by decide +kernel
theorem mm_ya_11 : decode mm_yac 11 = .ok (.iload_n 1, 1) := by decide +kernel
theorem mm_ya_12 : decode mm_yac 12 = .ok (.invokestatic 495, 3) := by decide +kernel
theorem mm_ya_15 : decode mm_yac 15 = .ok (.ireturn, 1) := by decide +kernel
theorem mm_ya_16 : decode mm_yac 16 = .ok (.aload_n 0, 1) := by decide +kernel
theorem mm_ya_17 : decode mm_yac 17 = .ok (.getfield 9, 3) := by decide +kernel
theorem mm_ya_20 : decode mm_yac 20 = .ok (.iload_n 1, 1) := by decide +kernel
theorem mm_ya_21 : decode mm_yac 21 = .ok (.invokestatic 498, 3) := by decide +kernel
theorem mm_ya_24 : decode mm_yac 24 = .ok (.ireturn, 1) := by decide +kernel
abbrev mm_yk : MethodName := ⟨"java/lang/String", "checkIndex", "(II)V"⟩
abbrev mm_ykc : ByteArray := prog_24_method_155_code
theorem mm_yk_w : Jvm.Cond.code mm_yk mm_ykc 2 none ∈ mm_tbl := List.mem_filter.mpr ⟨List.mem_of_getElem? (i := 843) (by decide +kernel), rfl⟩
theorem mm_yk_0 : decode mm_ykc 0 = .ok (.iload_n 0, 1) := by decide +kernel
theorem mm_yk_1 : decode mm_ykc 1 = .ok (.iload_n 1, 1) := by decide +kernel
theorem mm_yk_2 : decode mm_ykc 2 = .ok (.getstatic 1053, 3) := by decide +kernel
theorem mm_yk_5 : decode mm_ykc 5 = .ok (.invokestatic 1059, 3) := by decide +kernel
theorem mm_yk_8 : decode mm_ykc 8 = .ok (.pop, 1) := by decide +kernel
theorem mm_yk_9 : decode mm_ykc 9 = .ok (.return_, 1) := by decide +kernel
abbrev mm_y1 : MethodName := ⟨"java/lang/StringLatin1", "charAt", "([BI)C"⟩
abbrev mm_y1c : ByteArray := prog_25_method_2_code
theorem mm_y1_w : Jvm.Cond.code mm_y1 mm_y1c 2 (some .char) ∈ mm_tbl := List.mem_filter.mpr ⟨List.mem_of_getElem? (i := 840) (by decide +kernel), rfl⟩
theorem mm_y1_0 : decode mm_y1c 0 = .ok (.iload_n 1, 1) := by decide +kernel
theorem mm_y1_1 : decode mm_y1c 1 = .ok (.aload_n 0, 1) := by decide +kernel
theorem mm_y1_2 : decode mm_y1c 2 = .ok (.arraylength, 1) := by decide +kernel
theorem mm_y1_3 : decode mm_y1c 3 = .ok (.invokestatic 9, 3) := by decide +kernel
theorem mm_y1_6 : decode mm_y1c 6 = .ok (.aload_n 0, 1) := by decide +kernel
theorem mm_y1_7 : decode mm_y1c 7 = .ok (.iload_n 1, 1) := by decide +kernel
theorem mm_y1_8 : decode mm_y1c 8 = .ok (.baload, 1) := by decide +kernel
theorem mm_y1_9 : decode mm_y1c 9 = .ok (.sipush 255, 3) := by decide +kernel
theorem mm_y1_12 : decode mm_y1c 12 = .ok (.iand, 1) := by decide +kernel
theorem mm_y1_13 : decode mm_y1c 13 = .ok (.i2c, 1) := by decide +kernel
theorem mm_y1_14 : decode mm_y1c 14 = .ok (.ireturn, 1) := by decide +kernel
abbrev mm_yp : MethodName := ⟨"jdk/internal/util/Preconditions", "checkIndex", "(IILjava/util/function/BiFunction;)I"⟩
abbrev mm_ypc : ByteArray := prog_33_method_11_code
theorem mm_yp_w : Jvm.Cond.code mm_yp mm_ypc 3 (some .int) ∈ mm_tbl := List.mem_filter.mpr ⟨List.mem_of_getElem? (i := 848) (by decide +kernel), rfl⟩
theorem mm_yp_0 : decode mm_ypc 0 = .ok (.iload_n 0, 1) := by decide +kernel
theorem mm_yp_1 : decode mm_ypc 1 = .ok (.ifCond .lt 8, 3) := by decide +kernel
theorem mm_yp_4 : decode mm_ypc 4 = .ok (.iload_n 0, 1) := by decide +kernel
theorem mm_yp_5 : decode mm_ypc 5 = .ok (.iload_n 1, 1) := by decide +kernel
theorem mm_yp_6 : decode mm_ypc 6 = .ok (.if_icmp .lt 10, 3) := by decide +kernel
theorem mm_yp_9 : decode mm_ypc 9 = .ok (.aload_n 2, 1) := by decide +kernel
theorem mm_yp_10 : decode mm_ypc 10 = .ok (.iload_n 0, 1) := by decide +kernel
theorem mm_yp_11 : decode mm_ypc 11 = .ok (.iload_n 1, 1) := by decide +kernel
theorem mm_yp_12 : decode mm_ypc 12 = .ok (.invokestatic 95, 3) := by decide +kernel
theorem mm_yp_15 : decode mm_ypc 15 = .ok (.athrow, 1) := by decide +kernel
theorem mm_yp_16 : decode mm_ypc 16 = .ok (.iload_n 0, 1) := by decide +kernel
theorem mm_yp_17 : decode mm_ypc 17 = .ok (.ireturn, 1) := by decide +kernel
theorem mm_f_cs : Jvm.Cond.fieldLink "java/lang/String" 38 "java/lang/String" "COMPACT_STRINGS" "Z" ∈ mm_tbl := List.mem_filter.mpr ⟨List.mem_of_getElem? (i := 828) (by decide +kernel), rfl⟩
theorem mm_f_cd : Jvm.Cond.fieldLink "java/lang/String" 15 "java/lang/String" "coder" "B" ∈ mm_tbl := List.mem_filter.mpr ⟨List.mem_of_getElem? (i := 2383) (by decide +kernel), rfl⟩
theorem mm_f_v : Jvm.Cond.fieldLink "java/lang/String" 9 "java/lang/String" "value" "[B" ∈ mm_tbl := List.mem_filter.mpr ⟨List.mem_of_getElem? (i := 2382) (by decide +kernel), rfl⟩
theorem mm_f_si : Jvm.Cond.fieldLink "java/lang/String" 1053 "jdk/internal/util/Preconditions" "SIOOBE_FORMATTER" "Ljava/util/function/BiFunction;" ∈ mm_tbl := List.mem_filter.mpr ⟨List.mem_of_getElem? (i := 844) (by decide +kernel), rfl⟩
theorem mm_m_lc : Jvm.Cond.methodLink "java/lang/String" 335 mm_yc ∈ mm_tbl := List.mem_filter.mpr ⟨List.mem_of_getElem? (i := 824) (by decide +kernel), rfl⟩
theorem mm_m_al : Jvm.Cond.methodLink "java/lang/String" 492 mm_yi ∈ mm_tbl := List.mem_filter.mpr ⟨List.mem_of_getElem? (i := 834) (by decide +kernel), rfl⟩
theorem mm_m_a1 : Jvm.Cond.methodLink "java/lang/String" 495 mm_y1 ∈ mm_tbl := List.mem_filter.mpr ⟨List.mem_of_getElem? (i := 838) (by decide +kernel), rfl⟩
theorem mm_m_1k : Jvm.Cond.methodLink "java/lang/StringLatin1" 9 mm_yk ∈ mm_tbl := List.mem_filter.mpr ⟨List.mem_of_getElem? (i := 841) (by decide +kernel), rfl⟩
theorem mm_m_kp : Jvm.Cond.methodLink "java/lang/String" 1059 mm_yp ∈ mm_tbl := List.mem_filter.mpr ⟨List.mem_of_getElem? (i := 846) (by decide +kernel), rfl⟩
theorem mm_yc_i : Jvm.Cond.instanceMethod mm_yc ∈ mm_tbl ∧ Jvm.Cond.selects "java/lang/String" mm_yc mm_yc ∈ mm_tbl := ⟨List.mem_filter.mpr ⟨List.mem_of_getElem? (i := 825) (by decide +kernel), rfl⟩, List.mem_filter.mpr ⟨List.mem_of_getElem? (i := 826) (by decide +kernel), rfl⟩⟩
theorem mm_yi_i : Jvm.Cond.instanceMethod mm_yi ∈ mm_tbl ∧ Jvm.Cond.selects "java/lang/String" mm_yi mm_yi ∈ mm_tbl := ⟨List.mem_filter.mpr ⟨List.mem_of_getElem? (i := 835) (by decide +kernel), rfl⟩, List.mem_filter.mpr ⟨List.mem_of_getElem? (i := 836) (by decide +kernel), rfl⟩⟩
theorem mm_yl_i : Jvm.Cond.instanceMethod mm_yl ∈ mm_tbl ∧ Jvm.Cond.selects "java/lang/String" mm_yl mm_yl ∈ mm_tbl := ⟨List.mem_filter.mpr ⟨List.mem_of_getElem? (i := 821) (by decide +kernel), rfl⟩, List.mem_filter.mpr ⟨List.mem_of_getElem? (i := 822) (by decide +kernel), rfl⟩⟩
theorem mm_ya_i : Jvm.Cond.instanceMethod mm_ya ∈ mm_tbl ∧ Jvm.Cond.selects "java/lang/String" mm_ya mm_ya ∈ mm_tbl := ⟨List.mem_filter.mpr ⟨List.mem_of_getElem? (i := 831) (by decide +kernel), rfl⟩, List.mem_filter.mpr ⟨List.mem_of_getElem? (i := 832) (by decide +kernel), rfl⟩⟩
theorem mm_yk_s : Jvm.Cond.static mm_yk ∈ mm_tbl := List.mem_filter.mpr ⟨List.mem_of_getElem? (i := 842) (by decide +kernel), rfl⟩
theorem mm_y1_s : Jvm.Cond.static mm_y1 ∈ mm_tbl := List.mem_filter.mpr ⟨List.mem_of_getElem? (i := 839) (by decide +kernel), rfl⟩
theorem mm_yp_s : Jvm.Cond.static mm_yp ∈ mm_tbl := List.mem_filter.mpr ⟨List.mem_of_getElem? (i := 847) (by decide +kernel), rfl⟩
theorem mm_n_S : Jvm.Cond.initialized "java/lang/String" ∈ mm_tbl := List.mem_filter.mpr ⟨List.mem_of_getElem? (i := 155) (by decide +kernel), rfl⟩
theorem mm_n_L : Jvm.Cond.initialized "java/lang/StringLatin1" ∈ mm_tbl := List.mem_filter.mpr ⟨List.mem_of_getElem? (i := 156) (by decide +kernel), rfl⟩
theorem mm_n_P : Jvm.Cond.initialized "jdk/internal/util/Preconditions" ∈ mm_tbl := List.mem_filter.mpr ⟨List.mem_of_getElem? (i := 157) (by decide +kernel), rfl⟩
theorem mm_txt_ok : ∀ k, k < 36 → ∀ j, j < (mm_txt k).length → (((mm_txt k).getD j 0 &&& 255).toUInt32 % 65536).toInt32 = (mm_txt k).getD j 0 ∧ narrow .char (.int ((mm_txt k).getD j 0)) = .int ((mm_txt k).getD j 0) := by decide +kernel
theorem mm_txl_len : ∀ k, k < 36 → (mm_txl.map List.length).getD k 0 = (mm_txt k).length ∧ (mm_txt k).length < 100 := by decide +kernel
section MST
variable {l : Launch} {D : va_G} {b : Nat} {sA : Nat → Nat} {cid : Nat → ClassId} {L : Nat} {xs : Nat → Int32}
def mm_PcS (D : va_G) (b : Nat) (sA : Nat → Nat) (cid : Nat → ClassId) (L : Nat) (xs : Nat → Int32) (as : List Value) (Y : State → Prop) : Array Value → State → Prop := fun v U => v = as.toArray ∧ mm_G D b sA cid L xs U U.heap ∧ b ≤ U.heap.size ∧ Y U
def mm_QcS (v : Option Value) : Array Value → State → Outcome → State → Prop := fun _ st oc t => oc = .returned v ∧ t.heap = st.heap
abbrev mm_rmS (n : Nat) : Room := { frames := n, cells := 0, slots := 0, locals := 32 * n }
abbrev mm_wS (y : MethodName) (cc : ByteArray) (n : Nat) (ret : Option FieldType) : List Jvm.Cond := Jvm.Cond.code y cc n ret :: mm_tbl
theorem mm_wS_good {y : MethodName} {cc : ByteArray} {n : Nat} {ret : Option FieldType} {args : Array Value} {s : State} (hm : Jvm.Cond.code y cc n ret ∈ mm_tbl) (hts : ∀ w ∈ mm_tbl, w.before args s = true) : ∀ w ∈ mm_wS y cc n ret, ∀ (a' : Array Value) (U : State), s.WarmedH U.vm → w.before a' U = true := by
  intro w hw
  rcases List.mem_cons.mp hw with rfl | hw
  · exact mm_tbl_good hts _ hm
  · exact mm_tbl_good hts w hw
theorem mm_aftS {p : Program} {e : Env} {R : Room} {s : State} {m : MethodId} {args : Array Value} {below : List Frame} {meth : Method} {c : Code} {H : Heap} {locs : List Loc} {cells slots pc : Nat} {Q : State → Prop} {ls : Array Slot} {st0 rest : List Value} {v : Option Value} {a : Array Value}
    (hr : va_Run p l e R s m args below meth c H locs cells slots 0 0 (F0 m pc ls st0) rest (mm_QcS v a) (fun _ => False)) (kk : W p l e R s m args below meth c H locs cells slots Q (F0 m (pc + 3) ls (v.toList ++ rest))) : W p l e R s m args below meth c H locs cells slots Q (F0 m pc ls st0) := by
  intro T hT X
  obtain ⟨v', st₀, t, T', L0, h0, X', hL, e1, e2, ⟨hv, hh⟩, st⟩ := hr T hT X
  have hv : v' = v := by cases hv; rfl
  subst hv
  have hL0 : L0 = [] := List.eq_nil_iff_forall_not_mem.mpr (fun q hq => hL q hq)
  subst hL0
  rw [List.append_nil] at X'
  obtain ⟨t2, a1, b1⟩ := kk T' (by rw [e1, hh, h0]) X'
  exact ⟨t2, st t2 a1, b1⟩

set_option maxHeartbeats 4000000 in
theorem mm_s_coder {k : Nat} (hk : k < 36) : Met l mm_yc (mm_wS mm_yc mm_ycc 1 (some .byte)) (mm_rmS 0) (mm_PcS D b sA cid L xs ([.ref (sA k)]) (fun _ => True)) (mm_QcS (some (.int 0))) 0 0 (fun _ => False) := by
  refine Met.ofW (cc := mm_ycc) (maxL := 1) (ret := (some .byte)) (by decide) rfl ?_
  intro p e s m args below meth c s₁ B hml hv
  obtain ⟨rfl, hG, hbs, hY⟩ := hv
  have hx := B.exec
  have hb := B.bytes
  have hr := B.returns
  have hts : ∀ w ∈ mm_tbl, w.before _ s = true := fun w hw => atoms_spec (ws := mm_wS mm_yc mm_ycc 1 (some .byte)) B.pre w (List.mem_cons_of_mem _ hw)
  have hown : s.vm.findClass "java/lang/String" = some m.cls := findClass_of_methodNamed B.named
  have hlocks := B.notSynchronized
  have hS : va_S (fun q => b ≤ q) s.heap s.heap [] := va_S.rf
  have hl := lv_entry ([.ref (sA k)]) (n := 1) (Nat.le_of_ble_eq_true rfl)
  rw [lg_entry_eq]
  generalize (lg_sl ([.ref (sA k)]) ++ List.replicate (1 - (lg_sl ([.ref (sA k)])).length) Slot.unset).toArray = ls at hl ⊢
  obtain ⟨adV, hV⟩ := hG.2.2.2.2.1
  obtain ⟨hO, hC, hVa, hT⟩ := hV.1 k hk
  refine va_gets (A := fun q => b ≤ q) hx hb hG.2.2.2.2.2.1.1 hS hown (hts _ mm_f_cs) (fun _ q => q) mm_yc_0 ?_
  refine lv_if_eq (tgt := 13) hx hb mm_yc_3 (by decide) (fun q => absurd q (by decide)) (fun _ => ?_)
  refine lv_aload_n hx hb mm_yc_6 rfl (lv_at hl 0 rfl) ?_
  refine vk_getf hx hb hC hS hown (hts _ mm_f_cd) (fun _ q => q) mm_yc_7 ?_
  refine lv_goto (tgt := 14) hx hb mm_yc_10 (by decide) ?_
  exact W.zret hx hb hr rfl (fun t ht hW => ⟨rfl, ht⟩) (fun q h => nomatch h) mm_yc_14
set_option maxHeartbeats 4000000 in
theorem mm_s_lat {k : Nat} (hk : k < 36) : Met l mm_yi (mm_wS mm_yi mm_yic 1 (some .boolean)) (mm_rmS 0) (mm_PcS D b sA cid L xs ([.ref (sA k)]) (fun _ => True)) (mm_QcS (some (.int 1))) 0 0 (fun _ => False) := by
  refine Met.ofW (cc := mm_yic) (maxL := 1) (ret := (some .boolean)) (by decide) rfl ?_
  intro p e s m args below meth c s₁ B hml hv
  obtain ⟨rfl, hG, hbs, hY⟩ := hv
  have hx := B.exec
  have hb := B.bytes
  have hr := B.returns
  have hts : ∀ w ∈ mm_tbl, w.before _ s = true := fun w hw => atoms_spec (ws := mm_wS mm_yi mm_yic 1 (some .boolean)) B.pre w (List.mem_cons_of_mem _ hw)
  have hown : s.vm.findClass "java/lang/String" = some m.cls := findClass_of_methodNamed B.named
  have hlocks := B.notSynchronized
  have hS : va_S (fun q => b ≤ q) s.heap s.heap [] := va_S.rf
  have hl := lv_entry ([.ref (sA k)]) (n := 1) (Nat.le_of_ble_eq_true rfl)
  rw [lg_entry_eq]
  generalize (lg_sl ([.ref (sA k)]) ++ List.replicate (1 - (lg_sl ([.ref (sA k)])).length) Slot.unset).toArray = ls at hl ⊢
  obtain ⟨adV, hV⟩ := hG.2.2.2.2.1
  obtain ⟨hO, hC, hVa, hT⟩ := hV.1 k hk
  refine va_gets (A := fun q => b ≤ q) hx hb hG.2.2.2.2.2.1.1 hS hown (hts _ mm_f_cs) (fun _ q => q) mm_yi_0 ?_
  refine lv_if_eq (tgt := 17) hx hb mm_yi_3 (by decide) (fun q => absurd q (by decide)) (fun _ => ?_)
  refine lv_aload_n hx hb mm_yi_6 rfl (lv_at hl 0 rfl) ?_
  refine vk_getf hx hb hC hS hown (hts _ mm_f_cd) (fun _ q => q) mm_yi_7 ?_
  refine lv_if_ne (tgt := 17) hx hb mm_yi_10 (by decide) (fun q => absurd rfl q) (fun _ => ?_)
  refine lv_iconst (v := 1) hx hb mm_yi_13 (by decide) ?_
  refine lv_goto (tgt := 18) hx hb mm_yi_14 (by decide) ?_
  exact W.zret hx hb hr rfl (fun t ht hW => ⟨rfl, ht⟩) (fun q h => nomatch h) mm_yi_18
set_option maxHeartbeats 4000000 in
theorem mm_s_pren {i n : Int32} (h1 : ¬ i < 0) (h2 : i < n) : Met l mm_yp (mm_wS mm_yp mm_ypc 3 (some .int)) (mm_rmS 0) (mm_PcS D b sA cid L xs ([.int i, .int n, .null]) (fun _ => True)) (mm_QcS (some (.int i))) 0 0 (fun _ => False) := by
  refine Met.ofW (cc := mm_ypc) (maxL := 3) (ret := (some .int)) (by decide) rfl ?_
  intro p e s m args below meth c s₁ B hml hv
  obtain ⟨rfl, hG, hbs, hY⟩ := hv
  have hx := B.exec
  have hb := B.bytes
  have hr := B.returns
  have hts : ∀ w ∈ mm_tbl, w.before _ s = true := fun w hw => atoms_spec (ws := mm_wS mm_yp mm_ypc 3 (some .int)) B.pre w (List.mem_cons_of_mem _ hw)
  have hown : s.vm.findClass "jdk/internal/util/Preconditions" = some m.cls := findClass_of_methodNamed B.named
  have hlocks := B.notSynchronized
  have hS : va_S (fun q => b ≤ q) s.heap s.heap [] := va_S.rf
  have hl := lv_entry ([.int i, .int n, .null]) (n := 3) (Nat.le_of_ble_eq_true rfl)
  rw [lg_entry_eq]
  generalize (lg_sl ([.int i, .int n, .null]) ++ List.replicate (3 - (lg_sl ([.int i, .int n, .null])).length) Slot.unset).toArray = ls at hl ⊢
  refine lv_iload_n hx hb mm_yp_0 rfl (lv_at hl 0 rfl) ?_
  refine lv_if_lt (tgt := 9) hx hb mm_yp_1 (by decide) (fun q => absurd q h1) (fun _ => ?_)
  refine lv_iload_n hx hb mm_yp_4 rfl (lv_at hl 0 rfl) ?_
  refine lv_iload_n hx hb mm_yp_5 rfl (lv_at hl 1 rfl) ?_
  refine lv_icmp_lt (tgt := 16) hx hb mm_yp_6 (by decide) (fun _ => ?_) (fun q => absurd h2 q)
  refine lv_iload_n hx hb mm_yp_16 rfl (lv_at hl 0 rfl) ?_
  exact W.iret hx hb hr (fun t ht hW => ⟨rfl, ht⟩) (fun q h => nomatch h) mm_yp_17
set_option maxHeartbeats 4000000 in
theorem mm_s_prer {i n : Int32} {t9 : Nat} (h1 : ¬ i < 0) (h2 : i < n) : Met l mm_yp (mm_wS mm_yp mm_ypc 3 (some .int)) (mm_rmS 0) (mm_PcS D b sA cid L xs ([.int i, .int n, .ref t9]) (fun _ => True)) (mm_QcS (some (.int i))) 0 0 (fun _ => False) := by
  refine Met.ofW (cc := mm_ypc) (maxL := 3) (ret := (some .int)) (by decide) rfl ?_
  intro p e s m args below meth c s₁ B hml hv
  obtain ⟨rfl, hG, hbs, hY⟩ := hv
  have hx := B.exec
  have hb := B.bytes
  have hr := B.returns
  have hts : ∀ w ∈ mm_tbl, w.before _ s = true := fun w hw => atoms_spec (ws := mm_wS mm_yp mm_ypc 3 (some .int)) B.pre w (List.mem_cons_of_mem _ hw)
  have hown : s.vm.findClass "jdk/internal/util/Preconditions" = some m.cls := findClass_of_methodNamed B.named
  have hlocks := B.notSynchronized
  have hS : va_S (fun q => b ≤ q) s.heap s.heap [] := va_S.rf
  have hl := lv_entry ([.int i, .int n, .ref t9]) (n := 3) (Nat.le_of_ble_eq_true rfl)
  rw [lg_entry_eq]
  generalize (lg_sl ([.int i, .int n, .ref t9]) ++ List.replicate (3 - (lg_sl ([.int i, .int n, .ref t9])).length) Slot.unset).toArray = ls at hl ⊢
  refine lv_iload_n hx hb mm_yp_0 rfl (lv_at hl 0 rfl) ?_
  refine lv_if_lt (tgt := 9) hx hb mm_yp_1 (by decide) (fun q => absurd q h1) (fun _ => ?_)
  refine lv_iload_n hx hb mm_yp_4 rfl (lv_at hl 0 rfl) ?_
  refine lv_iload_n hx hb mm_yp_5 rfl (lv_at hl 1 rfl) ?_
  refine lv_icmp_lt (tgt := 16) hx hb mm_yp_6 (by decide) (fun _ => ?_) (fun q => absurd h2 q)
  refine lv_iload_n hx hb mm_yp_16 rfl (lv_at hl 0 rfl) ?_
  exact W.iret hx hb hr (fun t ht hW => ⟨rfl, ht⟩) (fun q h => nomatch h) mm_yp_17
theorem mm_blindS {as : List Value} {Y : State → Prop} (hY : ∀ (U : State) (g : JFrame) (mk : MethodId) (a : Array Value), Y U → Y (U.calling g mk a)) : FrameBlind (mm_PcS D b sA cid L xs as Y) := fun _ U g mk q => ⟨q.1, mm_G_go (u := U) (U := U.calling g mk _) (State.WarmedH.refl U) (fun _ _ _ => rfl) q.2.1, q.2.2.1, hY U g mk _ q.2.2.2⟩
theorem mm_pcS {s U : State} {H : Heap} {locs : List Loc} {as : List Value} {Y : State → Prop} (hG : mm_G D b sA cid L xs s s.heap) (hbs : b ≤ s.heap.size) (hS : va_S (fun q => b ≤ q) s.heap H locs) (hU : U.heap = H) (hW : s.WarmedH U.vm) (hY : Y U) : mm_PcS D b sA cid L xs as Y as.toArray U := ⟨rfl, mm_G_go hW (fun q h1 h2 => by rw [hU]; exact hS.2.1 q h1 h2) hG, by rw [hU]; exact Nat.le_trans hbs hS.1, hY⟩
theorem mm_parS {y : MethodName} {n : Nat} (h : (parseMethodDescriptor y.desc).map (fun d => d.parameters.length) = some n) : ∀ sig, parseMethodDescriptor y.desc = some sig → n = sig.parameters.length := fun sig hs => by
  rw [hs] at h
  exact (Option.some.inj h).symm
set_option maxHeartbeats 4000000 in
theorem mm_s_chk {i n : Int32} (h1 : ¬ i < 0) (h2 : i < n) : Met l mm_yk (mm_wS mm_yk mm_ykc 2 none) (mm_rmS 1) (mm_PcS D b sA cid L xs ([.int i, .int n]) (fun _ => True)) (mm_QcS (none)) 0 0 (fun _ => False) := by
  refine Met.ofW (cc := mm_ykc) (maxL := 2) (ret := none) (by decide) rfl ?_
  intro p e s m args below meth c s₁ B hml hv
  obtain ⟨rfl, hG, hbs, hY⟩ := hv
  have hx := B.exec
  have hb := B.bytes
  have hr := B.returns
  have hts : ∀ w ∈ mm_tbl, w.before _ s = true := fun w hw => atoms_spec (ws := mm_wS mm_yk mm_ykc 2 none) B.pre w (List.mem_cons_of_mem _ hw)
  have hown : s.vm.findClass "java/lang/String" = some m.cls := findClass_of_methodNamed B.named
  have hlocks := B.notSynchronized
  have hS : va_S (fun q => b ≤ q) s.heap s.heap [] := va_S.rf
  have hl := lv_entry ([.int i, .int n]) (n := 2) (Nat.le_of_ble_eq_true rfl)
  rw [lg_entry_eq]
  generalize (lg_sl ([.int i, .int n]) ++ List.replicate (2 - (lg_sl ([.int i, .int n])).length) Slot.unset).toArray = ls at hl ⊢
  rcases hG.2.2.2.2.2.1.2 with hZ | ⟨t9, hZ⟩
  · refine lv_iload_n hx hb mm_yk_0 rfl (lv_at hl 0 rfl) ?_
    refine lv_iload_n hx hb mm_yk_1 rfl (lv_at hl 1 rfl) ?_
    refine va_gets (A := fun q => b ≤ q) hx hb hZ hS hown (hts _ mm_f_si) (fun _ q => q) mm_yk_2 ?_
    refine mm_aftS (va_runS (own := "java/lang/String") (bytes := mm_ypc) (maxL := 3) (ret := (some .int)) (n := 3) (As := [.int i, .int n, .null]) (rest := []) ⟨hx, hb, hml, hown, hts⟩ (mm_s_pren (D := D) (b := b) (sA := sA) (cid := cid) (L := L) (xs := xs) h1 h2) ⟨⟨rfl, rfl, Nat.le_of_ble_eq_true rfl, Nat.le_of_ble_eq_true rfl, mm_wS_good mm_yp_w hts, List.mem_cons_self, hts _ mm_yp_w, hts _ mm_n_P, ⟨by decide, by decide⟩, mm_parS (by decide +kernel), hts _ mm_m_kp⟩, hts _ mm_yp_s⟩ ⟨mm_blindS (fun _ _ _ _ q => q), fun U hU hW => mm_pcS hG hbs hS hU hW trivial⟩ rfl rfl hl.1 rfl (lv_room (Nat.le_of_ble_eq_true rfl)) mm_yk_5 ⟨Nat.le_refl _, Nat.le_refl _⟩) ?_
    refine lv_pop hx hb mm_yk_8 rfl ?_
    exact W.vret hx hb hr (fun t ht hW => ⟨rfl, ht⟩) (fun q h => nomatch h) mm_yk_9
  · refine lv_iload_n hx hb mm_yk_0 rfl (lv_at hl 0 rfl) ?_
    refine lv_iload_n hx hb mm_yk_1 rfl (lv_at hl 1 rfl) ?_
    refine va_gets (A := fun q => b ≤ q) hx hb hZ hS hown (hts _ mm_f_si) (fun _ q => q) mm_yk_2 ?_
    refine mm_aftS (va_runS (own := "java/lang/String") (bytes := mm_ypc) (maxL := 3) (ret := (some .int)) (n := 3) (As := [.int i, .int n, .ref t9]) (rest := []) ⟨hx, hb, hml, hown, hts⟩ (mm_s_prer (D := D) (b := b) (sA := sA) (cid := cid) (L := L) (xs := xs) h1 h2) ⟨⟨rfl, rfl, Nat.le_of_ble_eq_true rfl, Nat.le_of_ble_eq_true rfl, mm_wS_good mm_yp_w hts, List.mem_cons_self, hts _ mm_yp_w, hts _ mm_n_P, ⟨by decide, by decide⟩, mm_parS (by decide +kernel), hts _ mm_m_kp⟩, hts _ mm_yp_s⟩ ⟨mm_blindS (fun _ _ _ _ q => q), fun U hU hW => mm_pcS hG hbs hS hU hW trivial⟩ rfl rfl hl.1 rfl (lv_room (Nat.le_of_ble_eq_true rfl)) mm_yk_5 ⟨Nat.le_refl _, Nat.le_refl _⟩) ?_
    refine lv_pop hx hb mm_yk_8 rfl ?_
    exact W.vret hx hb hr (fun t ht hW => ⟨rfl, ht⟩) (fun q h => nomatch h) mm_yk_9
set_option maxHeartbeats 4000000 in
theorem mm_s_l1 {a n0 : Nat} {f : Nat → Int32} {i : Int32} (hn : n0 < 100) (hin : vp_in i n0) (h9 : ((f i.toNatClampNeg &&& 255).toUInt32 % 65536).toInt32 = f i.toNatClampNeg) (h8 : narrow .char (.int (f i.toNatClampNeg)) = .int (f i.toNatClampNeg)) : Met l mm_y1 (mm_wS mm_y1 mm_y1c 2 (some .char)) (mm_rmS 2) (mm_PcS D b sA cid L xs ([.ref a, .int i]) (fun U => va_T .byte a n0 (fun j => .int (f j)) (fun q => b ≤ q) U U.heap)) (mm_QcS (some (.int (f i.toNatClampNeg)))) 0 0 (fun _ => False) := by
  refine Met.ofW (cc := mm_y1c) (maxL := 2) (ret := (some .char)) (by decide) rfl ?_
  intro p e s m args below meth c s₁ B hml hv
  obtain ⟨rfl, hG, hbs, hY⟩ := hv
  have hx := B.exec
  have hb := B.bytes
  have hr := B.returns
  have hts : ∀ w ∈ mm_tbl, w.before _ s = true := fun w hw => atoms_spec (ws := mm_wS mm_y1 mm_y1c 2 (some .char)) B.pre w (List.mem_cons_of_mem _ hw)
  have hown : s.vm.findClass "java/lang/StringLatin1" = some m.cls := findClass_of_methodNamed B.named
  have hlocks := B.notSynchronized
  have hS : va_S (fun q => b ≤ q) s.heap s.heap [] := va_S.rf
  have hl := lv_entry ([.ref a, .int i]) (n := 2) (Nat.le_of_ble_eq_true rfl)
  rw [lg_entry_eq]
  generalize (lg_sl ([.ref a, .int i]) ++ List.replicate (2 - (lg_sl ([.ref a, .int i])).length) Slot.unset).toArray = ls at hl ⊢
  have h1 : ¬ i < 0 := fun q => hin (Or.inl q)
  have h2 : i < Int32.ofNat n0 := by
    obtain ⟨j, hj, rfl⟩ := vp_in_of hin (by omega)
    exact nI_lt hj (by omega)
  refine lv_iload_n hx hb mm_y1_0 rfl (lv_at hl 1 rfl) ?_
  refine lv_aload_n hx hb mm_y1_1 rfl (lv_at hl 0 rfl) ?_
  refine va_tlen hx hb hY hS rfl mm_y1_2 ?_
  refine mm_aftS (va_runS (own := "java/lang/StringLatin1") (bytes := mm_ykc) (maxL := 2) (ret := none) (n := 2) (As := [.int i, .int (Int32.ofNat n0)]) (rest := []) ⟨hx, hb, hml, hown, hts⟩ (mm_s_chk (D := D) (b := b) (sA := sA) (cid := cid) (L := L) (xs := xs) h1 h2) ⟨⟨rfl, rfl, Nat.le_of_ble_eq_true rfl, Nat.le_of_ble_eq_true rfl, mm_wS_good mm_yk_w hts, List.mem_cons_self, hts _ mm_yk_w, hts _ mm_n_S, ⟨by decide, by decide⟩, mm_parS (by decide +kernel), hts _ mm_m_1k⟩, hts _ mm_yk_s⟩ ⟨mm_blindS (fun _ _ _ _ q => q), fun U hU hW => mm_pcS hG hbs hS hU hW trivial⟩ rfl rfl hl.1 rfl (lv_room (Nat.le_of_ble_eq_true rfl)) mm_y1_3 ⟨Nat.le_refl _, Nat.le_refl _⟩) ?_
  refine lv_aload_n hx hb mm_y1_6 rfl (lv_at hl 0 rfl) ?_
  refine lv_iload_n hx hb mm_y1_7 rfl (lv_at hl 1 rfl) ?_
  refine va_tb hx hb hY hS hin rfl mm_y1_8 ?_
  refine lv_sipush (v := 255) hx hb mm_y1_9 (by decide) ?_
  refine lv_iand hx hb mm_y1_12 ?_
  refine lv_i2c hx hb mm_y1_13 h9 ?_
  exact W.zret hx hb hr h8 (fun t ht hW => ⟨rfl, ht⟩) (fun q h => nomatch h) mm_y1_14
set_option maxHeartbeats 4000000 in
theorem mm_s_len {k : Nat} (hk : k < 36) : Met l mm_yl (mm_wS mm_yl mm_ylc 1 (some .int)) (mm_rmS 1) (mm_PcS D b sA cid L xs ([.ref (sA k)]) (fun _ => True)) (mm_QcS (some (.int (Int32.ofNat (mm_txt k).length)))) 0 0 (fun _ => False) := by
  refine Met.ofW (cc := mm_ylc) (maxL := 1) (ret := (some .int)) (by decide) rfl ?_
  intro p e s m args below meth c s₁ B hml hv
  obtain ⟨rfl, hG, hbs, hY⟩ := hv
  have hx := B.exec
  have hb := B.bytes
  have hr := B.returns
  have hts : ∀ w ∈ mm_tbl, w.before _ s = true := fun w hw => atoms_spec (ws := mm_wS mm_yl mm_ylc 1 (some .int)) B.pre w (List.mem_cons_of_mem _ hw)
  have hown : s.vm.findClass "java/lang/String" = some m.cls := findClass_of_methodNamed B.named
  have hlocks := B.notSynchronized
  have hS : va_S (fun q => b ≤ q) s.heap s.heap [] := va_S.rf
  have hl := lv_entry ([.ref (sA k)]) (n := 1) (Nat.le_of_ble_eq_true rfl)
  rw [lg_entry_eq]
  generalize (lg_sl ([.ref (sA k)]) ++ List.replicate (1 - (lg_sl ([.ref (sA k)])).length) Slot.unset).toArray = ls at hl ⊢
  obtain ⟨adV, hV⟩ := hG.2.2.2.2.1
  obtain ⟨hO, hC, hVa, hT⟩ := hV.1 k hk
  rw [(mm_txl_len k hk).1] at hT
  refine lv_aload_n hx hb mm_yl_0 rfl (lv_at hl 0 rfl) ?_
  refine vk_getf hx hb hVa hS hown (hts _ mm_f_v) (fun _ q => q) mm_yl_1 ?_
  refine va_tlen hx hb hT hS rfl mm_yl_4 ?_
  refine lv_aload_n hx hb mm_yl_5 rfl (lv_at hl 0 rfl) ?_
  refine mm_aftS (va_runV (own := "java/lang/String") (C := "java/lang/String") (bytes := mm_ycc) (maxL := 1) (ret := (some .byte)) (n := 0) (b := sA k) (As := []) (rest := [.int (Int32.ofNat (mm_txt k).length)]) ⟨hx, hb, hml, hown, hts⟩ (mm_s_coder (D := D) (b := b) (sA := sA) (cid := cid) (L := L) (xs := xs) hk) ⟨⟨rfl, rfl, Nat.le_of_ble_eq_true rfl, Nat.le_of_ble_eq_true rfl, mm_wS_good mm_yc_w hts, List.mem_cons_self, hts _ mm_yc_w, hts _ mm_n_S, ⟨by decide, by decide⟩, mm_parS (by decide +kernel), hts _ mm_m_lc⟩, hts _ mm_yc_i.1, hts _ mm_yc_i.2⟩ ⟨mm_blindS (fun _ _ _ _ q => q), vk_recv hV hk hS, fun U hU hW => mm_pcS hG hbs hS hU hW trivial⟩ rfl rfl hl.1 rfl (lv_room (Nat.le_of_ble_eq_true rfl)) mm_yl_6 ⟨Nat.le_refl _, Nat.le_refl _⟩) ?_
  refine lv_ishr hx hb mm_yl_9 ?_
  rw [sb_shr0]
  exact W.iret hx hb hr (fun t ht hW => ⟨rfl, ht⟩) (fun q h => nomatch h) mm_yl_10
set_option maxHeartbeats 4000000 in
theorem mm_s_chr {k : Nat} {i : Int32} (hk : k < 36) (hin : vp_in i (mm_txt k).length) : Met l mm_ya (mm_wS mm_ya mm_yac 2 (some .char)) (mm_rmS 3) (mm_PcS D b sA cid L xs ([.ref (sA k), .int i]) (fun _ => True)) (mm_QcS (some (.int ((mm_txt k).getD i.toNatClampNeg 0)))) 0 0 (fun _ => False) := by
  refine Met.ofW (cc := mm_yac) (maxL := 2) (ret := (some .char)) (by decide) rfl ?_
  intro p e s m args below meth c s₁ B hml hv
  obtain ⟨rfl, hG, hbs, hY⟩ := hv
  have hx := B.exec
  have hb := B.bytes
  have hr := B.returns
  have hts : ∀ w ∈ mm_tbl, w.before _ s = true := fun w hw => atoms_spec (ws := mm_wS mm_ya mm_yac 2 (some .char)) B.pre w (List.mem_cons_of_mem _ hw)
  have hown : s.vm.findClass "java/lang/String" = some m.cls := findClass_of_methodNamed B.named
  have hlocks := B.notSynchronized
  have hS : va_S (fun q => b ≤ q) s.heap s.heap [] := va_S.rf
  have hl := lv_entry ([.ref (sA k), .int i]) (n := 2) (Nat.le_of_ble_eq_true rfl)
  rw [lg_entry_eq]
  generalize (lg_sl ([.ref (sA k), .int i]) ++ List.replicate (2 - (lg_sl ([.ref (sA k), .int i])).length) Slot.unset).toArray = ls at hl ⊢
  obtain ⟨adV, hV⟩ := hG.2.2.2.2.1
  obtain ⟨hO, hC, hVa, hT⟩ := hV.1 k hk
  rw [(mm_txl_len k hk).1] at hT
  have hT : va_T .byte (adV k) (mm_txt k).length (fun j => .int ((mm_txt k).getD j 0)) (fun q => b ≤ q) s s.heap := hT
  have hlt : i.toNatClampNeg < (mm_txt k).length := Nat.not_le.mp (fun q => hin (Or.inr q))
  have h9 := mm_txt_ok k hk _ hlt
  refine lv_aload_n hx hb mm_ya_0 rfl (lv_at hl 0 rfl) ?_
  refine mm_aftS (va_runV (own := "java/lang/String") (C := "java/lang/String") (bytes := mm_yic) (maxL := 1) (ret := (some .boolean)) (n := 0) (b := sA k) (As := []) (rest := []) ⟨hx, hb, hml, hown, hts⟩ (mm_s_lat (D := D) (b := b) (sA := sA) (cid := cid) (L := L) (xs := xs) hk) ⟨⟨rfl, rfl, Nat.le_of_ble_eq_true rfl, Nat.le_of_ble_eq_true rfl, mm_wS_good mm_yi_w hts, List.mem_cons_self, hts _ mm_yi_w, hts _ mm_n_S, ⟨by decide, by decide⟩, mm_parS (by decide +kernel), hts _ mm_m_al⟩, hts _ mm_yi_i.1, hts _ mm_yi_i.2⟩ ⟨mm_blindS (fun _ _ _ _ q => q), vk_recv hV hk hS, fun U hU hW => mm_pcS hG hbs hS hU hW trivial⟩ rfl rfl hl.1 rfl (lv_room (Nat.le_of_ble_eq_true rfl)) mm_ya_1 ⟨Nat.le_refl _, Nat.le_refl _⟩) ?_
  refine lv_if_eq (tgt := 16) hx hb mm_ya_4 (by decide) (fun q => absurd q (by decide)) (fun _ => ?_)
  refine lv_aload_n hx hb mm_ya_7 rfl (lv_at hl 0 rfl) ?_
  refine vk_getf hx hb hVa hS hown (hts _ mm_f_v) (fun _ q => q) mm_ya_8 ?_
  refine lv_iload_n hx hb mm_ya_11 rfl (lv_at hl 1 rfl) ?_
  refine mm_aftS (va_runS (own := "java/lang/String") (bytes := mm_y1c) (maxL := 2) (ret := (some .char)) (n := 2) (As := [.ref (adV k), .int i]) (rest := []) ⟨hx, hb, hml, hown, hts⟩ (mm_s_l1 (D := D) (b := b) (sA := sA) (cid := cid) (L := L) (xs := xs) (a := adV k) (n0 := (mm_txt k).length) (f := fun j => (mm_txt k).getD j 0) (i := i) (mm_txl_len k hk).2 hin h9.1 h9.2) ⟨⟨rfl, rfl, Nat.le_of_ble_eq_true rfl, Nat.le_of_ble_eq_true rfl, mm_wS_good mm_y1_w hts, List.mem_cons_self, hts _ mm_y1_w, hts _ mm_n_L, ⟨by decide, by decide⟩, mm_parS (by decide +kernel), hts _ mm_m_a1⟩, hts _ mm_y1_s⟩ ⟨mm_blindS (fun U g mk a q => va_T.moved (u := U) (U := U.calling g mk a) (Vm.Alike.refl U.vm) q), fun U hU hW => mm_pcS hG hbs hS hU hW (by rw [hU]; exact va_T.moved hW.alike (hT.kept hS.2.1))⟩ rfl rfl hl.1 rfl (lv_room (Nat.le_of_ble_eq_true rfl)) mm_ya_12 ⟨Nat.le_refl _, Nat.le_refl _⟩) ?_
  exact W.zret hx hb hr h9.2 (fun t ht hW => ⟨rfl, ht⟩) (fun q h => nomatch h) mm_ya_15
end MST
