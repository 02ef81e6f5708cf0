theorem i111_0 : mm_cd 111 0 = some (.aload_n 0, 1, 0, 0) := rfl
theorem i111_1 : mm_cd 111 1 = some (.getfield 12, 3, ((9 : Nat) : Int), 1) := rfl
theorem i111_4 : mm_cd 111 4 = some (.aload_n 1, 1, 0, 0) := rfl
theorem i111_5 : mm_cd 111 5 = some (.getfield 12, 3, ((9 : Nat) : Int), 1) := rfl
theorem i111_8 : mm_cd 111 8 = some (.invokevirtual 72, 3, 0, 1) := rfl
theorem i111_11 : mm_cd 111 11 = some (.aload_n 0, 1, 0, 0) := rfl
theorem i111_12 : mm_cd 111 12 = some (.getfield 21, 3, ((9 : Nat) : Int), 2) := rfl
theorem i111_15 : mm_cd 111 15 = some (.aload_n 1, 1, 0, 0) := rfl
theorem i111_16 : mm_cd 111 16 = some (.getfield 21, 3, ((9 : Nat) : Int), 2) := rfl
theorem i111_19 : mm_cd 111 19 = some (.invokevirtual 76, 3, 0, 63) := rfl
theorem i111_22 : mm_cd 111 22 = some (.aload_n 0, 1, 0, 0) := rfl
theorem i111_23 : mm_cd 111 23 = some (.getfield 28, 3, ((9 : Nat) : Int), 3) := rfl
theorem i111_26 : mm_cd 111 26 = some (.aload_n 1, 1, 0, 0) := rfl
theorem i111_27 : mm_cd 111 27 = some (.getfield 28, 3, ((9 : Nat) : Int), 3) := rfl
theorem i111_30 : mm_cd 111 30 = some (.invokevirtual 79, 3, 0, 13) := rfl
theorem i111_33 : mm_cd 111 33 = some (.aload_n 0, 1, 0, 0) := rfl
theorem i111_34 : mm_cd 111 34 = some (.getfield 35, 3, ((9 : Nat) : Int), 4) := rfl
theorem i111_37 : mm_cd 111 37 = some (.aload_n 1, 1, 0, 0) := rfl
theorem i111_38 : mm_cd 111 38 = some (.getfield 35, 3, ((9 : Nat) : Int), 4) := rfl
theorem i111_41 : mm_cd 111 41 = some (.invokevirtual 82, 3, 0, 42) := rfl
theorem i111_44 : mm_cd 111 44 = some (.aload_n 1, 1, 0, 0) := rfl
theorem i111_45 : mm_cd 111 45 = some (.getfield 39, 3, ((9 : Nat) : Int), 5) := rfl
theorem i111_48 : mm_cd 111 48 = some (.iconst 0, 1, 0, 0) := rfl
theorem i111_49 : mm_cd 111 49 = some (.aload_n 0, 1, 0, 0) := rfl
theorem i111_50 : mm_cd 111 50 = some (.getfield 39, 3, ((9 : Nat) : Int), 5) := rfl
theorem i111_53 : mm_cd 111 53 = some (.iconst 0, 1, 0, 0) := rfl
theorem i111_54 : mm_cd 111 54 = some (.bipush 10, 2, 0, 0) := rfl
theorem i111_56 : mm_cd 111 56 = some (.invokestatic 85, 3, 1, 0) := rfl
theorem i111_59 : mm_cd 111 59 = some (.aload_n 1, 1, 0, 0) := rfl
theorem i111_60 : mm_cd 111 60 = some (.getfield 43, 3, ((9 : Nat) : Int), 6) := rfl
theorem i111_63 : mm_cd 111 63 = some (.iconst 0, 1, 0, 0) := rfl
theorem i111_64 : mm_cd 111 64 = some (.aload_n 0, 1, 0, 0) := rfl
theorem i111_65 : mm_cd 111 65 = some (.getfield 43, 3, ((9 : Nat) : Int), 6) := rfl
theorem i111_68 : mm_cd 111 68 = some (.iconst 0, 1, 0, 0) := rfl
theorem i111_69 : mm_cd 111 69 = some (.bipush 10, 2, 0, 0) := rfl
theorem i111_71 : mm_cd 111 71 = some (.invokestatic 85, 3, 1, 0) := rfl
theorem i111_74 : mm_cd 111 74 = some (.aload_n 1, 1, 0, 0) := rfl
theorem i111_75 : mm_cd 111 75 = some (.getfield 46, 3, ((9 : Nat) : Int), 7) := rfl
theorem i111_78 : mm_cd 111 78 = some (.iconst 0, 1, 0, 0) := rfl
theorem i111_79 : mm_cd 111 79 = some (.aload_n 0, 1, 0, 0) := rfl
theorem i111_80 : mm_cd 111 80 = some (.getfield 46, 3, ((9 : Nat) : Int), 7) := rfl
theorem i111_83 : mm_cd 111 83 = some (.iconst 0, 1, 0, 0) := rfl
theorem i111_84 : mm_cd 111 84 = some (.bipush 10, 2, 0, 0) := rfl
theorem i111_86 : mm_cd 111 86 = some (.invokestatic 85, 3, 1, 0) := rfl
theorem i111_89 : mm_cd 111 89 = some (.aload_n 1, 1, 0, 0) := rfl
theorem i111_90 : mm_cd 111 90 = some (.getfield 49, 3, ((9 : Nat) : Int), 8) := rfl
theorem i111_93 : mm_cd 111 93 = some (.iconst 0, 1, 0, 0) := rfl
theorem i111_94 : mm_cd 111 94 = some (.aload_n 0, 1, 0, 0) := rfl
theorem i111_95 : mm_cd 111 95 = some (.getfield 49, 3, ((9 : Nat) : Int), 8) := rfl
theorem i111_98 : mm_cd 111 98 = some (.iconst 0, 1, 0, 0) := rfl
theorem i111_99 : mm_cd 111 99 = some (.bipush 10, 2, 0, 0) := rfl
theorem i111_101 : mm_cd 111 101 = some (.invokestatic 85, 3, 1, 0) := rfl
theorem i111_104 : mm_cd 111 104 = some (.aload_n 0, 1, 0, 0) := rfl
theorem i111_105 : mm_cd 111 105 = some (.aload_n 1, 1, 0, 0) := rfl
theorem i111_106 : mm_cd 111 106 = some (.getfield 52, 3, ((9 : Nat) : Int), 9) := rfl
theorem i111_109 : mm_cd 111 109 = some (.putfield 52, 3, ((9 : Nat) : Int), 9) := rfl
theorem i111_112 : mm_cd 111 112 = some (.aload_n 0, 1, 0, 0) := rfl
theorem i111_113 : mm_cd 111 113 = some (.aload_n 1, 1, 0, 0) := rfl
theorem i111_114 : mm_cd 111 114 = some (.getfield 56, 3, ((9 : Nat) : Int), 10) := rfl
theorem i111_117 : mm_cd 111 117 = some (.putfield 56, 3, ((9 : Nat) : Int), 10) := rfl
theorem i111_120 : mm_cd 111 120 = some (.aload_n 0, 1, 0, 0) := rfl
theorem i111_121 : mm_cd 111 121 = some (.aload_n 1, 1, 0, 0) := rfl
theorem i111_122 : mm_cd 111 122 = some (.getfield 59, 3, ((9 : Nat) : Int), 11) := rfl
theorem i111_125 : mm_cd 111 125 = some (.putfield 59, 3, ((9 : Nat) : Int), 11) := rfl
theorem i111_128 : mm_cd 111 128 = some (.aload_n 0, 1, 0, 0) := rfl
theorem i111_129 : mm_cd 111 129 = some (.aload_n 1, 1, 0, 0) := rfl
theorem i111_130 : mm_cd 111 130 = some (.getfield 62, 3, ((9 : Nat) : Int), 12) := rfl
theorem i111_133 : mm_cd 111 133 = some (.putfield 62, 3, ((9 : Nat) : Int), 12) := rfl
theorem i111_136 : mm_cd 111 136 = some (.aload_n 0, 1, 0, 0) := rfl
theorem i111_137 : mm_cd 111 137 = some (.aload_n 1, 1, 0, 0) := rfl
theorem i111_138 : mm_cd 111 138 = some (.getfield 65, 3, ((9 : Nat) : Int), 13) := rfl
theorem i111_141 : mm_cd 111 141 = some (.putfield 65, 3, ((9 : Nat) : Int), 13) := rfl
theorem i111_144 : mm_cd 111 144 = some (.return_, 1, 0, 0) := rfl
/-- SerialGate$World.copyFrom(LSerialGate$World;)V -/
def q111 (a : Nat) (b : Nat) (s : mS) : Option mQ := bM (q1 (a + 1) (b + 1) s) fun s1 => bM (q63 (a + 6) (b + 6) s1) fun s2 => bM (q13 (a + 18) (b + 18) s2) fun s3 => bM (q42 (a + 26) (b + 26) s3) fun s4 => gC 10 10 (0 : Int32) (0 : Int32) (10 : Int32) <| sp (sC s4 (b + 28) (a + 28) (0 : Int32).toNatClampNeg (0 : Int32).toNatClampNeg (10 : Int32).toNatClampNeg) fun s5 => gC 10 10 (0 : Int32) (0 : Int32) (10 : Int32) <| sp (sC s5 (b + 29) (a + 29) (0 : Int32).toNatClampNeg (0 : Int32).toNatClampNeg (10 : Int32).toNatClampNeg) fun s6 => gC 10 10 (0 : Int32) (0 : Int32) (10 : Int32) <| sp (sC s6 (b + 30) (a + 30) (0 : Int32).toNatClampNeg (0 : Int32).toNatClampNeg (10 : Int32).toNatClampNeg) fun s7 => gC 10 10 (0 : Int32) (0 : Int32) (10 : Int32) <| sp (sC s7 (b + 31) (a + 31) (0 : Int32).toNatClampNeg (0 : Int32).toNatClampNeg (10 : Int32).toNatClampNeg) fun s8 => sp (sI s8 a 9 (s8.1 b 9)) fun s9 => sp (sI s9 a 10 (s9.1 b 10)) fun s10 => sp (sI s10 a 11 (s10.1 b 11)) fun s11 => sp (sI s11 a 12 (s11.1 b 12)) fun s12 => sp (sI s12 a 13 (s12.1 b 13)) fun s13 => ru s13
theorem c111 {L : Nat} {xs : Nat → Int32} {a : Nat} {b : Nat} (ma : a ∈ A9) (mb : b ∈ A9) {s : mS} {r : mQ} (h : q111 a b s = some r) : ∀ d, 1 ≤ d → Cl L xs d 111 [.ref a, .ref b] (hp s) (hr r) := by
  intro d hd
  show Ev L xs d 111 0 [(0, .ref a), (1, .ref b)] [] (hp s) (hr r)
  unfold q111 at h
  refine Ev.aload_n H111 i111_0 rfl ?_
  refine Rd.getR H111 i111_1 (ob9 ma) rfl ?_
  refine Ev.aload_n H111 i111_4 rfl ?_
  refine Rd.getR H111 i111_5 (ob9 mb) rfl ?_
  refine Rd.cV1uN H111 i111_8 cal1 (ob0 (m9_0_1 ma)) (Nat.le_of_ble_eq_true rfl) (Nat.le_of_ble_eq_true rfl) (Nat.lt_of_lt_of_le (by decide) hd) (fun q hq => c1 (m9_0_1 ma) (m9_0_1 mb) hq) h (fun s1 h => ?_)
  refine Ev.aload_n H111 i111_11 rfl ?_
  refine Rd.getR H111 i111_12 (ob9 ma) rfl ?_
  refine Ev.aload_n H111 i111_15 rfl ?_
  refine Rd.getR H111 i111_16 (ob9 mb) rfl ?_
  refine Rd.cV1uN H111 i111_19 cal63 (ob6 (m9_6_6 ma)) (Nat.le_of_ble_eq_true rfl) (Nat.le_of_ble_eq_true rfl) (Nat.lt_of_lt_of_le (by decide) hd) (fun q hq => c63 (m9_6_6 ma) (m9_6_6 mb) hq) h (fun s2 h => ?_)
  refine Ev.aload_n H111 i111_22 rfl ?_
  refine Rd.getR H111 i111_23 (ob9 ma) rfl ?_
  refine Ev.aload_n H111 i111_26 rfl ?_
  refine Rd.getR H111 i111_27 (ob9 mb) rfl ?_
  refine Rd.cV1uN H111 i111_30 cal13 (ob1 (m9_1_18 ma)) (Nat.le_of_ble_eq_true rfl) (Nat.le_of_ble_eq_true rfl) (Nat.lt_of_lt_of_le (by decide) hd) (fun q hq => c13 (m9_1_18 ma) (m9_1_18 mb) hq) h (fun s3 h => ?_)
  refine Ev.aload_n H111 i111_33 rfl ?_
  refine Rd.getR H111 i111_34 (ob9 ma) rfl ?_
  refine Ev.aload_n H111 i111_37 rfl ?_
  refine Rd.getR H111 i111_38 (ob9 mb) rfl ?_
  refine Rd.cV1uN H111 i111_41 cal42 (ob4 (m9_4_26 ma)) (Nat.le_of_ble_eq_true rfl) (Nat.le_of_ble_eq_true rfl) (Nat.lt_of_lt_of_le (by decide) hd) (fun q hq => c42 (m9_4_26 ma) (m9_4_26 mb) hq) h (fun s4 h => ?_)
  refine Ev.aload_n H111 i111_44 rfl ?_
  refine Rd.getR H111 i111_45 (ob9 mb) rfl ?_
  refine Ev.iconst H111 i111_48 kI_0 ?_
  refine Ev.aload_n H111 i111_49 rfl ?_
  refine Rd.getR H111 i111_50 (ob9 ma) rfl ?_
  refine Ev.iconst H111 i111_53 kI_0 ?_
  refine Ev.bipush H111 i111_54 kB_10 ?_
  refine Rd.copy H111 i111_56 (ar9_28 mb) (ar9_28 ma) (Nat.le_of_ble_eq_true rfl) h (fun s5 h => ?_)
  refine Ev.aload_n H111 i111_59 rfl ?_
  refine Rd.getR H111 i111_60 (ob9 mb) rfl ?_
  refine Ev.iconst H111 i111_63 kI_0 ?_
  refine Ev.aload_n H111 i111_64 rfl ?_
  refine Rd.getR H111 i111_65 (ob9 ma) rfl ?_
  refine Ev.iconst H111 i111_68 kI_0 ?_
  refine Ev.bipush H111 i111_69 kB_10 ?_
  refine Rd.copy H111 i111_71 (ar9_29 mb) (ar9_29 ma) (Nat.le_of_ble_eq_true rfl) h (fun s6 h => ?_)
  refine Ev.aload_n H111 i111_74 rfl ?_
  refine Rd.getR H111 i111_75 (ob9 mb) rfl ?_
  refine Ev.iconst H111 i111_78 kI_0 ?_
  refine Ev.aload_n H111 i111_79 rfl ?_
  refine Rd.getR H111 i111_80 (ob9 ma) rfl ?_
  refine Ev.iconst H111 i111_83 kI_0 ?_
  refine Ev.bipush H111 i111_84 kB_10 ?_
  refine Rd.copy H111 i111_86 (ar9_30 mb) (ar9_30 ma) (Nat.le_of_ble_eq_true rfl) h (fun s7 h => ?_)
  refine Ev.aload_n H111 i111_89 rfl ?_
  refine Rd.getR H111 i111_90 (ob9 mb) rfl ?_
  refine Ev.iconst H111 i111_93 kI_0 ?_
  refine Ev.aload_n H111 i111_94 rfl ?_
  refine Rd.getR H111 i111_95 (ob9 ma) rfl ?_
  refine Ev.iconst H111 i111_98 kI_0 ?_
  refine Ev.bipush H111 i111_99 kB_10 ?_
  refine Rd.copy H111 i111_101 (ar9_31 mb) (ar9_31 ma) (Nat.le_of_ble_eq_true rfl) h (fun s8 h => ?_)
  refine Ev.aload_n H111 i111_104 rfl ?_
  refine Ev.aload_n H111 i111_105 rfl ?_
  refine Rd.getI H111 i111_106 (ob9 mb) rfl ?_
  refine Rd.putI H111 i111_109 (ob9 ma) rfl ty9_9.1 ty9_9.2 h (fun s9 h => ?_)
  refine Ev.aload_n H111 i111_112 rfl ?_
  refine Ev.aload_n H111 i111_113 rfl ?_
  refine Rd.getI H111 i111_114 (ob9 mb) rfl ?_
  refine Rd.putI H111 i111_117 (ob9 ma) rfl ty9_10.1 ty9_10.2 h (fun s10 h => ?_)
  refine Ev.aload_n H111 i111_120 rfl ?_
  refine Ev.aload_n H111 i111_121 rfl ?_
  refine Rd.getI H111 i111_122 (ob9 mb) rfl ?_
  refine Rd.putI H111 i111_125 (ob9 ma) rfl ty9_11.1 ty9_11.2 h (fun s11 h => ?_)
  refine Ev.aload_n H111 i111_128 rfl ?_
  refine Ev.aload_n H111 i111_129 rfl ?_
  refine Rd.getI H111 i111_130 (ob9 mb) rfl ?_
  refine Rd.putI H111 i111_133 (ob9 ma) rfl ty9_12.1 ty9_12.2 h (fun s12 h => ?_)
  refine Ev.aload_n H111 i111_136 rfl ?_
  refine Ev.aload_n H111 i111_137 rfl ?_
  refine Rd.getI H111 i111_138 (ob9 mb) rfl ?_
  refine Rd.putI H111 i111_141 (ob9 ma) rfl ty9_13.1 ty9_13.2 h (fun s13 h => ?_)
  exact Rd.return_ H111 i111_144 rfl h
theorem i113_0 : mm_cd 113 0 = some (.aload_n 0, 1, 0, 0) := rfl
theorem i113_1 : mm_cd 113 1 = some (.ldc 118, 2, 1103515245, 0) := rfl
theorem i113_3 : mm_cd 113 3 = some (.aload_n 0, 1, 0, 0) := rfl
theorem i113_4 : mm_cd 113 4 = some (.getfield 62, 3, ((9 : Nat) : Int), 12) := rfl
theorem i113_7 : mm_cd 113 7 = some (.imul, 1, 0, 0) := rfl
theorem i113_8 : mm_cd 113 8 = some (.sipush 12345, 3, 0, 0) := rfl
theorem i113_11 : mm_cd 113 11 = some (.iadd, 1, 0, 0) := rfl
theorem i113_12 : mm_cd 113 12 = some (.putfield 62, 3, ((9 : Nat) : Int), 12) := rfl
theorem i113_15 : mm_cd 113 15 = some (.aload_n 0, 1, 0, 0) := rfl
theorem i113_16 : mm_cd 113 16 = some (.getfield 62, 3, ((9 : Nat) : Int), 12) := rfl
theorem i113_19 : mm_cd 113 19 = some (.bipush 16, 2, 0, 0) := rfl
theorem i113_21 : mm_cd 113 21 = some (.iushr, 1, 0, 0) := rfl
theorem i113_22 : mm_cd 113 22 = some (.sipush 32767, 3, 0, 0) := rfl
theorem i113_25 : mm_cd 113 25 = some (.iand, 1, 0, 0) := rfl
theorem i113_26 : mm_cd 113 26 = some (.ireturn, 1, 0, 0) := rfl
/-- SerialGate$World.draw()I -/
def q113 (a : Nat) (s : mS) : Option mQ := sp (sI s a 12 (((1103515245 : Int32) * (s.1 a 12)) + (12345 : Int32))) fun s1 => rv ((ushI (s1.1 a 12) (16 : Int32)) &&& (32767 : Int32)) s1
theorem c113 {L : Nat} {xs : Nat → Int32} {a : Nat} (ma : a ∈ A9) {s : mS} {r : mQ} (h : q113 a s = some r) : ∀ d, 0 ≤ d → Cl L xs d 113 [.ref a] (hp s) (hr r) := by
  intro d hd
  show Ev L xs d 113 0 [(0, .ref a)] [] (hp s) (hr r)
  unfold q113 at h
  refine Ev.aload_n H113 i113_0 rfl ?_
  refine Ev.ldc H113 i113_1 kI_1103515245 ?_
  refine Ev.aload_n H113 i113_3 rfl ?_
  refine Rd.getI H113 i113_4 (ob9 ma) rfl ?_
  refine Ev.imul H113 i113_7 ?_
  refine Ev.sipush H113 i113_8 kS_12345 ?_
  refine Ev.iadd H113 i113_11 ?_
  refine Rd.putI H113 i113_12 (ob9 ma) rfl ty9_12.1 ty9_12.2 h (fun s1 h => ?_)
  refine Ev.aload_n H113 i113_15 rfl ?_
  refine Rd.getI H113 i113_16 (ob9 ma) rfl ?_
  refine Ev.bipush H113 i113_19 kB_16 ?_
  refine Rd.iushr H113 i113_21 ?_
  refine Ev.sipush H113 i113_22 kS_32767 ?_
  refine Ev.iand H113 i113_25 ?_
  exact Rd.ireturn H113 i113_26 rfl h
theorem i342_0 : mm_cd 342 0 = some (.iload_n 0, 1, 0, 0) := rfl
theorem i342_1 : mm_cd 342 1 = some (.iconst (-1), 1, 0, 0) := rfl
theorem i342_2 : mm_cd 342 2 = some (.ixor, 1, 0, 0) := rfl
theorem i342_3 : mm_cd 342 3 = some (.iload_n 0, 1, 0, 0) := rfl
theorem i342_4 : mm_cd 342 4 = some (.iconst 1, 1, 0, 0) := rfl
theorem i342_5 : mm_cd 342 5 = some (.isub, 1, 0, 0) := rfl
theorem i342_6 : mm_cd 342 6 = some (.iand, 1, 0, 0) := rfl
theorem i342_7 : mm_cd 342 7 = some (.istore_n 0, 1, 0, 0) := rfl
theorem i342_8 : mm_cd 342 8 = some (.iload_n 0, 1, 0, 0) := rfl
theorem i342_9 : mm_cd 342 9 = some (.ifCond .gt 8, 3, 0, 0) := rfl
theorem i342_12 : mm_cd 342 12 = some (.iload_n 0, 1, 0, 0) := rfl
theorem i342_13 : mm_cd 342 13 = some (.bipush 32, 2, 0, 0) := rfl
theorem i342_15 : mm_cd 342 15 = some (.iand, 1, 0, 0) := rfl
theorem i342_16 : mm_cd 342 16 = some (.ireturn, 1, 0, 0) := rfl
theorem i342_17 : mm_cd 342 17 = some (.iconst 1, 1, 0, 0) := rfl
theorem i342_18 : mm_cd 342 18 = some (.istore_n 1, 1, 0, 0) := rfl
theorem i342_19 : mm_cd 342 19 = some (.iload_n 0, 1, 0, 0) := rfl
theorem i342_20 : mm_cd 342 20 = some (.ldc_w 264, 3, 65536, 0) := rfl
theorem i342_23 : mm_cd 342 23 = some (.if_icmp .le 11, 3, 0, 0) := rfl
theorem i342_26 : mm_cd 342 26 = some (.iinc 1 16, 3, 0, 0) := rfl
theorem i342_29 : mm_cd 342 29 = some (.iload_n 0, 1, 0, 0) := rfl
theorem i342_30 : mm_cd 342 30 = some (.bipush 16, 2, 0, 0) := rfl
theorem i342_32 : mm_cd 342 32 = some (.iushr, 1, 0, 0) := rfl
theorem i342_33 : mm_cd 342 33 = some (.istore_n 0, 1, 0, 0) := rfl
theorem i342_34 : mm_cd 342 34 = some (.iload_n 0, 1, 0, 0) := rfl
theorem i342_35 : mm_cd 342 35 = some (.sipush 256, 3, 0, 0) := rfl
theorem i342_38 : mm_cd 342 38 = some (.if_icmp .le 11, 3, 0, 0) := rfl
theorem i342_41 : mm_cd 342 41 = some (.iinc 1 8, 3, 0, 0) := rfl
theorem i342_44 : mm_cd 342 44 = some (.iload_n 0, 1, 0, 0) := rfl
theorem i342_45 : mm_cd 342 45 = some (.bipush 8, 2, 0, 0) := rfl
theorem i342_47 : mm_cd 342 47 = some (.iushr, 1, 0, 0) := rfl
theorem i342_48 : mm_cd 342 48 = some (.istore_n 0, 1, 0, 0) := rfl
theorem i342_49 : mm_cd 342 49 = some (.iload_n 0, 1, 0, 0) := rfl
theorem i342_50 : mm_cd 342 50 = some (.bipush 16, 2, 0, 0) := rfl
theorem i342_52 : mm_cd 342 52 = some (.if_icmp .le 10, 3, 0, 0) := rfl
theorem i342_55 : mm_cd 342 55 = some (.iinc 1 4, 3, 0, 0) := rfl
theorem i342_58 : mm_cd 342 58 = some (.iload_n 0, 1, 0, 0) := rfl
theorem i342_59 : mm_cd 342 59 = some (.iconst 4, 1, 0, 0) := rfl
theorem i342_60 : mm_cd 342 60 = some (.iushr, 1, 0, 0) := rfl
theorem i342_61 : mm_cd 342 61 = some (.istore_n 0, 1, 0, 0) := rfl
theorem i342_62 : mm_cd 342 62 = some (.iload_n 0, 1, 0, 0) := rfl
theorem i342_63 : mm_cd 342 63 = some (.iconst 4, 1, 0, 0) := rfl
theorem i342_64 : mm_cd 342 64 = some (.if_icmp .le 10, 3, 0, 0) := rfl
theorem i342_67 : mm_cd 342 67 = some (.iinc 1 2, 3, 0, 0) := rfl
theorem i342_70 : mm_cd 342 70 = some (.iload_n 0, 1, 0, 0) := rfl
theorem i342_71 : mm_cd 342 71 = some (.iconst 2, 1, 0, 0) := rfl
theorem i342_72 : mm_cd 342 72 = some (.iushr, 1, 0, 0) := rfl
theorem i342_73 : mm_cd 342 73 = some (.istore_n 0, 1, 0, 0) := rfl
theorem i342_74 : mm_cd 342 74 = some (.iload_n 1, 1, 0, 0) := rfl
theorem i342_75 : mm_cd 342 75 = some (.iload_n 0, 1, 0, 0) := rfl
theorem i342_76 : mm_cd 342 76 = some (.iconst 1, 1, 0, 0) := rfl
theorem i342_77 : mm_cd 342 77 = some (.iushr, 1, 0, 0) := rfl
theorem i342_78 : mm_cd 342 78 = some (.iadd, 1, 0, 0) := rfl
theorem i342_79 : mm_cd 342 79 = some (.ireturn, 1, 0, 0) := rfl
def q342_74 (v0 : Int32) (v1 : Int32) (s : mS) : Option mQ := rv (v1 + (ushI v0 (1 : Int32))) s
theorem t342_74 {L : Nat} {xs : Nat → Int32} {d : Nat} (hd : 0 ≤ d) {v0 : Int32} {v1 : Int32} {s : mS} {r : mQ} (h : q342_74 v0 v1 s = some r) : Ev L xs d 342 74 [(0, .int v0), (1, .int v1)] [] (hp s) (hr r) := by
  unfold q342_74 at h
  refine Ev.iload_n H342 i342_74 rfl ?_
  refine Ev.iload_n H342 i342_75 rfl ?_
  refine Ev.iconst H342 i342_76 kI_1 ?_
  refine Rd.iushr H342 i342_77 ?_
  refine Ev.iadd H342 i342_78 ?_
  exact Rd.ireturn H342 i342_79 rfl h
def q342_62 (v0 : Int32) (v1 : Int32) (s : mS) : Option mQ := if v0 ≤ (4 : Int32) then (q342_74 v0 v1 s) else (bx (v1 + (2 : Int32)) fun x1 => bx (ushI v0 (2 : Int32)) fun x2 => q342_74 x2 x1 s)
theorem t342_62 {L : Nat} {xs : Nat → Int32} {d : Nat} (hd : 0 ≤ d) {v0 : Int32} {v1 : Int32} {s : mS} {r : mQ} (h : q342_62 v0 v1 s = some r) : Ev L xs d 342 62 [(0, .int v0), (1, .int v1)] [] (hp s) (hr r) := by
  unfold q342_62 at h
  refine Ev.iload_n H342 i342_62 rfl ?_
  refine Ev.iconst H342 i342_63 kI_4 ?_
  refine Rd.ic_le H342 i342_64 (t := 74) (by decide) h (fun hc h => ?_) (fun hc h => ?_)
  · exact Ev.sub (l := [(0, .int v0), (1, .int v1)]) rfl rfl (mm_sub_c rfl (mm_sub_c rfl mm_sub_n)) (t342_74 hd h)
  · refine Rd.iinc H342 i342_67 (Nat.le_of_ble_eq_true rfl) rfl kI_2 (lv2 := fun x1 => [(1, .int x1), (0, .int v0)]) (fun _ => rfl) h (fun x1 h => ?_)
    refine Ev.iload_n H342 i342_70 rfl ?_
    refine Ev.iconst H342 i342_71 kI_2 ?_
    refine Rd.iushr H342 i342_72 ?_
    refine Rd.istore_n H342 i342_73 (Nat.le_of_ble_eq_true rfl) (lv2 := fun x2 => [(0, .int x2), (1, .int x1)]) (fun _ => rfl) h (fun x2 h => ?_)
    exact Ev.sub (l := [(0, .int x2), (1, .int x1)]) rfl rfl (mm_sub_c rfl (mm_sub_c rfl mm_sub_n)) (t342_74 hd h)
def q342_49 (v0 : Int32) (v1 : Int32) (s : mS) : Option mQ := if v0 ≤ (16 : Int32) then (q342_62 v0 v1 s) else (bx (v1 + (4 : Int32)) fun x3 => bx (ushI v0 (4 : Int32)) fun x4 => q342_62 x4 x3 s)
theorem t342_49 {L : Nat} {xs : Nat → Int32} {d : Nat} (hd : 0 ≤ d) {v0 : Int32} {v1 : Int32} {s : mS} {r : mQ} (h : q342_49 v0 v1 s = some r) : Ev L xs d 342 49 [(0, .int v0), (1, .int v1)] [] (hp s) (hr r) := by
  unfold q342_49 at h
  refine Ev.iload_n H342 i342_49 rfl ?_
  refine Ev.bipush H342 i342_50 kB_16 ?_
  refine Rd.ic_le H342 i342_52 (t := 62) (by decide) h (fun hc h => ?_) (fun hc h => ?_)
  · exact Ev.sub (l := [(0, .int v0), (1, .int v1)]) rfl rfl (mm_sub_c rfl (mm_sub_c rfl mm_sub_n)) (t342_62 hd h)
  · refine Rd.iinc H342 i342_55 (Nat.le_of_ble_eq_true rfl) rfl kI_4 (lv2 := fun x3 => [(1, .int x3), (0, .int v0)]) (fun _ => rfl) h (fun x3 h => ?_)
    refine Ev.iload_n H342 i342_58 rfl ?_
    refine Ev.iconst H342 i342_59 kI_4 ?_
    refine Rd.iushr H342 i342_60 ?_
    refine Rd.istore_n H342 i342_61 (Nat.le_of_ble_eq_true rfl) (lv2 := fun x4 => [(0, .int x4), (1, .int x3)]) (fun _ => rfl) h (fun x4 h => ?_)
    exact Ev.sub (l := [(0, .int x4), (1, .int x3)]) rfl rfl (mm_sub_c rfl (mm_sub_c rfl mm_sub_n)) (t342_62 hd h)
def q342_34 (v0 : Int32) (v1 : Int32) (s : mS) : Option mQ := if v0 ≤ (256 : Int32) then (q342_49 v0 v1 s) else (bx (v1 + (8 : Int32)) fun x5 => bx (ushI v0 (8 : Int32)) fun x6 => q342_49 x6 x5 s)
theorem t342_34 {L : Nat} {xs : Nat → Int32} {d : Nat} (hd : 0 ≤ d) {v0 : Int32} {v1 : Int32} {s : mS} {r : mQ} (h : q342_34 v0 v1 s = some r) : Ev L xs d 342 34 [(0, .int v0), (1, .int v1)] [] (hp s) (hr r) := by
  unfold q342_34 at h
  refine Ev.iload_n H342 i342_34 rfl ?_
  refine Ev.sipush H342 i342_35 kS_256 ?_
  refine Rd.ic_le H342 i342_38 (t := 49) (by decide) h (fun hc h => ?_) (fun hc h => ?_)
  · exact Ev.sub (l := [(0, .int v0), (1, .int v1)]) rfl rfl (mm_sub_c rfl (mm_sub_c rfl mm_sub_n)) (t342_49 hd h)
  · refine Rd.iinc H342 i342_41 (Nat.le_of_ble_eq_true rfl) rfl kI_8 (lv2 := fun x5 => [(1, .int x5), (0, .int v0)]) (fun _ => rfl) h (fun x5 h => ?_)
    refine Ev.iload_n H342 i342_44 rfl ?_
    refine Ev.bipush H342 i342_45 kB_8 ?_
    refine Rd.iushr H342 i342_47 ?_
    refine Rd.istore_n H342 i342_48 (Nat.le_of_ble_eq_true rfl) (lv2 := fun x6 => [(0, .int x6), (1, .int x5)]) (fun _ => rfl) h (fun x6 h => ?_)
    exact Ev.sub (l := [(0, .int x6), (1, .int x5)]) rfl rfl (mm_sub_c rfl (mm_sub_c rfl mm_sub_n)) (t342_49 hd h)
/-- java/lang/Integer.numberOfTrailingZeros(I)I -/
def q342 (v0 : Int32) (s : mS) : Option mQ := bx ((v0 ^^^ (-1 : Int32)) &&& (v0 - (1 : Int32))) fun x7 => if 0 < x7 then (if x7 ≤ (65536 : Int32) then (q342_34 x7 (1 : Int32) s) else (bx ((1 : Int32) + (16 : Int32)) fun x8 => bx (ushI x7 (16 : Int32)) fun x9 => q342_34 x9 x8 s)) else (rv (x7 &&& (32 : Int32)) s)
theorem c342 {L : Nat} {xs : Nat → Int32} {v0 : Int32} {s : mS} {r : mQ} (h : q342 v0 s = some r) : ∀ d, 0 ≤ d → Cl L xs d 342 [.int v0] (hp s) (hr r) := by
  intro d hd
  show Ev L xs d 342 0 [(0, .int v0)] [] (hp s) (hr r)
  unfold q342 at h
  refine Ev.iload_n H342 i342_0 rfl ?_
  refine Ev.iconst H342 i342_1 kI_m1 ?_
  refine Ev.ixor H342 i342_2 ?_
  refine Ev.iload_n H342 i342_3 rfl ?_
  refine Ev.iconst H342 i342_4 kI_1 ?_
  refine Ev.isub H342 i342_5 ?_
  refine Ev.iand H342 i342_6 ?_
  refine Rd.istore_n H342 i342_7 (Nat.le_of_ble_eq_true rfl) (lv2 := fun x7 => [(0, .int x7)]) (fun _ => rfl) h (fun x7 h => ?_)
  refine Ev.iload_n H342 i342_8 rfl ?_
  refine Rd.if_gt H342 i342_9 (t := 17) (by decide) h (fun hc h => ?_) (fun hc h => ?_)
  · refine Ev.iconst H342 i342_17 kI_1 ?_
    refine Ev.istore_n H342 i342_18 (Nat.le_of_ble_eq_true rfl) (lv2 := [(1, .int (1 : Int32)), (0, .int x7)]) rfl ?_
    refine Ev.iload_n H342 i342_19 rfl ?_
    refine Ev.ldc_w H342 i342_20 kI_65536 ?_
    refine Rd.ic_le H342 i342_23 (t := 34) (by decide) h (fun hc h => ?_) (fun hc h => ?_)
    · exact Ev.sub (l := [(0, .int x7), (1, .int (1 : Int32))]) rfl rfl (mm_sub_c rfl (mm_sub_c rfl mm_sub_n)) (t342_34 hd h)
    · refine Rd.iinc H342 i342_26 (Nat.le_of_ble_eq_true rfl) rfl kI_16 (lv2 := fun x8 => [(1, .int x8), (0, .int x7)]) (fun _ => rfl) h (fun x8 h => ?_)
      refine Ev.iload_n H342 i342_29 rfl ?_
      refine Ev.bipush H342 i342_30 kB_16 ?_
      refine Rd.iushr H342 i342_32 ?_
      refine Rd.istore_n H342 i342_33 (Nat.le_of_ble_eq_true rfl) (lv2 := fun x9 => [(0, .int x9), (1, .int x8)]) (fun _ => rfl) h (fun x9 h => ?_)
      exact Ev.sub (l := [(0, .int x9), (1, .int x8)]) rfl rfl (mm_sub_c rfl (mm_sub_c rfl mm_sub_n)) (t342_34 hd h)
  · refine Ev.iload_n H342 i342_12 rfl ?_
    refine Ev.bipush H342 i342_13 kB_32 ?_
    refine Ev.iand H342 i342_15 ?_
    exact Rd.ireturn H342 i342_16 rfl h
theorem i114_0 : mm_cd 114 0 = some (.aload_n 0, 1, 0, 0) := rfl
theorem i114_1 : mm_cd 114 1 = some (.getfield 21, 3, ((9 : Nat) : Int), 2) := rfl
theorem i114_4 : mm_cd 114 4 = some (.iload_n 1, 1, 0, 0) := rfl
theorem i114_5 : mm_cd 114 5 = some (.invokevirtual 98, 3, 0, 71) := rfl
theorem i114_8 : mm_cd 114 8 = some (.istore_n 2, 1, 0, 0) := rfl
theorem i114_9 : mm_cd 114 9 = some (.iload_n 2, 1, 0, 0) := rfl
theorem i114_10 : mm_cd 114 10 = some (.iconst (-1), 1, 0, 0) := rfl
theorem i114_11 : mm_cd 114 11 = some (.if_icmp .ne 5, 3, 0, 0) := rfl
theorem i114_14 : mm_cd 114 14 = some (.iconst 0, 1, 0, 0) := rfl
theorem i114_15 : mm_cd 114 15 = some (.ireturn, 1, 0, 0) := rfl
theorem i114_16 : mm_cd 114 16 = some (.aload_n 0, 1, 0, 0) := rfl
theorem i114_17 : mm_cd 114 17 = some (.getfield 12, 3, ((9 : Nat) : Int), 1) := rfl
theorem i114_20 : mm_cd 114 20 = some (.getfield 119, 3, ((0 : Nat) : Int), 2) := rfl
theorem i114_23 : mm_cd 114 23 = some (.iload_n 1, 1, 0, 0) := rfl
theorem i114_24 : mm_cd 114 24 = some (.iaload, 1, 0, 0) := rfl
theorem i114_25 : mm_cd 114 25 = some (.aload_n 0, 1, 0, 0) := rfl
theorem i114_26 : mm_cd 114 26 = some (.getfield 21, 3, ((9 : Nat) : Int), 2) := rfl
theorem i114_29 : mm_cd 114 29 = some (.getfield 122, 3, ((6 : Nat) : Int), 7) := rfl
theorem i114_32 : mm_cd 114 32 = some (.iload_n 2, 1, 0, 0) := rfl
theorem i114_33 : mm_cd 114 33 = some (.iaload, 1, 0, 0) := rfl
theorem i114_34 : mm_cd 114 34 = some (.iconst (-1), 1, 0, 0) := rfl
theorem i114_35 : mm_cd 114 35 = some (.ixor, 1, 0, 0) := rfl
theorem i114_36 : mm_cd 114 36 = some (.iand, 1, 0, 0) := rfl
theorem i114_37 : mm_cd 114 37 = some (.istore_n 3, 1, 0, 0) := rfl
theorem i114_38 : mm_cd 114 38 = some (.iload_n 3, 1, 0, 0) := rfl
theorem i114_39 : mm_cd 114 39 = some (.ifCond .eq 11, 3, 0, 0) := rfl
theorem i114_42 : mm_cd 114 42 = some (.bipush 100, 2, 0, 0) := rfl
theorem i114_44 : mm_cd 114 44 = some (.iload_n 3, 1, 0, 0) := rfl
theorem i114_45 : mm_cd 114 45 = some (.invokestatic 125, 3, 0, 342) := rfl
theorem i114_48 : mm_cd 114 48 = some (.iadd, 1, 0, 0) := rfl
theorem i114_49 : mm_cd 114 49 = some (.ireturn, 1, 0, 0) := rfl
theorem i114_50 : mm_cd 114 50 = some (.aload_n 0, 1, 0, 0) := rfl
theorem i114_51 : mm_cd 114 51 = some (.getfield 12, 3, ((9 : Nat) : Int), 1) := rfl
theorem i114_54 : mm_cd 114 54 = some (.getfield 130, 3, ((0 : Nat) : Int), 3) := rfl
theorem i114_57 : mm_cd 114 57 = some (.iload_n 1, 1, 0, 0) := rfl
theorem i114_58 : mm_cd 114 58 = some (.iaload, 1, 0, 0) := rfl
theorem i114_59 : mm_cd 114 59 = some (.aload_n 0, 1, 0, 0) := rfl
theorem i114_60 : mm_cd 114 60 = some (.getfield 21, 3, ((9 : Nat) : Int), 2) := rfl
theorem i114_63 : mm_cd 114 63 = some (.getfield 133, 3, ((6 : Nat) : Int), 9) := rfl
theorem i114_66 : mm_cd 114 66 = some (.iload_n 2, 1, 0, 0) := rfl
theorem i114_67 : mm_cd 114 67 = some (.iaload, 1, 0, 0) := rfl
theorem i114_68 : mm_cd 114 68 = some (.iconst (-1), 1, 0, 0) := rfl
theorem i114_69 : mm_cd 114 69 = some (.ixor, 1, 0, 0) := rfl
theorem i114_70 : mm_cd 114 70 = some (.iand, 1, 0, 0) := rfl
theorem i114_71 : mm_cd 114 71 = some (.istore 4, 2, 0, 0) := rfl
theorem i114_73 : mm_cd 114 73 = some (.iload 4, 2, 0, 0) := rfl
theorem i114_75 : mm_cd 114 75 = some (.ifCond .ne 9, 3, 0, 0) := rfl
theorem i114_78 : mm_cd 114 78 = some (.sipush 300, 3, 0, 0) := rfl
theorem i114_81 : mm_cd 114 81 = some (.goto 12, 3, 0, 0) := rfl
theorem i114_84 : mm_cd 114 84 = some (.sipush 200, 3, 0, 0) := rfl
theorem i114_87 : mm_cd 114 87 = some (.iload 4, 2, 0, 0) := rfl
theorem i114_89 : mm_cd 114 89 = some (.invokestatic 125, 3, 0, 342) := rfl
theorem i114_92 : mm_cd 114 92 = some (.iadd, 1, 0, 0) := rfl
theorem i114_93 : mm_cd 114 93 = some (.ireturn, 1, 0, 0) := rfl
/-- SerialGate$World.stepOf(I)I -/
def q114 (a : Nat) (v1 : Int32) (s : mS) : Option mQ := bN (q71 (a + 6) v1 s) fun x2 s1 => if ¬ x2 = (-1 : Int32) then (gA 5 v1 <| gA 8 x2 <| bx ((s1.1 ((a + 1) + 1) v1.toNatClampNeg) &&& ((s1.1 ((a + 6) + 4) x2.toNatClampNeg) ^^^ (-1 : Int32))) fun x3 => if x3 = 0 then (gA 5 v1 <| gA 8 x2 <| bx ((s1.1 ((a + 1) + 2) v1.toNatClampNeg) &&& ((s1.1 ((a + 6) + 6) x2.toNatClampNeg) ^^^ (-1 : Int32))) fun x4 => if ¬ x4 = 0 then (bN (q342 x4 s1) fun x6 s5 => rv ((200 : Int32) + x6) s5) else (rv (300 : Int32) s1)) else (bN (q342 x3 s1) fun x8 s7 => rv ((100 : Int32) + x8) s7)) else (rv (0 : Int32) s1)
theorem c114 {L : Nat} {xs : Nat → Int32} {a : Nat} (ma : a ∈ A9) {v1 : Int32} {s : mS} {r : mQ} (h : q114 a v1 s = some r) : ∀ d, 1 ≤ d → Cl L xs d 114 [.ref a, .int v1] (hp s) (hr r) := by
  intro d hd
  show Ev L xs d 114 0 [(0, .ref a), (1, .int v1)] [] (hp s) (hr r)
  unfold q114 at h
  refine Ev.aload_n H114 i114_0 rfl ?_
  refine Rd.getR H114 i114_1 (ob9 ma) rfl ?_
  refine Ev.iload_n H114 i114_4 rfl ?_
  refine Rd.cV1vN H114 i114_5 cal71 (ob6 (m9_6_6 ma)) (Nat.le_of_ble_eq_true rfl) (Nat.le_of_ble_eq_true rfl) (Nat.lt_of_lt_of_le (by decide) hd) (fun q hq => c71 (m9_6_6 ma) hq) h (fun x2 s1 h => ?_)
  refine Ev.istore_n H114 i114_8 (Nat.le_of_ble_eq_true rfl) (lv2 := [(2, .int x2), (0, .ref a), (1, .int v1)]) rfl ?_
  refine Ev.iload_n H114 i114_9 rfl ?_
  refine Ev.iconst H114 i114_10 kI_m1 ?_
  refine Rd.ic_ne H114 i114_11 (t := 16) (by decide) h (fun hc h => ?_) (fun hc h => ?_)
  · refine Ev.aload_n H114 i114_16 rfl ?_
    refine Rd.getR H114 i114_17 (ob9 ma) rfl ?_
    refine Rd.getR H114 i114_20 (ob0 (m9_0_1 ma)) rfl ?_
    refine Ev.iload_n H114 i114_23 rfl ?_
    refine Rd.iaload H114 i114_24 (ar0_1 (m9_0_1 ma)) h (fun h => ?_)
    refine Ev.aload_n H114 i114_25 rfl ?_
    refine Rd.getR H114 i114_26 (ob9 ma) rfl ?_
    refine Rd.getR H114 i114_29 (ob6 (m9_6_6 ma)) rfl ?_
    refine Ev.iload_n H114 i114_32 rfl ?_
    refine Rd.iaload H114 i114_33 (ar6_4 (m9_6_6 ma)) h (fun h => ?_)
    refine Ev.iconst H114 i114_34 kI_m1 ?_
    refine Ev.ixor H114 i114_35 ?_
    refine Ev.iand H114 i114_36 ?_
    refine Rd.istore_n H114 i114_37 (Nat.le_of_ble_eq_true rfl) (lv2 := fun x3 => [(3, .int x3), (2, .int x2), (0, .ref a), (1, .int v1)]) (fun _ => rfl) h (fun x3 h => ?_)
    refine Ev.iload_n H114 i114_38 rfl ?_
    refine Rd.if_eq H114 i114_39 (t := 50) (by decide) h (fun hc h => ?_) (fun hc h => ?_)
    · refine Ev.aload_n H114 i114_50 rfl ?_
      refine Rd.getR H114 i114_51 (ob9 ma) rfl ?_
      refine Rd.getR H114 i114_54 (ob0 (m9_0_1 ma)) rfl ?_
      refine Ev.iload_n H114 i114_57 rfl ?_
      refine Rd.iaload H114 i114_58 (ar0_2 (m9_0_1 ma)) h (fun h => ?_)
      refine Ev.aload_n H114 i114_59 rfl ?_
      refine Rd.getR H114 i114_60 (ob9 ma) rfl ?_
      refine Rd.getR H114 i114_63 (ob6 (m9_6_6 ma)) rfl ?_
      refine Ev.iload_n H114 i114_66 rfl ?_
      refine Rd.iaload H114 i114_67 (ar6_6 (m9_6_6 ma)) h (fun h => ?_)
      refine Ev.iconst H114 i114_68 kI_m1 ?_
      refine Ev.ixor H114 i114_69 ?_
      refine Ev.iand H114 i114_70 ?_
      refine Rd.istore H114 i114_71 (Nat.le_of_ble_eq_true rfl) (lv2 := fun x4 => [(4, .int x4), (3, .int x3), (2, .int x2), (0, .ref a), (1, .int v1)]) (fun _ => rfl) h (fun x4 h => ?_)
      refine Ev.iload H114 i114_73 rfl ?_
      refine Rd.if_ne H114 i114_75 (t := 84) (by decide) h (fun hc h => ?_) (fun hc h => ?_)
      · refine Ev.sipush H114 i114_84 kS_200 ?_
        refine Ev.iload H114 i114_87 rfl ?_
        refine Rd.cS1vN H114 i114_89 cal342 (Nat.le_of_ble_eq_true rfl) (Nat.le_of_ble_eq_true rfl) (Nat.lt_of_lt_of_le (by decide) hd) (fun q hq => c342 hq) h (fun x6 s5 h => ?_)
        refine Ev.iadd H114 i114_92 ?_
        exact Rd.ireturn H114 i114_93 rfl h
      · refine Ev.sipush H114 i114_78 kS_300 ?_
        refine Ev.goto H114 i114_81 (t := 93) (by decide) ?_
        exact Rd.ireturn H114 i114_93 rfl h
    · refine Ev.bipush H114 i114_42 kB_100 ?_
      refine Ev.iload_n H114 i114_44 rfl ?_
      refine Rd.cS1vN H114 i114_45 cal342 (Nat.le_of_ble_eq_true rfl) (Nat.le_of_ble_eq_true rfl) (Nat.lt_of_lt_of_le (by decide) hd) (fun q hq => c342 hq) h (fun x8 s7 h => ?_)
      refine Ev.iadd H114 i114_48 ?_
      exact Rd.ireturn H114 i114_49 rfl h
  · refine Ev.iconst H114 i114_14 kI_0 ?_
    exact Rd.ireturn H114 i114_15 rfl h
theorem i115_0 : mm_cd 115 0 = some (.aload_n 0, 1, 0, 0) := rfl
theorem i115_1 : mm_cd 115 1 = some (.getfield 21, 3, ((9 : Nat) : Int), 2) := rfl
theorem i115_4 : mm_cd 115 4 = some (.invokevirtual 136, 3, 0, 70) := rfl
theorem i115_7 : mm_cd 115 7 = some (.istore_n 2, 1, 0, 0) := rfl
theorem i115_8 : mm_cd 115 8 = some (.iload_n 2, 1, 0, 0) := rfl
theorem i115_9 : mm_cd 115 9 = some (.iconst (-1), 1, 0, 0) := rfl
theorem i115_10 : mm_cd 115 10 = some (.if_icmp .ne 5, 3, 0, 0) := rfl
theorem i115_13 : mm_cd 115 13 = some (.iconst (-1), 1, 0, 0) := rfl
theorem i115_14 : mm_cd 115 14 = some (.ireturn, 1, 0, 0) := rfl
theorem i115_15 : mm_cd 115 15 = some (.aload_n 0, 1, 0, 0) := rfl
theorem i115_16 : mm_cd 115 16 = some (.dup, 1, 0, 0) := rfl
theorem i115_17 : mm_cd 115 17 = some (.getfield 52, 3, ((9 : Nat) : Int), 9) := rfl
theorem i115_20 : mm_cd 115 20 = some (.iconst 1, 1, 0, 0) := rfl
theorem i115_21 : mm_cd 115 21 = some (.iadd, 1, 0, 0) := rfl
theorem i115_22 : mm_cd 115 22 = some (.putfield 52, 3, ((9 : Nat) : Int), 9) := rfl
theorem i115_25 : mm_cd 115 25 = some (.aload_n 0, 1, 0, 0) := rfl
theorem i115_26 : mm_cd 115 26 = some (.getfield 21, 3, ((9 : Nat) : Int), 2) := rfl
theorem i115_29 : mm_cd 115 29 = some (.iload_n 2, 1, 0, 0) := rfl
theorem i115_30 : mm_cd 115 30 = some (.iload_n 1, 1, 0, 0) := rfl
theorem i115_31 : mm_cd 115 31 = some (.aload_n 0, 1, 0, 0) := rfl
theorem i115_32 : mm_cd 115 32 = some (.getfield 12, 3, ((9 : Nat) : Int), 1) := rfl
theorem i115_35 : mm_cd 115 35 = some (.iload_n 1, 1, 0, 0) := rfl
theorem i115_36 : mm_cd 115 36 = some (.invokevirtual 139, 3, 0, 3) := rfl
theorem i115_39 : mm_cd 115 39 = some (.aload_n 0, 1, 0, 0) := rfl
theorem i115_40 : mm_cd 115 40 = some (.getfield 52, 3, ((9 : Nat) : Int), 9) := rfl
theorem i115_43 : mm_cd 115 43 = some (.invokevirtual 143, 3, 0, 78) := rfl
theorem i115_46 : mm_cd 115 46 = some (.aload_n 0, 1, 0, 0) := rfl
theorem i115_47 : mm_cd 115 47 = some (.getfield 39, 3, ((9 : Nat) : Int), 5) := rfl
theorem i115_50 : mm_cd 115 50 = some (.iconst 0, 1, 0, 0) := rfl
theorem i115_51 : mm_cd 115 51 = some (.aload_n 0, 1, 0, 0) := rfl
theorem i115_52 : mm_cd 115 52 = some (.getfield 21, 3, ((9 : Nat) : Int), 2) := rfl
theorem i115_55 : mm_cd 115 55 = some (.getfield 147, 3, ((6 : Nat) : Int), 14) := rfl
theorem i115_58 : mm_cd 115 58 = some (.iload_n 2, 1, 0, 0) := rfl
theorem i115_59 : mm_cd 115 59 = some (.bipush 10, 2, 0, 0) := rfl
theorem i115_61 : mm_cd 115 61 = some (.imul, 1, 0, 0) := rfl
theorem i115_62 : mm_cd 115 62 = some (.bipush 10, 2, 0, 0) := rfl
theorem i115_64 : mm_cd 115 64 = some (.invokestatic 85, 3, 1, 0) := rfl
theorem i115_67 : mm_cd 115 67 = some (.iload_n 2, 1, 0, 0) := rfl
theorem i115_68 : mm_cd 115 68 = some (.ireturn, 1, 0, 0) := rfl
/-- SerialGate$World.start(I)I -/
def q115 (a : Nat) (v1 : Int32) (s : mS) : Option mQ := bN (q70 (a + 6) s) fun x2 s1 => if ¬ x2 = (-1 : Int32) then (sp (sI s1 a 9 ((s1.1 a 9) + (1 : Int32))) fun s3 => bN (q3 (a + 1) v1 s3) fun x5 s4 => bM (q78 (a + 6) x2 v1 x5 (s4.1 a 9) s4) fun s6 => gC 10 80 (0 : Int32) (x2 * (10 : Int32)) (10 : Int32) <| sp (sC s6 (a + 28) ((a + 6) + 11) (0 : Int32).toNatClampNeg (x2 * (10 : Int32)).toNatClampNeg (10 : Int32).toNatClampNeg) fun s7 => rv x2 s7) else (rv (-1 : Int32) s1)
theorem c115 {L : Nat} {xs : Nat → Int32} {a : Nat} (ma : a ∈ A9) {v1 : Int32} {s : mS} {r : mQ} (h : q115 a v1 s = some r) : ∀ d, 2 ≤ d → Cl L xs d 115 [.ref a, .int v1] (hp s) (hr r) := by
  intro d hd
  show Ev L xs d 115 0 [(0, .ref a), (1, .int v1)] [] (hp s) (hr r)
  unfold q115 at h
  refine Ev.aload_n H115 i115_0 rfl ?_
  refine Rd.getR H115 i115_1 (ob9 ma) rfl ?_
  refine Rd.cV0vN H115 i115_4 cal70 (ob6 (m9_6_6 ma)) (Nat.le_of_ble_eq_true rfl) (Nat.le_of_ble_eq_true rfl) (Nat.lt_of_lt_of_le (by decide) hd) (fun q hq => c70 (m9_6_6 ma) hq) h (fun x2 s1 h => ?_)
  refine Ev.istore_n H115 i115_7 (Nat.le_of_ble_eq_true rfl) (lv2 := [(2, .int x2), (0, .ref a), (1, .int v1)]) rfl ?_
  refine Ev.iload_n H115 i115_8 rfl ?_
  refine Ev.iconst H115 i115_9 kI_m1 ?_
  refine Rd.ic_ne H115 i115_10 (t := 15) (by decide) h (fun hc h => ?_) (fun hc h => ?_)
  · refine Ev.aload_n H115 i115_15 rfl ?_
    refine Ev.dup H115 i115_16 rfl ?_
    refine Rd.getI H115 i115_17 (ob9 ma) rfl ?_
    refine Ev.iconst H115 i115_20 kI_1 ?_
    refine Ev.iadd H115 i115_21 ?_
    refine Rd.putI H115 i115_22 (ob9 ma) rfl ty9_9.1 ty9_9.2 h (fun s3 h => ?_)
    refine Ev.aload_n H115 i115_25 rfl ?_
    refine Rd.getR H115 i115_26 (ob9 ma) rfl ?_
    refine Ev.iload_n H115 i115_29 rfl ?_
    refine Ev.iload_n H115 i115_30 rfl ?_
    refine Ev.aload_n H115 i115_31 rfl ?_
    refine Rd.getR H115 i115_32 (ob9 ma) rfl ?_
    refine Ev.iload_n H115 i115_35 rfl ?_
    refine Rd.cV1vN H115 i115_36 cal3 (ob0 (m9_0_1 ma)) (Nat.le_of_ble_eq_true rfl) (Nat.le_of_ble_eq_true rfl) (Nat.lt_of_lt_of_le (by decide) hd) (fun q hq => c3 (m9_0_1 ma) hq) h (fun x5 s4 h => ?_)
    refine Ev.aload_n H115 i115_39 rfl ?_
    refine Rd.getI H115 i115_40 (ob9 ma) rfl ?_
    refine Rd.cV4uN H115 i115_43 cal78 (ob6 (m9_6_6 ma)) (Nat.le_of_ble_eq_true rfl) (Nat.le_of_ble_eq_true rfl) (Nat.lt_of_lt_of_le (by decide) hd) (fun q hq => c78 (m9_6_6 ma) hq) h (fun s6 h => ?_)
    refine Ev.aload_n H115 i115_46 rfl ?_
    refine Rd.getR H115 i115_47 (ob9 ma) rfl ?_
    refine Ev.iconst H115 i115_50 kI_0 ?_
    refine Ev.aload_n H115 i115_51 rfl ?_
    refine Rd.getR H115 i115_52 (ob9 ma) rfl ?_
    refine Rd.getR H115 i115_55 (ob6 (m9_6_6 ma)) rfl ?_
    refine Ev.iload_n H115 i115_58 rfl ?_
    refine Ev.bipush H115 i115_59 kB_10 ?_
    refine Ev.imul H115 i115_61 ?_
    refine Ev.bipush H115 i115_62 kB_10 ?_
    refine Rd.copy H115 i115_64 (ar9_28 ma) (ar6_11 (m9_6_6 ma)) (Nat.le_of_ble_eq_true rfl) h (fun s7 h => ?_)
    refine Ev.iload_n H115 i115_67 rfl ?_
    exact Rd.ireturn H115 i115_68 rfl h
  · refine Ev.iconst H115 i115_13 kI_m1 ?_
    exact Rd.ireturn H115 i115_14 rfl h
theorem i119_0 : mm_cd 119 0 = some (.aload_n 0, 1, 0, 0) := rfl
theorem i119_1 : mm_cd 119 1 = some (.getfield 21, 3, ((9 : Nat) : Int), 2) := rfl
theorem i119_4 : mm_cd 119 4 = some (.getfield 197, 3, ((6 : Nat) : Int), 4) := rfl
theorem i119_7 : mm_cd 119 7 = some (.iload_n 1, 1, 0, 0) := rfl
theorem i119_8 : mm_cd 119 8 = some (.iaload, 1, 0, 0) := rfl
theorem i119_9 : mm_cd 119 9 = some (.istore_n 3, 1, 0, 0) := rfl
theorem i119_10 : mm_cd 119 10 = some (.aload_n 0, 1, 0, 0) := rfl
theorem i119_11 : mm_cd 119 11 = some (.getfield 35, 3, ((9 : Nat) : Int), 4) := rfl
theorem i119_14 : mm_cd 119 14 = some (.aload_n 0, 1, 0, 0) := rfl
theorem i119_15 : mm_cd 119 15 = some (.getfield 52, 3, ((9 : Nat) : Int), 9) := rfl
theorem i119_18 : mm_cd 119 18 = some (.iload_n 3, 1, 0, 0) := rfl
theorem i119_19 : mm_cd 119 19 = some (.iload_n 2, 1, 0, 0) := rfl
theorem i119_20 : mm_cd 119 20 = some (.iload_n 1, 1, 0, 0) := rfl
theorem i119_21 : mm_cd 119 21 = some (.invokevirtual 210, 3, 0, 43) := rfl
theorem i119_24 : mm_cd 119 24 = some (.aload_n 0, 1, 0, 0) := rfl
theorem i119_25 : mm_cd 119 25 = some (.getfield 12, 3, ((9 : Nat) : Int), 1) := rfl
theorem i119_28 : mm_cd 119 28 = some (.getfield 203, 3, ((0 : Nat) : Int), 4) := rfl
theorem i119_31 : mm_cd 119 31 = some (.iload_n 3, 1, 0, 0) := rfl
theorem i119_32 : mm_cd 119 32 = some (.bipush 99, 2, 0, 0) := rfl
theorem i119_34 : mm_cd 119 34 = some (.aload_n 0, 1, 0, 0) := rfl
theorem i119_35 : mm_cd 119 35 = some (.getfield 12, 3, ((9 : Nat) : Int), 1) := rfl
theorem i119_38 : mm_cd 119 38 = some (.getfield 203, 3, ((0 : Nat) : Int), 4) := rfl
theorem i119_41 : mm_cd 119 41 = some (.iload_n 3, 1, 0, 0) := rfl
theorem i119_42 : mm_cd 119 42 = some (.iaload, 1, 0, 0) := rfl
theorem i119_43 : mm_cd 119 43 = some (.iconst 1, 1, 0, 0) := rfl
theorem i119_44 : mm_cd 119 44 = some (.iadd, 1, 0, 0) := rfl
theorem i119_45 : mm_cd 119 45 = some (.invokestatic 194, 3, 3, 0) := rfl
theorem i119_48 : mm_cd 119 48 = some (.iastore, 1, 0, 0) := rfl
theorem i119_49 : mm_cd 119 49 = some (.aload_n 0, 1, 0, 0) := rfl
theorem i119_50 : mm_cd 119 50 = some (.getfield 21, 3, ((9 : Nat) : Int), 2) := rfl
theorem i119_53 : mm_cd 119 53 = some (.iload_n 1, 1, 0, 0) := rfl
theorem i119_54 : mm_cd 119 54 = some (.invokevirtual 217, 3, 0, 80) := rfl
theorem i119_57 : mm_cd 119 57 = some (.return_, 1, 0, 0) := rfl
/-- SerialGate$World.drop(II)V -/
def q119 (a : Nat) (v1 : Int32) (v2 : Int32) (s : mS) : Option mQ := gA 8 v1 <| bx (s.1 ((a + 6) + 1) v1.toNatClampNeg) fun x1 => bM (q43 (a + 26) (s.1 a 9) x1 v2 v1 s) fun s2 => gA 5 x1 <| gA 5 x1 <| sp (sI s2 ((a + 1) + 3) x1.toNatClampNeg (mnI (99 : Int32) ((s2.1 ((a + 1) + 3) x1.toNatClampNeg) + (1 : Int32)))) fun s3 => bM (q80 (a + 6) v1 s3) fun s4 => ru s4
theorem c119 {L : Nat} {xs : Nat → Int32} {a : Nat} (ma : a ∈ A9) {v1 : Int32} {v2 : Int32} {s : mS} {r : mQ} (h : q119 a v1 v2 s = some r) : ∀ d, 1 ≤ d → Cl L xs d 119 [.ref a, .int v1, .int v2] (hp s) (hr r) := by
  intro d hd
  show Ev L xs d 119 0 [(0, .ref a), (1, .int v1), (2, .int v2)] [] (hp s) (hr r)
  unfold q119 at h
  refine Ev.aload_n H119 i119_0 rfl ?_
  refine Rd.getR H119 i119_1 (ob9 ma) rfl ?_
  refine Rd.getR H119 i119_4 (ob6 (m9_6_6 ma)) rfl ?_
  refine Ev.iload_n H119 i119_7 rfl ?_
  refine Rd.iaload H119 i119_8 (ar6_1 (m9_6_6 ma)) h (fun h => ?_)
  refine Rd.istore_n H119 i119_9 (Nat.le_of_ble_eq_true rfl) (lv2 := fun x1 => [(3, .int x1), (0, .ref a), (1, .int v1), (2, .int v2)]) (fun _ => rfl) h (fun x1 h => ?_)
  refine Ev.aload_n H119 i119_10 rfl ?_
  refine Rd.getR H119 i119_11 (ob9 ma) rfl ?_
  refine Ev.aload_n H119 i119_14 rfl ?_
  refine Rd.getI H119 i119_15 (ob9 ma) rfl ?_
  refine Ev.iload_n H119 i119_18 rfl ?_
  refine Ev.iload_n H119 i119_19 rfl ?_
  refine Ev.iload_n H119 i119_20 rfl ?_
  refine Rd.cV4uN H119 i119_21 cal43 (ob4 (m9_4_26 ma)) (Nat.le_of_ble_eq_true rfl) (Nat.le_of_ble_eq_true rfl) (Nat.lt_of_lt_of_le (by decide) hd) (fun q hq => c43 (m9_4_26 ma) hq) h (fun s2 h => ?_)
  refine Ev.aload_n H119 i119_24 rfl ?_
  refine Rd.getR H119 i119_25 (ob9 ma) rfl ?_
  refine Rd.getR H119 i119_28 (ob0 (m9_0_1 ma)) rfl ?_
  refine Ev.iload_n H119 i119_31 rfl ?_
  refine Ev.bipush H119 i119_32 kB_99 ?_
  refine Ev.aload_n H119 i119_34 rfl ?_
  refine Rd.getR H119 i119_35 (ob9 ma) rfl ?_
  refine Rd.getR H119 i119_38 (ob0 (m9_0_1 ma)) rfl ?_
  refine Ev.iload_n H119 i119_41 rfl ?_
  refine Rd.iaload H119 i119_42 (ar0_3 (m9_0_1 ma)) h (fun h => ?_)
  refine Ev.iconst H119 i119_43 kI_1 ?_
  refine Ev.iadd H119 i119_44 ?_
  refine Rd.min H119 i119_45 (Nat.le_of_ble_eq_true rfl) ?_
  refine Rd.iastore H119 i119_48 (ar0_3 (m9_0_1 ma)) h (fun s3 h => ?_)
  refine Ev.aload_n H119 i119_49 rfl ?_
  refine Rd.getR H119 i119_50 (ob9 ma) rfl ?_
  refine Ev.iload_n H119 i119_53 rfl ?_
  refine Rd.cV1uN H119 i119_54 cal80 (ob6 (m9_6_6 ma)) (Nat.le_of_ble_eq_true rfl) (Nat.le_of_ble_eq_true rfl) (Nat.lt_of_lt_of_le (by decide) hd) (fun q hq => c80 (m9_6_6 ma) hq) h (fun s4 h => ?_)
  exact Rd.return_ H119 i119_57 rfl h
theorem i124_0 : mm_cd 124 0 = some (.aload_n 0, 1, 0, 0) := rfl
theorem i124_1 : mm_cd 124 1 = some (.getfield 21, 3, ((9 : Nat) : Int), 2) := rfl
theorem i124_4 : mm_cd 124 4 = some (.getfield 197, 3, ((6 : Nat) : Int), 4) := rfl
theorem i124_7 : mm_cd 124 7 = some (.iload_n 1, 1, 0, 0) := rfl
theorem i124_8 : mm_cd 124 8 = some (.iaload, 1, 0, 0) := rfl
theorem i124_9 : mm_cd 124 9 = some (.istore_n 2, 1, 0, 0) := rfl
theorem i124_10 : mm_cd 124 10 = some (.aload_n 0, 1, 0, 0) := rfl
theorem i124_11 : mm_cd 124 11 = some (.getfield 68, 3, ((9 : Nat) : Int), 0) := rfl
theorem i124_14 : mm_cd 124 14 = some (.getfield 246, 3, ((2 : Nat) : Int), 6) := rfl
theorem i124_17 : mm_cd 124 17 = some (.iconst 0, 1, 0, 0) := rfl
theorem i124_18 : mm_cd 124 18 = some (.iload_n 1, 1, 0, 0) := rfl
theorem i124_19 : mm_cd 124 19 = some (.iastore, 1, 0, 0) := rfl
theorem i124_20 : mm_cd 124 20 = some (.aload_n 0, 1, 0, 0) := rfl
theorem i124_21 : mm_cd 124 21 = some (.getfield 68, 3, ((9 : Nat) : Int), 0) := rfl
theorem i124_24 : mm_cd 124 24 = some (.getfield 246, 3, ((2 : Nat) : Int), 6) := rfl
theorem i124_27 : mm_cd 124 27 = some (.iconst 1, 1, 0, 0) := rfl
theorem i124_28 : mm_cd 124 28 = some (.iload_n 2, 1, 0, 0) := rfl
theorem i124_29 : mm_cd 124 29 = some (.iastore, 1, 0, 0) := rfl
theorem i124_30 : mm_cd 124 30 = some (.aload_n 0, 1, 0, 0) := rfl
theorem i124_31 : mm_cd 124 31 = some (.getfield 68, 3, ((9 : Nat) : Int), 0) := rfl
theorem i124_34 : mm_cd 124 34 = some (.getfield 246, 3, ((2 : Nat) : Int), 6) := rfl
theorem i124_37 : mm_cd 124 37 = some (.iconst 2, 1, 0, 0) := rfl
theorem i124_38 : mm_cd 124 38 = some (.aload_n 0, 1, 0, 0) := rfl
theorem i124_39 : mm_cd 124 39 = some (.getfield 52, 3, ((9 : Nat) : Int), 9) := rfl
theorem i124_42 : mm_cd 124 42 = some (.aload_n 0, 1, 0, 0) := rfl
theorem i124_43 : mm_cd 124 43 = some (.getfield 21, 3, ((9 : Nat) : Int), 2) := rfl
theorem i124_46 : mm_cd 124 46 = some (.getfield 159, 3, ((6 : Nat) : Int), 5) := rfl
theorem i124_49 : mm_cd 124 49 = some (.iload_n 1, 1, 0, 0) := rfl
theorem i124_50 : mm_cd 124 50 = some (.iaload, 1, 0, 0) := rfl
theorem i124_51 : mm_cd 124 51 = some (.isub, 1, 0, 0) := rfl
theorem i124_52 : mm_cd 124 52 = some (.iastore, 1, 0, 0) := rfl
theorem i124_53 : mm_cd 124 53 = some (.aload_n 0, 1, 0, 0) := rfl
theorem i124_54 : mm_cd 124 54 = some (.getfield 68, 3, ((9 : Nat) : Int), 0) := rfl
theorem i124_57 : mm_cd 124 57 = some (.getfield 246, 3, ((2 : Nat) : Int), 6) := rfl
theorem i124_60 : mm_cd 124 60 = some (.iconst 3, 1, 0, 0) := rfl
theorem i124_61 : mm_cd 124 61 = some (.aload_n 0, 1, 0, 0) := rfl
theorem i124_62 : mm_cd 124 62 = some (.getfield 21, 3, ((9 : Nat) : Int), 2) := rfl
theorem i124_65 : mm_cd 124 65 = some (.getfield 153, 3, ((6 : Nat) : Int), 8) := rfl
theorem i124_68 : mm_cd 124 68 = some (.iload_n 1, 1, 0, 0) := rfl
theorem i124_69 : mm_cd 124 69 = some (.iaload, 1, 0, 0) := rfl
theorem i124_70 : mm_cd 124 70 = some (.invokestatic 249, 3, 0, 343) := rfl
theorem i124_73 : mm_cd 124 73 = some (.iastore, 1, 0, 0) := rfl
theorem i124_74 : mm_cd 124 74 = some (.aload_n 0, 1, 0, 0) := rfl
theorem i124_75 : mm_cd 124 75 = some (.getfield 68, 3, ((9 : Nat) : Int), 0) := rfl
theorem i124_78 : mm_cd 124 78 = some (.getfield 246, 3, ((2 : Nat) : Int), 6) := rfl
theorem i124_81 : mm_cd 124 81 = some (.iconst 4, 1, 0, 0) := rfl
theorem i124_82 : mm_cd 124 82 = some (.aload_n 0, 1, 0, 0) := rfl
theorem i124_83 : mm_cd 124 83 = some (.getfield 21, 3, ((9 : Nat) : Int), 2) := rfl
theorem i124_86 : mm_cd 124 86 = some (.getfield 133, 3, ((6 : Nat) : Int), 9) := rfl
theorem i124_89 : mm_cd 124 89 = some (.iload_n 1, 1, 0, 0) := rfl
theorem i124_90 : mm_cd 124 90 = some (.iaload, 1, 0, 0) := rfl
theorem i124_91 : mm_cd 124 91 = some (.invokestatic 249, 3, 0, 343) := rfl
theorem i124_94 : mm_cd 124 94 = some (.iastore, 1, 0, 0) := rfl
theorem i124_95 : mm_cd 124 95 = some (.aload_n 0, 1, 0, 0) := rfl
theorem i124_96 : mm_cd 124 96 = some (.getfield 68, 3, ((9 : Nat) : Int), 0) := rfl
theorem i124_99 : mm_cd 124 99 = some (.getfield 246, 3, ((2 : Nat) : Int), 6) := rfl
theorem i124_102 : mm_cd 124 102 = some (.iconst 5, 1, 0, 0) := rfl
theorem i124_103 : mm_cd 124 103 = some (.aload_n 0, 1, 0, 0) := rfl
theorem i124_104 : mm_cd 124 104 = some (.getfield 12, 3, ((9 : Nat) : Int), 1) := rfl
theorem i124_107 : mm_cd 124 107 = some (.getfield 203, 3, ((0 : Nat) : Int), 4) := rfl
theorem i124_110 : mm_cd 124 110 = some (.iload_n 2, 1, 0, 0) := rfl
theorem i124_111 : mm_cd 124 111 = some (.iaload, 1, 0, 0) := rfl
theorem i124_112 : mm_cd 124 112 = some (.iastore, 1, 0, 0) := rfl
theorem i124_113 : mm_cd 124 113 = some (.aload_n 0, 1, 0, 0) := rfl
theorem i124_114 : mm_cd 124 114 = some (.getfield 68, 3, ((9 : Nat) : Int), 0) := rfl
theorem i124_117 : mm_cd 124 117 = some (.getfield 246, 3, ((2 : Nat) : Int), 6) := rfl
theorem i124_120 : mm_cd 124 120 = some (.bipush 6, 2, 0, 0) := rfl
theorem i124_122 : mm_cd 124 122 = some (.aload_n 0, 1, 0, 0) := rfl
theorem i124_123 : mm_cd 124 123 = some (.getfield 52, 3, ((9 : Nat) : Int), 9) := rfl
theorem i124_126 : mm_cd 124 126 = some (.bipush 100, 2, 0, 0) := rfl
theorem i124_128 : mm_cd 124 128 = some (.irem, 1, 0, 0) := rfl
theorem i124_129 : mm_cd 124 129 = some (.iastore, 1, 0, 0) := rfl
theorem i124_130 : mm_cd 124 130 = some (.aload_n 0, 1, 0, 0) := rfl
theorem i124_131 : mm_cd 124 131 = some (.getfield 68, 3, ((9 : Nat) : Int), 0) := rfl
theorem i124_134 : mm_cd 124 134 = some (.getfield 246, 3, ((2 : Nat) : Int), 6) := rfl
theorem i124_137 : mm_cd 124 137 = some (.bipush 7, 2, 0, 0) := rfl
theorem i124_139 : mm_cd 124 139 = some (.aload_n 0, 1, 0, 0) := rfl
theorem i124_140 : mm_cd 124 140 = some (.getfield 21, 3, ((9 : Nat) : Int), 2) := rfl
theorem i124_143 : mm_cd 124 143 = some (.iload_n 1, 1, 0, 0) := rfl
theorem i124_144 : mm_cd 124 144 = some (.invokevirtual 165, 3, 0, 66) := rfl
theorem i124_147 : mm_cd 124 147 = some (.ifCond .eq 7, 3, 0, 0) := rfl
theorem i124_150 : mm_cd 124 150 = some (.iconst 1, 1, 0, 0) := rfl
theorem i124_151 : mm_cd 124 151 = some (.goto 4, 3, 0, 0) := rfl
theorem i124_154 : mm_cd 124 154 = some (.iconst 0, 1, 0, 0) := rfl
theorem i124_155 : mm_cd 124 155 = some (.iastore, 1, 0, 0) := rfl
theorem i124_156 : mm_cd 124 156 = some (.aload_n 0, 1, 0, 0) := rfl
theorem i124_157 : mm_cd 124 157 = some (.getfield 68, 3, ((9 : Nat) : Int), 0) := rfl
theorem i124_160 : mm_cd 124 160 = some (.getfield 246, 3, ((2 : Nat) : Int), 6) := rfl
theorem i124_163 : mm_cd 124 163 = some (.bipush 8, 2, 0, 0) := rfl
theorem i124_165 : mm_cd 124 165 = some (.aload_n 0, 1, 0, 0) := rfl
theorem i124_166 : mm_cd 124 166 = some (.getfield 21, 3, ((9 : Nat) : Int), 2) := rfl
theorem i124_169 : mm_cd 124 169 = some (.iload_n 1, 1, 0, 0) := rfl
theorem i124_170 : mm_cd 124 170 = some (.invokevirtual 252, 3, 0, 69) := rfl
theorem i124_173 : mm_cd 124 173 = some (.ifCond .eq 7, 3, 0, 0) := rfl
theorem i124_176 : mm_cd 124 176 = some (.iconst 1, 1, 0, 0) := rfl
theorem i124_177 : mm_cd 124 177 = some (.goto 4, 3, 0, 0) := rfl
theorem i124_180 : mm_cd 124 180 = some (.iconst 0, 1, 0, 0) := rfl
theorem i124_181 : mm_cd 124 181 = some (.iastore, 1, 0, 0) := rfl
theorem i124_182 : mm_cd 124 182 = some (.aload_n 0, 1, 0, 0) := rfl
theorem i124_183 : mm_cd 124 183 = some (.getfield 68, 3, ((9 : Nat) : Int), 0) := rfl
theorem i124_186 : mm_cd 124 186 = some (.getfield 246, 3, ((2 : Nat) : Int), 6) := rfl
theorem i124_189 : mm_cd 124 189 = some (.bipush 9, 2, 0, 0) := rfl
theorem i124_191 : mm_cd 124 191 = some (.aload_n 0, 1, 0, 0) := rfl
theorem i124_192 : mm_cd 124 192 = some (.getfield 12, 3, ((9 : Nat) : Int), 1) := rfl
theorem i124_195 : mm_cd 124 195 = some (.getfield 203, 3, ((0 : Nat) : Int), 4) := rfl
theorem i124_198 : mm_cd 124 198 = some (.iload_n 2, 1, 0, 0) := rfl
theorem i124_199 : mm_cd 124 199 = some (.iaload, 1, 0, 0) := rfl
theorem i124_200 : mm_cd 124 200 = some (.ifCond .le 7, 3, 0, 0) := rfl
theorem i124_203 : mm_cd 124 203 = some (.iconst 1, 1, 0, 0) := rfl
theorem i124_204 : mm_cd 124 204 = some (.goto 4, 3, 0, 0) := rfl
theorem i124_207 : mm_cd 124 207 = some (.iconst 0, 1, 0, 0) := rfl
theorem i124_208 : mm_cd 124 208 = some (.iastore, 1, 0, 0) := rfl
theorem i124_209 : mm_cd 124 209 = some (.return_, 1, 0, 0) := rfl
def q124_208 (a : Nat) (y1 : Int32) (y2 : Int32) (s : mS) : Option mQ := gA 10 y1 <| sp (sI s (3 + 5) y1.toNatClampNeg y2) fun s1 => ru s1
theorem t124_208 {L : Nat} {xs : Nat → Int32} {d : Nat} {a : Nat} (ma : a ∈ A9) (hd : 1 ≤ d) {y1 : Int32} {y2 : Int32} {s : mS} {r : mQ} (h : q124_208 a y1 y2 s = some r) : Ev L xs d 124 208 [] [.int y2, .int y1, .ref (3 + 5)] (hp s) (hr r) := by
  unfold q124_208 at h
  refine Rd.iastore H124 i124_208 (ar2_5 mA2_3) h (fun s1 h => ?_)
  exact Rd.return_ H124 i124_209 rfl h
def q124_181 (a : Nat) (v2 : Int32) (y1 : Int32) (y2 : Int32) (s : mS) : Option mQ := gA 10 y1 <| sp (sI s (3 + 5) y1.toNatClampNeg y2) fun s2 => gA 5 v2 <| if (s2.1 ((a + 1) + 3) v2.toNatClampNeg) ≤ 0 then (q124_208 a (9 : Int32) (0 : Int32) s2) else (q124_208 a (9 : Int32) (1 : Int32) s2)
theorem t124_181 {L : Nat} {xs : Nat → Int32} {d : Nat} {a : Nat} (ma : a ∈ A9) (hd : 1 ≤ d) {v2 : Int32} {y1 : Int32} {y2 : Int32} {s : mS} {r : mQ} (h : q124_181 a v2 y1 y2 s = some r) : Ev L xs d 124 181 [(0, .ref a), (2, .int v2)] [.int y2, .int y1, .ref (3 + 5)] (hp s) (hr r) := by
  unfold q124_181 at h
  refine Rd.iastore H124 i124_181 (ar2_5 mA2_3) h (fun s2 h => ?_)
  refine Ev.aload_n H124 i124_182 rfl ?_
  refine Rd.getR H124 i124_183 (ob9 ma) rfl ?_
  refine Rd.getR H124 i124_186 (ob2 mA2_3) rfl ?_
  refine Ev.bipush H124 i124_189 kB_9 ?_
  refine Ev.aload_n H124 i124_191 rfl ?_
  refine Rd.getR H124 i124_192 (ob9 ma) rfl ?_
  refine Rd.getR H124 i124_195 (ob0 (m9_0_1 ma)) rfl ?_
  refine Ev.iload_n H124 i124_198 rfl ?_
  refine Rd.iaload H124 i124_199 (ar0_3 (m9_0_1 ma)) h (fun h => ?_)
  refine Rd.if_le H124 i124_200 (t := 207) (by decide) h (fun hc h => ?_) (fun hc h => ?_)
  · refine Ev.iconst H124 i124_207 kI_0 ?_
    exact Ev.sub (l := []) rfl rfl mm_sub_n (t124_208 ma hd h)
  · refine Ev.iconst H124 i124_203 kI_1 ?_
    refine Ev.goto H124 i124_204 (t := 208) (by decide) ?_
    exact Ev.sub (l := []) rfl rfl mm_sub_n (t124_208 ma hd h)
def q124_155 (a : Nat) (v1 : Int32) (v2 : Int32) (y1 : Int32) (y2 : Int32) (s : mS) : Option mQ := gA 10 y1 <| sp (sI s (3 + 5) y1.toNatClampNeg y2) fun s3 => bN (q69 (a + 6) v1 s3) fun x5 s4 => if x5 = 0 then (q124_181 a v2 (8 : Int32) (0 : Int32) s4) else (q124_181 a v2 (8 : Int32) (1 : Int32) s4)
theorem t124_155 {L : Nat} {xs : Nat → Int32} {d : Nat} {a : Nat} (ma : a ∈ A9) (hd : 1 ≤ d) {v1 : Int32} {v2 : Int32} {y1 : Int32} {y2 : Int32} {s : mS} {r : mQ} (h : q124_155 a v1 v2 y1 y2 s = some r) : Ev L xs d 124 155 [(0, .ref a), (1, .int v1), (2, .int v2)] [.int y2, .int y1, .ref (3 + 5)] (hp s) (hr r) := by
  unfold q124_155 at h
  refine Rd.iastore H124 i124_155 (ar2_5 mA2_3) h (fun s3 h => ?_)
  refine Ev.aload_n H124 i124_156 rfl ?_
  refine Rd.getR H124 i124_157 (ob9 ma) rfl ?_
  refine Rd.getR H124 i124_160 (ob2 mA2_3) rfl ?_
  refine Ev.bipush H124 i124_163 kB_8 ?_
  refine Ev.aload_n H124 i124_165 rfl ?_
  refine Rd.getR H124 i124_166 (ob9 ma) rfl ?_
  refine Ev.iload_n H124 i124_169 rfl ?_
  refine Rd.cV1vN H124 i124_170 cal69 (ob6 (m9_6_6 ma)) (Nat.le_of_ble_eq_true rfl) (Nat.le_of_ble_eq_true rfl) (Nat.lt_of_lt_of_le (by decide) hd) (fun q hq => c69 (m9_6_6 ma) hq) h (fun x5 s4 h => ?_)
  refine Rd.if_eq H124 i124_173 (t := 180) (by decide) h (fun hc h => ?_) (fun hc h => ?_)
  · refine Ev.iconst H124 i124_180 kI_0 ?_
    exact Ev.sub (l := [(0, .ref a), (2, .int v2)]) rfl rfl (mm_sub_c rfl (mm_sub_c rfl mm_sub_n)) (t124_181 ma hd h)
  · refine Ev.iconst H124 i124_176 kI_1 ?_
    refine Ev.goto H124 i124_177 (t := 181) (by decide) ?_
    exact Ev.sub (l := [(0, .ref a), (2, .int v2)]) rfl rfl (mm_sub_c rfl (mm_sub_c rfl mm_sub_n)) (t124_181 ma hd h)
/-- SerialGate$World.tellLaw(I)V -/
def q124 (a : Nat) (v1 : Int32) (s : mS) : Option mQ := gA 8 v1 <| bx (s.1 ((a + 6) + 1) v1.toNatClampNeg) fun x6 => gA 10 (0 : Int32) <| sp (sI s (3 + 5) (0 : Int32).toNatClampNeg v1) fun s7 => gA 10 (1 : Int32) <| sp (sI s7 (3 + 5) (1 : Int32).toNatClampNeg x6) fun s8 => gA 8 v1 <| gA 10 (2 : Int32) <| sp (sI s8 (3 + 5) (2 : Int32).toNatClampNeg ((s8.1 a 9) - (s8.1 ((a + 6) + 2) v1.toNatClampNeg))) fun s9 => gA 8 v1 <| bN (q343 (s9.1 ((a + 6) + 5) v1.toNatClampNeg) s9) fun x11 s10 => gA 10 (3 : Int32) <| sp (sI s10 (3 + 5) (3 : Int32).toNatClampNeg x11) fun s12 => gA 8 v1 <| bN (q343 (s12.1 ((a + 6) + 6) v1.toNatClampNeg) s12) fun x14 s13 => gA 10 (4 : Int32) <| sp (sI s13 (3 + 5) (4 : Int32).toNatClampNeg x14) fun s15 => gA 5 x6 <| gA 10 (5 : Int32) <| sp (sI s15 (3 + 5) (5 : Int32).toNatClampNeg (s15.1 ((a + 1) + 3) x6.toNatClampNeg)) fun s16 => gZ (100 : Int32) <| gA 10 (6 : Int32) <| sp (sI s16 (3 + 5) (6 : Int32).toNatClampNeg (rmI (s16.1 a 9) (100 : Int32))) fun s17 => bN (q66 (a + 6) v1 s17) fun x19 s18 => if x19 = 0 then (q124_155 a v1 x6 (7 : Int32) (0 : Int32) s18) else (q124_155 a v1 x6 (7 : Int32) (1 : Int32) s18)
theorem c124 {L : Nat} {xs : Nat → Int32} {a : Nat} (ma : a ∈ A9) {v1 : Int32} {s : mS} {r : mQ} (h : q124 a v1 s = some r) : ∀ d, 1 ≤ d → Cl L xs d 124 [.ref a, .int v1] (hp s) (hr r) := by
  intro d hd
  show Ev L xs d 124 0 [(0, .ref a), (1, .int v1)] [] (hp s) (hr r)
  unfold q124 at h
  refine Ev.aload_n H124 i124_0 rfl ?_
  refine Rd.getR H124 i124_1 (ob9 ma) rfl ?_
  refine Rd.getR H124 i124_4 (ob6 (m9_6_6 ma)) rfl ?_
  refine Ev.iload_n H124 i124_7 rfl ?_
  refine Rd.iaload H124 i124_8 (ar6_1 (m9_6_6 ma)) h (fun h => ?_)
  refine Rd.istore_n H124 i124_9 (Nat.le_of_ble_eq_true rfl) (lv2 := fun x6 => [(2, .int x6), (0, .ref a), (1, .int v1)]) (fun _ => rfl) h (fun x6 h => ?_)
  refine Ev.aload_n H124 i124_10 rfl ?_
  refine Rd.getR H124 i124_11 (ob9 ma) rfl ?_
  refine Rd.getR H124 i124_14 (ob2 mA2_3) rfl ?_
  refine Ev.iconst H124 i124_17 kI_0 ?_
  refine Ev.iload_n H124 i124_18 rfl ?_
  refine Rd.iastore H124 i124_19 (ar2_5 mA2_3) h (fun s7 h => ?_)
  refine Ev.aload_n H124 i124_20 rfl ?_
  refine Rd.getR H124 i124_21 (ob9 ma) rfl ?_
  refine Rd.getR H124 i124_24 (ob2 mA2_3) rfl ?_
  refine Ev.iconst H124 i124_27 kI_1 ?_
  refine Ev.iload_n H124 i124_28 rfl ?_
  refine Rd.iastore H124 i124_29 (ar2_5 mA2_3) h (fun s8 h => ?_)
  refine Ev.aload_n H124 i124_30 rfl ?_
  refine Rd.getR H124 i124_31 (ob9 ma) rfl ?_
  refine Rd.getR H124 i124_34 (ob2 mA2_3) rfl ?_
  refine Ev.iconst H124 i124_37 kI_2 ?_
  refine Ev.aload_n H124 i124_38 rfl ?_
  refine Rd.getI H124 i124_39 (ob9 ma) rfl ?_
  refine Ev.aload_n H124 i124_42 rfl ?_
  refine Rd.getR H124 i124_43 (ob9 ma) rfl ?_
  refine Rd.getR H124 i124_46 (ob6 (m9_6_6 ma)) rfl ?_
  refine Ev.iload_n H124 i124_49 rfl ?_
  refine Rd.iaload H124 i124_50 (ar6_2 (m9_6_6 ma)) h (fun h => ?_)
  refine Ev.isub H124 i124_51 ?_
  refine Rd.iastore H124 i124_52 (ar2_5 mA2_3) h (fun s9 h => ?_)
  refine Ev.aload_n H124 i124_53 rfl ?_
  refine Rd.getR H124 i124_54 (ob9 ma) rfl ?_
  refine Rd.getR H124 i124_57 (ob2 mA2_3) rfl ?_
  refine Ev.iconst H124 i124_60 kI_3 ?_
  refine Ev.aload_n H124 i124_61 rfl ?_
  refine Rd.getR H124 i124_62 (ob9 ma) rfl ?_
  refine Rd.getR H124 i124_65 (ob6 (m9_6_6 ma)) rfl ?_
  refine Ev.iload_n H124 i124_68 rfl ?_
  refine Rd.iaload H124 i124_69 (ar6_5 (m9_6_6 ma)) h (fun h => ?_)
  refine Rd.cS1vN H124 i124_70 cal343 (Nat.le_of_ble_eq_true rfl) (Nat.le_of_ble_eq_true rfl) (Nat.lt_of_lt_of_le (by decide) hd) (fun q hq => c343 hq) h (fun x11 s10 h => ?_)
  refine Rd.iastore H124 i124_73 (ar2_5 mA2_3) h (fun s12 h => ?_)
  refine Ev.aload_n H124 i124_74 rfl ?_
  refine Rd.getR H124 i124_75 (ob9 ma) rfl ?_
  refine Rd.getR H124 i124_78 (ob2 mA2_3) rfl ?_
  refine Ev.iconst H124 i124_81 kI_4 ?_
  refine Ev.aload_n H124 i124_82 rfl ?_
  refine Rd.getR H124 i124_83 (ob9 ma) rfl ?_
  refine Rd.getR H124 i124_86 (ob6 (m9_6_6 ma)) rfl ?_
  refine Ev.iload_n H124 i124_89 rfl ?_
  refine Rd.iaload H124 i124_90 (ar6_6 (m9_6_6 ma)) h (fun h => ?_)
  refine Rd.cS1vN H124 i124_91 cal343 (Nat.le_of_ble_eq_true rfl) (Nat.le_of_ble_eq_true rfl) (Nat.lt_of_lt_of_le (by decide) hd) (fun q hq => c343 hq) h (fun x14 s13 h => ?_)
  refine Rd.iastore H124 i124_94 (ar2_5 mA2_3) h (fun s15 h => ?_)
  refine Ev.aload_n H124 i124_95 rfl ?_
  refine Rd.getR H124 i124_96 (ob9 ma) rfl ?_
  refine Rd.getR H124 i124_99 (ob2 mA2_3) rfl ?_
  refine Ev.iconst H124 i124_102 kI_5 ?_
  refine Ev.aload_n H124 i124_103 rfl ?_
  refine Rd.getR H124 i124_104 (ob9 ma) rfl ?_
  refine Rd.getR H124 i124_107 (ob0 (m9_0_1 ma)) rfl ?_
  refine Ev.iload_n H124 i124_110 rfl ?_
  refine Rd.iaload H124 i124_111 (ar0_3 (m9_0_1 ma)) h (fun h => ?_)
  refine Rd.iastore H124 i124_112 (ar2_5 mA2_3) h (fun s16 h => ?_)
  refine Ev.aload_n H124 i124_113 rfl ?_
  refine Rd.getR H124 i124_114 (ob9 ma) rfl ?_
  refine Rd.getR H124 i124_117 (ob2 mA2_3) rfl ?_
  refine Ev.bipush H124 i124_120 kB_6 ?_
  refine Ev.aload_n H124 i124_122 rfl ?_
  refine Rd.getI H124 i124_123 (ob9 ma) rfl ?_
  refine Ev.bipush H124 i124_126 kB_100 ?_
  refine Rd.irem H124 i124_128 h (fun h => ?_)
  refine Rd.iastore H124 i124_129 (ar2_5 mA2_3) h (fun s17 h => ?_)
  refine Ev.aload_n H124 i124_130 rfl ?_
  refine Rd.getR H124 i124_131 (ob9 ma) rfl ?_
  refine Rd.getR H124 i124_134 (ob2 mA2_3) rfl ?_
  refine Ev.bipush H124 i124_137 kB_7 ?_
  refine Ev.aload_n H124 i124_139 rfl ?_
  refine Rd.getR H124 i124_140 (ob9 ma) rfl ?_
  refine Ev.iload_n H124 i124_143 rfl ?_
  refine Rd.cV1vN H124 i124_144 cal66 (ob6 (m9_6_6 ma)) (Nat.le_of_ble_eq_true rfl) (Nat.le_of_ble_eq_true rfl) (Nat.lt_of_lt_of_le (by decide) hd) (fun q hq => c66 (m9_6_6 ma) hq) h (fun x19 s18 h => ?_)
  refine Rd.if_eq H124 i124_147 (t := 154) (by decide) h (fun hc h => ?_) (fun hc h => ?_)
  · refine Ev.iconst H124 i124_154 kI_0 ?_
    exact Ev.sub (l := [(0, .ref a), (1, .int v1), (2, .int x6)]) rfl rfl (mm_sub_c rfl (mm_sub_c rfl (mm_sub_c rfl mm_sub_n))) (t124_155 ma hd h)
  · refine Ev.iconst H124 i124_150 kI_1 ?_
    refine Ev.goto H124 i124_151 (t := 155) (by decide) ?_
    exact Ev.sub (l := [(0, .ref a), (1, .int v1), (2, .int x6)]) rfl rfl (mm_sub_c rfl (mm_sub_c rfl (mm_sub_c rfl mm_sub_n))) (t124_155 ma hd h)
theorem i122_0 : mm_cd 122 0 = some (.aload_n 0, 1, 0, 0) := rfl
theorem i122_1 : mm_cd 122 1 = some (.iload_n 1, 1, 0, 0) := rfl
theorem i122_2 : mm_cd 122 2 = some (.invokevirtual 238, 3, 0, 124) := rfl
theorem i122_5 : mm_cd 122 5 = some (.iconst 0, 1, 0, 0) := rfl
theorem i122_6 : mm_cd 122 6 = some (.bipush 10, 2, 0, 0) := rfl
theorem i122_8 : mm_cd 122 8 = some (.aload_n 0, 1, 0, 0) := rfl
theorem i122_9 : mm_cd 122 9 = some (.getfield 68, 3, ((9 : Nat) : Int), 0) := rfl
theorem i122_12 : mm_cd 122 12 = some (.iconst 0, 1, 0, 0) := rfl
theorem i122_13 : mm_cd 122 13 = some (.invokevirtual 243, 3, 0, 25) := rfl
theorem i122_16 : mm_cd 122 16 = some (.iadd, 1, 0, 0) := rfl
theorem i122_17 : mm_cd 122 17 = some (.aload_n 0, 1, 0, 0) := rfl
theorem i122_18 : mm_cd 122 18 = some (.getfield 68, 3, ((9 : Nat) : Int), 0) := rfl
theorem i122_21 : mm_cd 122 21 = some (.iconst 1, 1, 0, 0) := rfl
theorem i122_22 : mm_cd 122 22 = some (.invokevirtual 243, 3, 0, 25) := rfl
theorem i122_25 : mm_cd 122 25 = some (.isub, 1, 0, 0) := rfl
theorem i122_26 : mm_cd 122 26 = some (.invokestatic 182, 3, 2, 0) := rfl
theorem i122_29 : mm_cd 122 29 = some (.ireturn, 1, 0, 0) := rfl
/-- SerialGate$World.blameOf(I)I -/
def q122 (a : Nat) (v1 : Int32) (s : mS) : Option mQ := bM (q124 a v1 s) fun s1 => bN (q25 3 (0 : Int32) s1) fun x3 s2 => bN (q25 3 (1 : Int32) s2) fun x5 s4 => rv (mxI (0 : Int32) (((10 : Int32) + x3) - x5)) s4
theorem c122 {L : Nat} {xs : Nat → Int32} {a : Nat} (ma : a ∈ A9) {v1 : Int32} {s : mS} {r : mQ} (h : q122 a v1 s = some r) : ∀ d, 2 ≤ d → Cl L xs d 122 [.ref a, .int v1] (hp s) (hr r) := by
  intro d hd
  show Ev L xs d 122 0 [(0, .ref a), (1, .int v1)] [] (hp s) (hr r)
  unfold q122 at h
  refine Ev.aload_n H122 i122_0 rfl ?_
  refine Ev.iload_n H122 i122_1 rfl ?_
  refine Rd.cV1uN H122 i122_2 cal124 (ob9 ma) (Nat.le_of_ble_eq_true rfl) (Nat.le_of_ble_eq_true rfl) (Nat.lt_of_lt_of_le (by decide) hd) (fun q hq => c124 ma hq) h (fun s1 h => ?_)
  refine Ev.iconst H122 i122_5 kI_0 ?_
  refine Ev.bipush H122 i122_6 kB_10 ?_
  refine Ev.aload_n H122 i122_8 rfl ?_
  refine Rd.getR H122 i122_9 (ob9 ma) rfl ?_
  refine Ev.iconst H122 i122_12 kI_0 ?_
  refine Rd.cV1vN H122 i122_13 cal25 (ob2 mA2_3) (Nat.le_of_ble_eq_true rfl) (Nat.le_of_ble_eq_true rfl) (Nat.lt_of_lt_of_le (by decide) hd) (fun q hq => c25 mA2_3 hq) h (fun x3 s2 h => ?_)
  refine Ev.iadd H122 i122_16 ?_
  refine Ev.aload_n H122 i122_17 rfl ?_
  refine Rd.getR H122 i122_18 (ob9 ma) rfl ?_
  refine Ev.iconst H122 i122_21 kI_1 ?_
  refine Rd.cV1vN H122 i122_22 cal25 (ob2 mA2_3) (Nat.le_of_ble_eq_true rfl) (Nat.le_of_ble_eq_true rfl) (Nat.lt_of_lt_of_le (by decide) hd) (fun q hq => c25 mA2_3 hq) h (fun x5 s4 h => ?_)
  refine Ev.isub H122 i122_25 ?_
  refine Rd.max H122 i122_26 (Nat.le_of_ble_eq_true rfl) ?_
  exact Rd.ireturn H122 i122_29 rfl h
theorem i121_0 : mm_cd 121 0 = some (.iload_n 1, 1, 0, 0) := rfl
theorem i121_1 : mm_cd 121 1 = some (.ifCond .lt 14, 3, 0, 0) := rfl
theorem i121_4 : mm_cd 121 4 = some (.aload_n 0, 1, 0, 0) := rfl
theorem i121_5 : mm_cd 121 5 = some (.getfield 21, 3, ((9 : Nat) : Int), 2) := rfl
theorem i121_8 : mm_cd 121 8 = some (.iload_n 1, 1, 0, 0) := rfl
theorem i121_9 : mm_cd 121 9 = some (.invokevirtual 232, 3, 0, 64) := rfl
theorem i121_12 : mm_cd 121 12 = some (.ifCond .ne 5, 3, 0, 0) := rfl
theorem i121_15 : mm_cd 121 15 = some (.iload_n 2, 1, 0, 0) := rfl
theorem i121_16 : mm_cd 121 16 = some (.ireturn, 1, 0, 0) := rfl
theorem i121_17 : mm_cd 121 17 = some (.aload_n 0, 1, 0, 0) := rfl
theorem i121_18 : mm_cd 121 18 = some (.getfield 21, 3, ((9 : Nat) : Int), 2) := rfl
theorem i121_21 : mm_cd 121 21 = some (.iload_n 2, 1, 0, 0) := rfl
theorem i121_22 : mm_cd 121 22 = some (.invokevirtual 232, 3, 0, 64) := rfl
theorem i121_25 : mm_cd 121 25 = some (.ifCond .ne 5, 3, 0, 0) := rfl
theorem i121_28 : mm_cd 121 28 = some (.iload_n 1, 1, 0, 0) := rfl
theorem i121_29 : mm_cd 121 29 = some (.ireturn, 1, 0, 0) := rfl
theorem i121_30 : mm_cd 121 30 = some (.aload_n 0, 1, 0, 0) := rfl
theorem i121_31 : mm_cd 121 31 = some (.iload_n 1, 1, 0, 0) := rfl
theorem i121_32 : mm_cd 121 32 = some (.invokevirtual 235, 3, 0, 122) := rfl
theorem i121_35 : mm_cd 121 35 = some (.aload_n 0, 1, 0, 0) := rfl
theorem i121_36 : mm_cd 121 36 = some (.iload_n 2, 1, 0, 0) := rfl
theorem i121_37 : mm_cd 121 37 = some (.invokevirtual 235, 3, 0, 122) := rfl
theorem i121_40 : mm_cd 121 40 = some (.if_icmp .le 7, 3, 0, 0) := rfl
theorem i121_43 : mm_cd 121 43 = some (.iload_n 1, 1, 0, 0) := rfl
theorem i121_44 : mm_cd 121 44 = some (.goto 4, 3, 0, 0) := rfl
theorem i121_47 : mm_cd 121 47 = some (.iload_n 2, 1, 0, 0) := rfl
theorem i121_48 : mm_cd 121 48 = some (.ireturn, 1, 0, 0) := rfl
/-- SerialGate$World.victim(II)I -/
def q121 (a : Nat) (v1 : Int32) (v2 : Int32) (s : mS) : Option mQ := if v1 < 0 then (rv v2 s) else (bN (q64 (a + 6) v1 s) fun x2 s1 => if ¬ x2 = 0 then (bN (q64 (a + 6) v2 s1) fun x4 s3 => if ¬ x4 = 0 then (bN (q122 a v1 s3) fun x6 s5 => bN (q122 a v2 s5) fun x8 s7 => if x6 ≤ x8 then (rv v2 s7) else (rv v1 s7)) else (rv v1 s3)) else (rv v2 s1))
theorem c121 {L : Nat} {xs : Nat → Int32} {a : Nat} (ma : a ∈ A9) {v1 : Int32} {v2 : Int32} {s : mS} {r : mQ} (h : q121 a v1 v2 s = some r) : ∀ d, 3 ≤ d → Cl L xs d 121 [.ref a, .int v1, .int v2] (hp s) (hr r) := by
  intro d hd
  show Ev L xs d 121 0 [(0, .ref a), (1, .int v1), (2, .int v2)] [] (hp s) (hr r)
  unfold q121 at h
  refine Ev.iload_n H121 i121_0 rfl ?_
  refine Rd.if_lt H121 i121_1 (t := 15) (by decide) h (fun hc h => ?_) (fun hc h => ?_)
  · refine Ev.iload_n H121 i121_15 rfl ?_
    exact Rd.ireturn H121 i121_16 rfl h
  · refine Ev.aload_n H121 i121_4 rfl ?_
    refine Rd.getR H121 i121_5 (ob9 ma) rfl ?_
    refine Ev.iload_n H121 i121_8 rfl ?_
    refine Rd.cV1vN H121 i121_9 cal64 (ob6 (m9_6_6 ma)) (Nat.le_of_ble_eq_true rfl) (Nat.le_of_ble_eq_true rfl) (Nat.lt_of_lt_of_le (by decide) hd) (fun q hq => c64 (m9_6_6 ma) hq) h (fun x2 s1 h => ?_)
    refine Rd.if_ne H121 i121_12 (t := 17) (by decide) h (fun hc h => ?_) (fun hc h => ?_)
    · refine Ev.aload_n H121 i121_17 rfl ?_
      refine Rd.getR H121 i121_18 (ob9 ma) rfl ?_
      refine Ev.iload_n H121 i121_21 rfl ?_
      refine Rd.cV1vN H121 i121_22 cal64 (ob6 (m9_6_6 ma)) (Nat.le_of_ble_eq_true rfl) (Nat.le_of_ble_eq_true rfl) (Nat.lt_of_lt_of_le (by decide) hd) (fun q hq => c64 (m9_6_6 ma) hq) h (fun x4 s3 h => ?_)
      refine Rd.if_ne H121 i121_25 (t := 30) (by decide) h (fun hc h => ?_) (fun hc h => ?_)
      · refine Ev.aload_n H121 i121_30 rfl ?_
        refine Ev.iload_n H121 i121_31 rfl ?_
        refine Rd.cV1vN H121 i121_32 cal122 (ob9 ma) (Nat.le_of_ble_eq_true rfl) (Nat.le_of_ble_eq_true rfl) (Nat.lt_of_lt_of_le (by decide) hd) (fun q hq => c122 ma hq) h (fun x6 s5 h => ?_)
        refine Ev.aload_n H121 i121_35 rfl ?_
        refine Ev.iload_n H121 i121_36 rfl ?_
        refine Rd.cV1vN H121 i121_37 cal122 (ob9 ma) (Nat.le_of_ble_eq_true rfl) (Nat.le_of_ble_eq_true rfl) (Nat.lt_of_lt_of_le (by decide) hd) (fun q hq => c122 ma hq) h (fun x8 s7 h => ?_)
        refine Rd.ic_le H121 i121_40 (t := 47) (by decide) h (fun hc h => ?_) (fun hc h => ?_)
        · refine Ev.iload_n H121 i121_47 rfl ?_
          exact Rd.ireturn H121 i121_48 rfl h
        · refine Ev.iload_n H121 i121_43 rfl ?_
          refine Ev.goto H121 i121_44 (t := 48) (by decide) ?_
          exact Rd.ireturn H121 i121_48 rfl h
      · refine Ev.iload_n H121 i121_28 rfl ?_
        exact Rd.ireturn H121 i121_29 rfl h
    · refine Ev.iload_n H121 i121_15 rfl ?_
      exact Rd.ireturn H121 i121_16 rfl h
theorem i126_0 : mm_cd 126 0 = some (.aload_n 0, 1, 0, 0) := rfl
theorem i126_1 : mm_cd 126 1 = some (.getfield 21, 3, ((9 : Nat) : Int), 2) := rfl
theorem i126_4 : mm_cd 126 4 = some (.getfield 261, 3, ((6 : Nat) : Int), 6) := rfl
theorem i126_7 : mm_cd 126 7 = some (.iload_n 1, 1, 0, 0) := rfl
theorem i126_8 : mm_cd 126 8 = some (.iaload, 1, 0, 0) := rfl
theorem i126_9 : mm_cd 126 9 = some (.istore_n 2, 1, 0, 0) := rfl
theorem i126_10 : mm_cd 126 10 = some (.aload_n 0, 1, 0, 0) := rfl
theorem i126_11 : mm_cd 126 11 = some (.getfield 21, 3, ((9 : Nat) : Int), 2) := rfl
theorem i126_14 : mm_cd 126 14 = some (.iload_n 1, 1, 0, 0) := rfl
theorem i126_15 : mm_cd 126 15 = some (.invokevirtual 273, 3, 0, 76) := rfl
theorem i126_18 : mm_cd 126 18 = some (.istore_n 3, 1, 0, 0) := rfl
theorem i126_19 : mm_cd 126 19 = some (.iload_n 3, 1, 0, 0) := rfl
theorem i126_20 : mm_cd 126 20 = some (.ifCond .le 12, 3, 0, 0) := rfl
theorem i126_23 : mm_cd 126 23 = some (.iload_n 3, 1, 0, 0) := rfl
theorem i126_24 : mm_cd 126 24 = some (.iload_n 2, 1, 0, 0) := rfl
theorem i126_25 : mm_cd 126 25 = some (.if_icmp .ge 7, 3, 0, 0) := rfl
theorem i126_28 : mm_cd 126 28 = some (.iconst 1, 1, 0, 0) := rfl
theorem i126_29 : mm_cd 126 29 = some (.goto 4, 3, 0, 0) := rfl
theorem i126_32 : mm_cd 126 32 = some (.iconst 0, 1, 0, 0) := rfl
theorem i126_33 : mm_cd 126 33 = some (.istore 4, 2, 0, 0) := rfl
theorem i126_35 : mm_cd 126 35 = some (.iconst 0, 1, 0, 0) := rfl
theorem i126_36 : mm_cd 126 36 = some (.istore 5, 2, 0, 0) := rfl
theorem i126_38 : mm_cd 126 38 = some (.iload 5, 2, 0, 0) := rfl
theorem i126_40 : mm_cd 126 40 = some (.bipush 10, 2, 0, 0) := rfl
theorem i126_42 : mm_cd 126 42 = some (.if_icmp .ge 113, 3, 0, 0) := rfl
theorem i126_45 : mm_cd 126 45 = some (.aload_n 0, 1, 0, 0) := rfl
theorem i126_46 : mm_cd 126 46 = some (.getfield 21, 3, ((9 : Nat) : Int), 2) := rfl
theorem i126_49 : mm_cd 126 49 = some (.getfield 153, 3, ((6 : Nat) : Int), 8) := rfl
theorem i126_52 : mm_cd 126 52 = some (.iload_n 1, 1, 0, 0) := rfl
theorem i126_53 : mm_cd 126 53 = some (.iaload, 1, 0, 0) := rfl
theorem i126_54 : mm_cd 126 54 = some (.iload 5, 2, 0, 0) := rfl
theorem i126_56 : mm_cd 126 56 = some (.ishr, 1, 0, 0) := rfl
theorem i126_57 : mm_cd 126 57 = some (.iconst 1, 1, 0, 0) := rfl
theorem i126_58 : mm_cd 126 58 = some (.iand, 1, 0, 0) := rfl
theorem i126_59 : mm_cd 126 59 = some (.ifCond .eq 21, 3, 0, 0) := rfl
theorem i126_62 : mm_cd 126 62 = some (.aload_n 0, 1, 0, 0) := rfl
theorem i126_63 : mm_cd 126 63 = some (.getfield 43, 3, ((9 : Nat) : Int), 6) := rfl
theorem i126_66 : mm_cd 126 66 = some (.iload 5, 2, 0, 0) := rfl
theorem i126_68 : mm_cd 126 68 = some (.aload_n 0, 1, 0, 0) := rfl
theorem i126_69 : mm_cd 126 69 = some (.getfield 43, 3, ((9 : Nat) : Int), 6) := rfl
theorem i126_72 : mm_cd 126 72 = some (.iload 5, 2, 0, 0) := rfl
theorem i126_74 : mm_cd 126 74 = some (.iaload, 1, 0, 0) := rfl
theorem i126_75 : mm_cd 126 75 = some (.iload_n 2, 1, 0, 0) := rfl
theorem i126_76 : mm_cd 126 76 = some (.invokestatic 182, 3, 2, 0) := rfl
theorem i126_79 : mm_cd 126 79 = some (.iastore, 1, 0, 0) := rfl
theorem i126_80 : mm_cd 126 80 = some (.aload_n 0, 1, 0, 0) := rfl
theorem i126_81 : mm_cd 126 81 = some (.getfield 21, 3, ((9 : Nat) : Int), 2) := rfl
theorem i126_84 : mm_cd 126 84 = some (.getfield 133, 3, ((6 : Nat) : Int), 9) := rfl
theorem i126_87 : mm_cd 126 87 = some (.iload_n 1, 1, 0, 0) := rfl
theorem i126_88 : mm_cd 126 88 = some (.iaload, 1, 0, 0) := rfl
theorem i126_89 : mm_cd 126 89 = some (.iload 5, 2, 0, 0) := rfl
theorem i126_91 : mm_cd 126 91 = some (.ishr, 1, 0, 0) := rfl
theorem i126_92 : mm_cd 126 92 = some (.iconst 1, 1, 0, 0) := rfl
theorem i126_93 : mm_cd 126 93 = some (.iand, 1, 0, 0) := rfl
theorem i126_94 : mm_cd 126 94 = some (.ifCond .eq 55, 3, 0, 0) := rfl
theorem i126_97 : mm_cd 126 97 = some (.aload_n 0, 1, 0, 0) := rfl
theorem i126_98 : mm_cd 126 98 = some (.getfield 46, 3, ((9 : Nat) : Int), 7) := rfl
theorem i126_101 : mm_cd 126 101 = some (.iload 5, 2, 0, 0) := rfl
theorem i126_103 : mm_cd 126 103 = some (.aload_n 0, 1, 0, 0) := rfl
theorem i126_104 : mm_cd 126 104 = some (.getfield 46, 3, ((9 : Nat) : Int), 7) := rfl
theorem i126_107 : mm_cd 126 107 = some (.iload 5, 2, 0, 0) := rfl
theorem i126_109 : mm_cd 126 109 = some (.iaload, 1, 0, 0) := rfl
theorem i126_110 : mm_cd 126 110 = some (.iload_n 2, 1, 0, 0) := rfl
theorem i126_111 : mm_cd 126 111 = some (.invokestatic 182, 3, 2, 0) := rfl
theorem i126_114 : mm_cd 126 114 = some (.iastore, 1, 0, 0) := rfl
theorem i126_115 : mm_cd 126 115 = some (.iload 4, 2, 0, 0) := rfl
theorem i126_117 : mm_cd 126 117 = some (.ifCond .eq 32, 3, 0, 0) := rfl
theorem i126_120 : mm_cd 126 120 = some (.aload_n 0, 1, 0, 0) := rfl
theorem i126_121 : mm_cd 126 121 = some (.getfield 49, 3, ((9 : Nat) : Int), 8) := rfl
theorem i126_124 : mm_cd 126 124 = some (.iload 5, 2, 0, 0) := rfl
theorem i126_126 : mm_cd 126 126 = some (.iaload, 1, 0, 0) := rfl
theorem i126_127 : mm_cd 126 127 = some (.ifCond .eq 14, 3, 0, 0) := rfl
theorem i126_130 : mm_cd 126 130 = some (.aload_n 0, 1, 0, 0) := rfl
theorem i126_131 : mm_cd 126 131 = some (.getfield 49, 3, ((9 : Nat) : Int), 8) := rfl
theorem i126_134 : mm_cd 126 134 = some (.iload 5, 2, 0, 0) := rfl
theorem i126_136 : mm_cd 126 136 = some (.iaload, 1, 0, 0) := rfl
theorem i126_137 : mm_cd 126 137 = some (.iload_n 3, 1, 0, 0) := rfl
theorem i126_138 : mm_cd 126 138 = some (.if_icmp .le 11, 3, 0, 0) := rfl
theorem i126_141 : mm_cd 126 141 = some (.aload_n 0, 1, 0, 0) := rfl
theorem i126_142 : mm_cd 126 142 = some (.getfield 49, 3, ((9 : Nat) : Int), 8) := rfl
theorem i126_145 : mm_cd 126 145 = some (.iload 5, 2, 0, 0) := rfl
theorem i126_147 : mm_cd 126 147 = some (.iload_n 3, 1, 0, 0) := rfl
theorem i126_148 : mm_cd 126 148 = some (.iastore, 1, 0, 0) := rfl
theorem i126_149 : mm_cd 126 149 = some (.iinc 5 1, 3, 0, 0) := rfl
theorem i126_152 : mm_cd 126 152 = some (.goto (-114), 3, 0, 0) := rfl
theorem i126_155 : mm_cd 126 155 = some (.return_, 1, 0, 0) := rfl
def q126_149 (k38 : Int32 → Int32 → Int32 → Int32 → Int32 → mS → Option mQ) (a : Nat) (v1 : Int32) (v2 : Int32) (v3 : Int32) (v4 : Int32) (v5 : Int32) (s : mS) : Option mQ := bx (v5 + (1 : Int32)) fun x1 => k38 v1 v2 v3 v4 x1 s
theorem t126_149 {L : Nat} {xs : Nat → Int32} {d : Nat} {k38 : Int32 → Int32 → Int32 → Int32 → Int32 → mS → Option mQ} {a : Nat} (hk38 : ∀ (v1 : Int32) (v2 : Int32) (v3 : Int32) (v4 : Int32) (v5 : Int32) (s : mS) (r : mQ), k38 v1 v2 v3 v4 v5 s = some r → Ev L xs d 126 38 [(0, .ref a), (1, .int v1), (2, .int v2), (3, .int v3), (4, .int v4), (5, .int v5)] [] (hp s) (hr r)) (ma : a ∈ A9) (hd : 1 ≤ d) {v1 : Int32} {v2 : Int32} {v3 : Int32} {v4 : Int32} {v5 : Int32} {s : mS} {r : mQ} (h : q126_149 k38 a v1 v2 v3 v4 v5 s = some r) : Ev L xs d 126 149 [(0, .ref a), (1, .int v1), (2, .int v2), (3, .int v3), (4, .int v4), (5, .int v5)] [] (hp s) (hr r) := by
  unfold q126_149 at h
  refine Rd.iinc H126 i126_149 (Nat.le_of_ble_eq_true rfl) rfl kI_1 (lv2 := fun x1 => [(5, .int x1), (0, .ref a), (1, .int v1), (2, .int v2), (3, .int v3), (4, .int v4)]) (fun _ => rfl) h (fun x1 h => ?_)
  refine Ev.goto H126 i126_152 (t := 38) (by decide) ?_
  exact Ev.sub (l := [(0, .ref a), (1, .int v1), (2, .int v2), (3, .int v3), (4, .int v4), (5, .int x1)]) rfl rfl (mm_sub_c rfl (mm_sub_c rfl (mm_sub_c rfl (mm_sub_c rfl (mm_sub_c rfl (mm_sub_c rfl mm_sub_n)))))) (hk38 _ _ _ _ _ _ _ h)
def q126_141 (k38 : Int32 → Int32 → Int32 → Int32 → Int32 → mS → Option mQ) (a : Nat) (v1 : Int32) (v2 : Int32) (v3 : Int32) (v4 : Int32) (v5 : Int32) (s : mS) : Option mQ := gA 10 v5 <| sp (sI s (a + 31) v5.toNatClampNeg v3) fun s2 => q126_149 k38 a v1 v2 v3 v4 v5 s2
theorem t126_141 {L : Nat} {xs : Nat → Int32} {d : Nat} {k38 : Int32 → Int32 → Int32 → Int32 → Int32 → mS → Option mQ} {a : Nat} (hk38 : ∀ (v1 : Int32) (v2 : Int32) (v3 : Int32) (v4 : Int32) (v5 : Int32) (s : mS) (r : mQ), k38 v1 v2 v3 v4 v5 s = some r → Ev L xs d 126 38 [(0, .ref a), (1, .int v1), (2, .int v2), (3, .int v3), (4, .int v4), (5, .int v5)] [] (hp s) (hr r)) (ma : a ∈ A9) (hd : 1 ≤ d) {v1 : Int32} {v2 : Int32} {v3 : Int32} {v4 : Int32} {v5 : Int32} {s : mS} {r : mQ} (h : q126_141 k38 a v1 v2 v3 v4 v5 s = some r) : Ev L xs d 126 141 [(0, .ref a), (1, .int v1), (2, .int v2), (3, .int v3), (4, .int v4), (5, .int v5)] [] (hp s) (hr r) := by
  unfold q126_141 at h
  refine Ev.aload_n H126 i126_141 rfl ?_
  refine Rd.getR H126 i126_142 (ob9 ma) rfl ?_
  refine Ev.iload H126 i126_145 rfl ?_
  refine Ev.iload_n H126 i126_147 rfl ?_
  refine Rd.iastore H126 i126_148 (ar9_31 ma) h (fun s2 h => ?_)
  exact Ev.sub (l := [(0, .ref a), (1, .int v1), (2, .int v2), (3, .int v3), (4, .int v4), (5, .int v5)]) rfl rfl (mm_sub_c rfl (mm_sub_c rfl (mm_sub_c rfl (mm_sub_c rfl (mm_sub_c rfl (mm_sub_c rfl mm_sub_n)))))) (t126_149 (k38 := k38) hk38 ma hd h)
def q126_80 (k38 : Int32 → Int32 → Int32 → Int32 → Int32 → mS → Option mQ) (a : Nat) (v1 : Int32) (v2 : Int32) (v3 : Int32) (v4 : Int32) (v5 : Int32) (s : mS) : Option mQ := gA 8 v1 <| if ((shrI (s.1 ((a + 6) + 6) v1.toNatClampNeg) v5) &&& (1 : Int32)) = 0 then (q126_149 k38 a v1 v2 v3 v4 v5 s) else (gA 10 v5 <| gA 10 v5 <| sp (sI s (a + 30) v5.toNatClampNeg (mxI (s.1 (a + 30) v5.toNatClampNeg) v2)) fun s3 => if v4 = 0 then (q126_149 k38 a v1 v2 v3 v4 v5 s3) else (gA 10 v5 <| if (s3.1 (a + 31) v5.toNatClampNeg) = 0 then (q126_141 k38 a v1 v2 v3 v4 v5 s3) else (gA 10 v5 <| if (s3.1 (a + 31) v5.toNatClampNeg) ≤ v3 then (q126_149 k38 a v1 v2 v3 v4 v5 s3) else (q126_141 k38 a v1 v2 v3 v4 v5 s3))))
theorem t126_80 {L : Nat} {xs : Nat → Int32} {d : Nat} {k38 : Int32 → Int32 → Int32 → Int32 → Int32 → mS → Option mQ} {a : Nat} (hk38 : ∀ (v1 : Int32) (v2 : Int32) (v3 : Int32) (v4 : Int32) (v5 : Int32) (s : mS) (r : mQ), k38 v1 v2 v3 v4 v5 s = some r → Ev L xs d 126 38 [(0, .ref a), (1, .int v1), (2, .int v2), (3, .int v3), (4, .int v4), (5, .int v5)] [] (hp s) (hr r)) (ma : a ∈ A9) (hd : 1 ≤ d) {v1 : Int32} {v2 : Int32} {v3 : Int32} {v4 : Int32} {v5 : Int32} {s : mS} {r : mQ} (h : q126_80 k38 a v1 v2 v3 v4 v5 s = some r) : Ev L xs d 126 80 [(0, .ref a), (1, .int v1), (2, .int v2), (3, .int v3), (4, .int v4), (5, .int v5)] [] (hp s) (hr r) := by
  unfold q126_80 at h
  refine Ev.aload_n H126 i126_80 rfl ?_
  refine Rd.getR H126 i126_81 (ob9 ma) rfl ?_
  refine Rd.getR H126 i126_84 (ob6 (m9_6_6 ma)) rfl ?_
  refine Ev.iload_n H126 i126_87 rfl ?_
  refine Rd.iaload H126 i126_88 (ar6_6 (m9_6_6 ma)) h (fun h => ?_)
  refine Ev.iload H126 i126_89 rfl ?_
  refine Rd.ishr H126 i126_91 ?_
  refine Ev.iconst H126 i126_92 kI_1 ?_
  refine Ev.iand H126 i126_93 ?_
  refine Rd.if_eq H126 i126_94 (t := 149) (by decide) h (fun hc h => ?_) (fun hc h => ?_)
  · exact Ev.sub (l := [(0, .ref a), (1, .int v1), (2, .int v2), (3, .int v3), (4, .int v4), (5, .int v5)]) rfl rfl (mm_sub_c rfl (mm_sub_c rfl (mm_sub_c rfl (mm_sub_c rfl (mm_sub_c rfl (mm_sub_c rfl mm_sub_n)))))) (t126_149 (k38 := k38) hk38 ma hd h)
  · refine Ev.aload_n H126 i126_97 rfl ?_
    refine Rd.getR H126 i126_98 (ob9 ma) rfl ?_
    refine Ev.iload H126 i126_101 rfl ?_
    refine Ev.aload_n H126 i126_103 rfl ?_
    refine Rd.getR H126 i126_104 (ob9 ma) rfl ?_
    refine Ev.iload H126 i126_107 rfl ?_
    refine Rd.iaload H126 i126_109 (ar9_30 ma) h (fun h => ?_)
    refine Ev.iload_n H126 i126_110 rfl ?_
    refine Rd.max H126 i126_111 (Nat.le_of_ble_eq_true rfl) ?_
    refine Rd.iastore H126 i126_114 (ar9_30 ma) h (fun s3 h => ?_)
    refine Ev.iload H126 i126_115 rfl ?_
    refine Rd.if_eq H126 i126_117 (t := 149) (by decide) h (fun hc h => ?_) (fun hc h => ?_)
    · exact Ev.sub (l := [(0, .ref a), (1, .int v1), (2, .int v2), (3, .int v3), (4, .int v4), (5, .int v5)]) rfl rfl (mm_sub_c rfl (mm_sub_c rfl (mm_sub_c rfl (mm_sub_c rfl (mm_sub_c rfl (mm_sub_c rfl mm_sub_n)))))) (t126_149 (k38 := k38) hk38 ma hd h)
    · refine Ev.aload_n H126 i126_120 rfl ?_
      refine Rd.getR H126 i126_121 (ob9 ma) rfl ?_
      refine Ev.iload H126 i126_124 rfl ?_
      refine Rd.iaload H126 i126_126 (ar9_31 ma) h (fun h => ?_)
      refine Rd.if_eq H126 i126_127 (t := 141) (by decide) h (fun hc h => ?_) (fun hc h => ?_)
      · exact Ev.sub (l := [(0, .ref a), (1, .int v1), (2, .int v2), (3, .int v3), (4, .int v4), (5, .int v5)]) rfl rfl (mm_sub_c rfl (mm_sub_c rfl (mm_sub_c rfl (mm_sub_c rfl (mm_sub_c rfl (mm_sub_c rfl mm_sub_n)))))) (t126_141 (k38 := k38) hk38 ma hd h)
      · refine Ev.aload_n H126 i126_130 rfl ?_
        refine Rd.getR H126 i126_131 (ob9 ma) rfl ?_
        refine Ev.iload H126 i126_134 rfl ?_
        refine Rd.iaload H126 i126_136 (ar9_31 ma) h (fun h => ?_)
        refine Ev.iload_n H126 i126_137 rfl ?_
        refine Rd.ic_le H126 i126_138 (t := 149) (by decide) h (fun hc h => ?_) (fun hc h => ?_)
        · exact Ev.sub (l := [(0, .ref a), (1, .int v1), (2, .int v2), (3, .int v3), (4, .int v4), (5, .int v5)]) rfl rfl (mm_sub_c rfl (mm_sub_c rfl (mm_sub_c rfl (mm_sub_c rfl (mm_sub_c rfl (mm_sub_c rfl mm_sub_n)))))) (t126_149 (k38 := k38) hk38 ma hd h)
        · exact Ev.sub (l := [(0, .ref a), (1, .int v1), (2, .int v2), (3, .int v3), (4, .int v4), (5, .int v5)]) rfl rfl (mm_sub_c rfl (mm_sub_c rfl (mm_sub_c rfl (mm_sub_c rfl (mm_sub_c rfl (mm_sub_c rfl mm_sub_n)))))) (t126_141 (k38 := k38) hk38 ma hd h)
def q126_38 (a : Nat) : Nat → Int32 → Int32 → Int32 → Int32 → Int32 → mS → Option mQ
  | 0, _, _, _, _, _, _ => none
  | n + 1, v1, v2, v3, v4, v5, s => if (10 : Int32) ≤ v5 then (ru s) else (gA 8 v1 <| if ((shrI (s.1 ((a + 6) + 5) v1.toNatClampNeg) v5) &&& (1 : Int32)) = 0 then (q126_80 (q126_38 a n) a v1 v2 v3 v4 v5 s) else (gA 10 v5 <| gA 10 v5 <| sp (sI s (a + 29) v5.toNatClampNeg (mxI (s.1 (a + 29) v5.toNatClampNeg) v2)) fun s4 => q126_80 (q126_38 a n) a v1 v2 v3 v4 v5 s4))
theorem t126_38 {L : Nat} {xs : Nat → Int32} {d : Nat} {a : Nat} (ma : a ∈ A9) (hd : 1 ≤ d) : ∀ (n : Nat) (v1 : Int32) (v2 : Int32) (v3 : Int32) (v4 : Int32) (v5 : Int32) (s : mS) (r : mQ), q126_38 a n v1 v2 v3 v4 v5 s = some r → Ev L xs d 126 38 [(0, .ref a), (1, .int v1), (2, .int v2), (3, .int v3), (4, .int v4), (5, .int v5)] [] (hp s) (hr r) := by
  intro n
  induction n with
  | zero => intro v1 v2 v3 v4 v5 s r h; rw [q126_38] at h; cases h
  | succ n ih =>
    intro v1 v2 v3 v4 v5 s r h
    rw [q126_38] at h
    refine Ev.iload H126 i126_38 rfl ?_
    refine Ev.bipush H126 i126_40 kB_10 ?_
    refine Rd.ic_ge H126 i126_42 (t := 155) (by decide) h (fun hc h => ?_) (fun hc h => ?_)
    · exact Rd.return_ H126 i126_155 rfl h
    · refine Ev.aload_n H126 i126_45 rfl ?_
      refine Rd.getR H126 i126_46 (ob9 ma) rfl ?_
      refine Rd.getR H126 i126_49 (ob6 (m9_6_6 ma)) rfl ?_
      refine Ev.iload_n H126 i126_52 rfl ?_
      refine Rd.iaload H126 i126_53 (ar6_5 (m9_6_6 ma)) h (fun h => ?_)
      refine Ev.iload H126 i126_54 rfl ?_
      refine Rd.ishr H126 i126_56 ?_
      refine Ev.iconst H126 i126_57 kI_1 ?_
      refine Ev.iand H126 i126_58 ?_
      refine Rd.if_eq H126 i126_59 (t := 80) (by decide) h (fun hc h => ?_) (fun hc h => ?_)
      · exact Ev.sub (l := [(0, .ref a), (1, .int v1), (2, .int v2), (3, .int v3), (4, .int v4), (5, .int v5)]) rfl rfl (mm_sub_c rfl (mm_sub_c rfl (mm_sub_c rfl (mm_sub_c rfl (mm_sub_c rfl (mm_sub_c rfl mm_sub_n)))))) (t126_80 (k38 := (q126_38 a n)) (fun _ _ _ _ _ _ _ h => ih _ _ _ _ _ _ _ h) ma hd h)
      · refine Ev.aload_n H126 i126_62 rfl ?_
        refine Rd.getR H126 i126_63 (ob9 ma) rfl ?_
        refine Ev.iload H126 i126_66 rfl ?_
        refine Ev.aload_n H126 i126_68 rfl ?_
        refine Rd.getR H126 i126_69 (ob9 ma) rfl ?_
        refine Ev.iload H126 i126_72 rfl ?_
        refine Rd.iaload H126 i126_74 (ar9_29 ma) h (fun h => ?_)
        refine Ev.iload_n H126 i126_75 rfl ?_
        refine Rd.max H126 i126_76 (Nat.le_of_ble_eq_true rfl) ?_
        refine Rd.iastore H126 i126_79 (ar9_29 ma) h (fun s4 h => ?_)
        exact Ev.sub (l := [(0, .ref a), (1, .int v1), (2, .int v2), (3, .int v3), (4, .int v4), (5, .int v5)]) rfl rfl (mm_sub_c rfl (mm_sub_c rfl (mm_sub_c rfl (mm_sub_c rfl (mm_sub_c rfl (mm_sub_c rfl mm_sub_n)))))) (t126_80 (k38 := (q126_38 a n)) (fun _ _ _ _ _ _ _ h => ih _ _ _ _ _ _ _ h) ma hd h)
def q126_33 (a : Nat) (v1 : Int32) (v2 : Int32) (v3 : Int32) (y0 : Int32) (s : mS) : Option mQ := q126_38 a 10000 v1 v2 v3 y0 (0 : Int32) s
theorem t126_33 {L : Nat} {xs : Nat → Int32} {d : Nat} {a : Nat} (ma : a ∈ A9) (hd : 1 ≤ d) {v1 : Int32} {v2 : Int32} {v3 : Int32} {y0 : Int32} {s : mS} {r : mQ} (h : q126_33 a v1 v2 v3 y0 s = some r) : Ev L xs d 126 33 [(0, .ref a), (1, .int v1), (2, .int v2), (3, .int v3)] [.int y0] (hp s) (hr r) := by
  unfold q126_33 at h
  refine Ev.istore H126 i126_33 (Nat.le_of_ble_eq_true rfl) (lv2 := [(4, .int y0), (0, .ref a), (1, .int v1), (2, .int v2), (3, .int v3)]) rfl ?_
  refine Ev.iconst H126 i126_35 kI_0 ?_
  refine Ev.istore H126 i126_36 (Nat.le_of_ble_eq_true rfl) (lv2 := [(5, .int (0 : Int32)), (4, .int y0), (0, .ref a), (1, .int v1), (2, .int v2), (3, .int v3)]) rfl ?_
  exact Ev.sub (l := [(0, .ref a), (1, .int v1), (2, .int v2), (3, .int v3), (4, .int y0), (5, .int (0 : Int32))]) rfl rfl (mm_sub_c rfl (mm_sub_c rfl (mm_sub_c rfl (mm_sub_c rfl (mm_sub_c rfl (mm_sub_c rfl mm_sub_n)))))) (t126_38 ma hd 10000 _ _ _ _ _ _ _ h)
def q126_32 (a : Nat) (v1 : Int32) (v2 : Int32) (v3 : Int32) (s : mS) : Option mQ := q126_33 a v1 v2 v3 (0 : Int32) s
theorem t126_32 {L : Nat} {xs : Nat → Int32} {d : Nat} {a : Nat} (ma : a ∈ A9) (hd : 1 ≤ d) {v1 : Int32} {v2 : Int32} {v3 : Int32} {s : mS} {r : mQ} (h : q126_32 a v1 v2 v3 s = some r) : Ev L xs d 126 32 [(0, .ref a), (1, .int v1), (2, .int v2), (3, .int v3)] [] (hp s) (hr r) := by
  unfold q126_32 at h
  refine Ev.iconst H126 i126_32 kI_0 ?_
  exact Ev.sub (l := [(0, .ref a), (1, .int v1), (2, .int v2), (3, .int v3)]) rfl rfl (mm_sub_c rfl (mm_sub_c rfl (mm_sub_c rfl (mm_sub_c rfl mm_sub_n)))) (t126_33 ma hd h)
/-- SerialGate$World.summarise(I)V -/
def q126 (a : Nat) (v1 : Int32) (s : mS) : Option mQ := gA 8 v1 <| bx (s.1 ((a + 6) + 3) v1.toNatClampNeg) fun x5 => bN (q76 (a + 6) v1 s) fun x7 s6 => if x7 ≤ 0 then (q126_32 a v1 x5 x7 s6) else (if x5 ≤ x7 then (q126_32 a v1 x5 x7 s6) else (q126_33 a v1 x5 x7 (1 : Int32) s6))
theorem c126 {L : Nat} {xs : Nat → Int32} {a : Nat} (ma : a ∈ A9) {v1 : Int32} {s : mS} {r : mQ} (h : q126 a v1 s = some r) : ∀ d, 1 ≤ d → Cl L xs d 126 [.ref a, .int v1] (hp s) (hr r) := by
  intro d hd
  show Ev L xs d 126 0 [(0, .ref a), (1, .int v1)] [] (hp s) (hr r)
  unfold q126 at h
  refine Ev.aload_n H126 i126_0 rfl ?_
  refine Rd.getR H126 i126_1 (ob9 ma) rfl ?_
  refine Rd.getR H126 i126_4 (ob6 (m9_6_6 ma)) rfl ?_
  refine Ev.iload_n H126 i126_7 rfl ?_
  refine Rd.iaload H126 i126_8 (ar6_3 (m9_6_6 ma)) h (fun h => ?_)
  refine Rd.istore_n H126 i126_9 (Nat.le_of_ble_eq_true rfl) (lv2 := fun x5 => [(2, .int x5), (0, .ref a), (1, .int v1)]) (fun _ => rfl) h (fun x5 h => ?_)
  refine Ev.aload_n H126 i126_10 rfl ?_
  refine Rd.getR H126 i126_11 (ob9 ma) rfl ?_
  refine Ev.iload_n H126 i126_14 rfl ?_
  refine Rd.cV1vN H126 i126_15 cal76 (ob6 (m9_6_6 ma)) (Nat.le_of_ble_eq_true rfl) (Nat.le_of_ble_eq_true rfl) (Nat.lt_of_lt_of_le (by decide) hd) (fun q hq => c76 (m9_6_6 ma) hq) h (fun x7 s6 h => ?_)
  refine Ev.istore_n H126 i126_18 (Nat.le_of_ble_eq_true rfl) (lv2 := [(3, .int x7), (2, .int x5), (0, .ref a), (1, .int v1)]) rfl ?_
  refine Ev.iload_n H126 i126_19 rfl ?_
  refine Rd.if_le H126 i126_20 (t := 32) (by decide) h (fun hc h => ?_) (fun hc h => ?_)
  · exact Ev.sub (l := [(0, .ref a), (1, .int v1), (2, .int x5), (3, .int x7)]) rfl rfl (mm_sub_c rfl (mm_sub_c rfl (mm_sub_c rfl (mm_sub_c rfl mm_sub_n)))) (t126_32 ma hd h)
  · refine Ev.iload_n H126 i126_23 rfl ?_
    refine Ev.iload_n H126 i126_24 rfl ?_
    refine Rd.ic_ge H126 i126_25 (t := 32) (by decide) h (fun hc h => ?_) (fun hc h => ?_)
    · exact Ev.sub (l := [(0, .ref a), (1, .int v1), (2, .int x5), (3, .int x7)]) rfl rfl (mm_sub_c rfl (mm_sub_c rfl (mm_sub_c rfl (mm_sub_c rfl mm_sub_n)))) (t126_32 ma hd h)
    · refine Ev.iconst H126 i126_28 kI_1 ?_
      refine Ev.goto H126 i126_29 (t := 33) (by decide) ?_
      exact Ev.sub (l := [(0, .ref a), (1, .int v1), (2, .int x5), (3, .int x7)]) rfl rfl (mm_sub_c rfl (mm_sub_c rfl (mm_sub_c rfl (mm_sub_c rfl mm_sub_n)))) (t126_33 ma hd h)
theorem i125_0 : mm_cd 125 0 = some (.aload_n 0, 1, 0, 0) := rfl
theorem i125_1 : mm_cd 125 1 = some (.getfield 21, 3, ((9 : Nat) : Int), 2) := rfl
theorem i125_4 : mm_cd 125 4 = some (.invokevirtual 255, 3, 0, 74) := rfl
theorem i125_7 : mm_cd 125 7 = some (.istore_n 1, 1, 0, 0) := rfl
theorem i125_8 : mm_cd 125 8 = some (.iconst 0, 1, 0, 0) := rfl
theorem i125_9 : mm_cd 125 9 = some (.istore_n 2, 1, 0, 0) := rfl
theorem i125_10 : mm_cd 125 10 = some (.iload_n 2, 1, 0, 0) := rfl
theorem i125_11 : mm_cd 125 11 = some (.bipush 8, 2, 0, 0) := rfl
theorem i125_13 : mm_cd 125 13 = some (.if_icmp .ge 69, 3, 0, 0) := rfl
theorem i125_16 : mm_cd 125 16 = some (.aload_n 0, 1, 0, 0) := rfl
theorem i125_17 : mm_cd 125 17 = some (.getfield 21, 3, ((9 : Nat) : Int), 2) := rfl
theorem i125_20 : mm_cd 125 20 = some (.invokevirtual 258, 3, 0, 75) := rfl
theorem i125_23 : mm_cd 125 23 = some (.istore_n 3, 1, 0, 0) := rfl
theorem i125_24 : mm_cd 125 24 = some (.iload_n 3, 1, 0, 0) := rfl
theorem i125_25 : mm_cd 125 25 = some (.iconst (-1), 1, 0, 0) := rfl
theorem i125_26 : mm_cd 125 26 = some (.if_icmp .eq 56, 3, 0, 0) := rfl
theorem i125_29 : mm_cd 125 29 = some (.aload_n 0, 1, 0, 0) := rfl
theorem i125_30 : mm_cd 125 30 = some (.getfield 21, 3, ((9 : Nat) : Int), 2) := rfl
theorem i125_33 : mm_cd 125 33 = some (.getfield 261, 3, ((6 : Nat) : Int), 6) := rfl
theorem i125_36 : mm_cd 125 36 = some (.iload_n 3, 1, 0, 0) := rfl
theorem i125_37 : mm_cd 125 37 = some (.iaload, 1, 0, 0) := rfl
theorem i125_38 : mm_cd 125 38 = some (.iload_n 1, 1, 0, 0) := rfl
theorem i125_39 : mm_cd 125 39 = some (.if_icmp .lt 6, 3, 0, 0) := rfl
theorem i125_42 : mm_cd 125 42 = some (.goto 40, 3, 0, 0) := rfl
theorem i125_45 : mm_cd 125 45 = some (.aload_n 0, 1, 0, 0) := rfl
theorem i125_46 : mm_cd 125 46 = some (.getfield 35, 3, ((9 : Nat) : Int), 4) := rfl
theorem i125_49 : mm_cd 125 49 = some (.aload_n 0, 1, 0, 0) := rfl
theorem i125_50 : mm_cd 125 50 = some (.getfield 52, 3, ((9 : Nat) : Int), 9) := rfl
theorem i125_53 : mm_cd 125 53 = some (.aload_n 0, 1, 0, 0) := rfl
theorem i125_54 : mm_cd 125 54 = some (.getfield 21, 3, ((9 : Nat) : Int), 2) := rfl
theorem i125_57 : mm_cd 125 57 = some (.getfield 197, 3, ((6 : Nat) : Int), 4) := rfl
theorem i125_60 : mm_cd 125 60 = some (.iload_n 3, 1, 0, 0) := rfl
theorem i125_61 : mm_cd 125 61 = some (.iaload, 1, 0, 0) := rfl
theorem i125_62 : mm_cd 125 62 = some (.bipush 6, 2, 0, 0) := rfl
theorem i125_64 : mm_cd 125 64 = some (.iload_n 3, 1, 0, 0) := rfl
theorem i125_65 : mm_cd 125 65 = some (.invokevirtual 210, 3, 0, 43) := rfl
theorem i125_68 : mm_cd 125 68 = some (.aload_n 0, 1, 0, 0) := rfl
theorem i125_69 : mm_cd 125 69 = some (.getfield 21, 3, ((9 : Nat) : Int), 2) := rfl
theorem i125_72 : mm_cd 125 72 = some (.iload_n 3, 1, 0, 0) := rfl
theorem i125_73 : mm_cd 125 73 = some (.invokevirtual 264, 3, 0, 81) := rfl
theorem i125_76 : mm_cd 125 76 = some (.iinc 2 1, 3, 0, 0) := rfl
theorem i125_79 : mm_cd 125 79 = some (.goto (-69), 3, 0, 0) := rfl
theorem i125_82 : mm_cd 125 82 = some (.iconst 0, 1, 0, 0) := rfl
theorem i125_83 : mm_cd 125 83 = some (.istore_n 2, 1, 0, 0) := rfl
theorem i125_84 : mm_cd 125 84 = some (.iload_n 2, 1, 0, 0) := rfl
theorem i125_85 : mm_cd 125 85 = some (.bipush 8, 2, 0, 0) := rfl
theorem i125_87 : mm_cd 125 87 = some (.if_icmp .ge 77, 3, 0, 0) := rfl
theorem i125_90 : mm_cd 125 90 = some (.aload_n 0, 1, 0, 0) := rfl
theorem i125_91 : mm_cd 125 91 = some (.getfield 21, 3, ((9 : Nat) : Int), 2) := rfl
theorem i125_94 : mm_cd 125 94 = some (.getfield 267, 3, ((6 : Nat) : Int), 1) := rfl
theorem i125_97 : mm_cd 125 97 = some (.invokestatic 249, 3, 0, 343) := rfl
theorem i125_100 : mm_cd 125 100 = some (.aload_n 0, 1, 0, 0) := rfl
theorem i125_101 : mm_cd 125 101 = some (.getfield 56, 3, ((9 : Nat) : Int), 10) := rfl
theorem i125_104 : mm_cd 125 104 = some (.if_icmp .le 60, 3, 0, 0) := rfl
theorem i125_107 : mm_cd 125 107 = some (.aload_n 0, 1, 0, 0) := rfl
theorem i125_108 : mm_cd 125 108 = some (.getfield 21, 3, ((9 : Nat) : Int), 2) := rfl
theorem i125_111 : mm_cd 125 111 = some (.invokevirtual 258, 3, 0, 75) := rfl
theorem i125_114 : mm_cd 125 114 = some (.istore_n 3, 1, 0, 0) := rfl
theorem i125_115 : mm_cd 125 115 = some (.iload_n 3, 1, 0, 0) := rfl
theorem i125_116 : mm_cd 125 116 = some (.iconst (-1), 1, 0, 0) := rfl
theorem i125_117 : mm_cd 125 117 = some (.if_icmp .ne 6, 3, 0, 0) := rfl
theorem i125_120 : mm_cd 125 120 = some (.goto 44, 3, 0, 0) := rfl
theorem i125_123 : mm_cd 125 123 = some (.aload_n 0, 1, 0, 0) := rfl
theorem i125_124 : mm_cd 125 124 = some (.iload_n 3, 1, 0, 0) := rfl
theorem i125_125 : mm_cd 125 125 = some (.invokevirtual 270, 3, 0, 126) := rfl
theorem i125_128 : mm_cd 125 128 = some (.aload_n 0, 1, 0, 0) := rfl
theorem i125_129 : mm_cd 125 129 = some (.getfield 35, 3, ((9 : Nat) : Int), 4) := rfl
theorem i125_132 : mm_cd 125 132 = some (.aload_n 0, 1, 0, 0) := rfl
theorem i125_133 : mm_cd 125 133 = some (.getfield 52, 3, ((9 : Nat) : Int), 9) := rfl
theorem i125_136 : mm_cd 125 136 = some (.aload_n 0, 1, 0, 0) := rfl
theorem i125_137 : mm_cd 125 137 = some (.getfield 21, 3, ((9 : Nat) : Int), 2) := rfl
theorem i125_140 : mm_cd 125 140 = some (.getfield 197, 3, ((6 : Nat) : Int), 4) := rfl
theorem i125_143 : mm_cd 125 143 = some (.iload_n 3, 1, 0, 0) := rfl
theorem i125_144 : mm_cd 125 144 = some (.iaload, 1, 0, 0) := rfl
theorem i125_145 : mm_cd 125 145 = some (.iconst 5, 1, 0, 0) := rfl
theorem i125_146 : mm_cd 125 146 = some (.iload_n 3, 1, 0, 0) := rfl
theorem i125_147 : mm_cd 125 147 = some (.invokevirtual 210, 3, 0, 43) := rfl
theorem i125_150 : mm_cd 125 150 = some (.aload_n 0, 1, 0, 0) := rfl
theorem i125_151 : mm_cd 125 151 = some (.getfield 21, 3, ((9 : Nat) : Int), 2) := rfl
theorem i125_154 : mm_cd 125 154 = some (.iload_n 3, 1, 0, 0) := rfl
theorem i125_155 : mm_cd 125 155 = some (.invokevirtual 264, 3, 0, 81) := rfl
theorem i125_158 : mm_cd 125 158 = some (.iinc 2 1, 3, 0, 0) := rfl
theorem i125_161 : mm_cd 125 161 = some (.goto (-77), 3, 0, 0) := rfl
theorem i125_164 : mm_cd 125 164 = some (.return_, 1, 0, 0) := rfl
def q125_10 (k42 : mS → Option mQ) (k82 : mS → Option mQ) (a : Nat) : Nat → Int32 → Int32 → mS → Option mQ
  | 0, _, _, _ => none
  | n + 1, v1, v2, s => if (8 : Int32) ≤ v2 then (k82 s) else (bN (q75 (a + 6) s) fun x2 s1 => if x2 = (-1 : Int32) then (k82 s1) else (gA 8 x2 <| if (s1.1 ((a + 6) + 3) x2.toNatClampNeg) < v1 then (gA 8 x2 <| bM (q43 (a + 26) (s1.1 a 9) (s1.1 ((a + 6) + 1) x2.toNatClampNeg) (6 : Int32) x2 s1) fun s3 => bM (q81 (a + 6) x2 s3) fun s4 => bx (v2 + (1 : Int32)) fun x5 => q125_10 k42 k82 a n v1 x5 s4) else (k42 s1)))
theorem t125_10 {L : Nat} {xs : Nat → Int32} {d : Nat} {k42 : mS → Option mQ} {k82 : mS → Option mQ} {a : Nat} (hk42 : ∀ (s : mS) (r : mQ), k42 s = some r → Ev L xs d 125 42 [(0, .ref a)] [] (hp s) (hr r)) (hk82 : ∀ (s : mS) (r : mQ), k82 s = some r → Ev L xs d 125 82 [(0, .ref a)] [] (hp s) (hr r)) (ma : a ∈ A9) (hd : 2 ≤ d) : ∀ (n : Nat) (v1 : Int32) (v2 : Int32) (s : mS) (r : mQ), q125_10 k42 k82 a n v1 v2 s = some r → Ev L xs d 125 10 [(0, .ref a), (1, .int v1), (2, .int v2)] [] (hp s) (hr r) := by
  intro n
  induction n with
  | zero => intro v1 v2 s r h; rw [q125_10] at h; cases h
  | succ n ih =>
    intro v1 v2 s r h
    rw [q125_10] at h
    refine Ev.iload_n H125 i125_10 rfl ?_
    refine Ev.bipush H125 i125_11 kB_8 ?_
    refine Rd.ic_ge H125 i125_13 (t := 82) (by decide) h (fun hc h => ?_) (fun hc h => ?_)
    · exact Ev.sub (l := [(0, .ref a)]) rfl rfl (mm_sub_c rfl mm_sub_n) (hk82 _ _ h)
    · refine Ev.aload_n H125 i125_16 rfl ?_
      refine Rd.getR H125 i125_17 (ob9 ma) rfl ?_
      refine Rd.cV0vN H125 i125_20 cal75 (ob6 (m9_6_6 ma)) (Nat.le_of_ble_eq_true rfl) (Nat.le_of_ble_eq_true rfl) (Nat.lt_of_lt_of_le (by decide) hd) (fun q hq => c75 (m9_6_6 ma) hq) h (fun x2 s1 h => ?_)
      refine Ev.istore_n H125 i125_23 (Nat.le_of_ble_eq_true rfl) (lv2 := [(3, .int x2), (0, .ref a), (1, .int v1), (2, .int v2)]) rfl ?_
      refine Ev.iload_n H125 i125_24 rfl ?_
      refine Ev.iconst H125 i125_25 kI_m1 ?_
      refine Rd.ic_eq H125 i125_26 (t := 82) (by decide) h (fun hc h => ?_) (fun hc h => ?_)
      · exact Ev.sub (l := [(0, .ref a)]) rfl rfl (mm_sub_c rfl mm_sub_n) (hk82 _ _ h)
      · refine Ev.aload_n H125 i125_29 rfl ?_
        refine Rd.getR H125 i125_30 (ob9 ma) rfl ?_
        refine Rd.getR H125 i125_33 (ob6 (m9_6_6 ma)) rfl ?_
        refine Ev.iload_n H125 i125_36 rfl ?_
        refine Rd.iaload H125 i125_37 (ar6_3 (m9_6_6 ma)) h (fun h => ?_)
        refine Ev.iload_n H125 i125_38 rfl ?_
        refine Rd.ic_lt H125 i125_39 (t := 45) (by decide) h (fun hc h => ?_) (fun hc h => ?_)
        · refine Ev.aload_n H125 i125_45 rfl ?_
          refine Rd.getR H125 i125_46 (ob9 ma) rfl ?_
          refine Ev.aload_n H125 i125_49 rfl ?_
          refine Rd.getI H125 i125_50 (ob9 ma) rfl ?_
          refine Ev.aload_n H125 i125_53 rfl ?_
          refine Rd.getR H125 i125_54 (ob9 ma) rfl ?_
          refine Rd.getR H125 i125_57 (ob6 (m9_6_6 ma)) rfl ?_
          refine Ev.iload_n H125 i125_60 rfl ?_
          refine Rd.iaload H125 i125_61 (ar6_1 (m9_6_6 ma)) h (fun h => ?_)
          refine Ev.bipush H125 i125_62 kB_6 ?_
          refine Ev.iload_n H125 i125_64 rfl ?_
          refine Rd.cV4uN H125 i125_65 cal43 (ob4 (m9_4_26 ma)) (Nat.le_of_ble_eq_true rfl) (Nat.le_of_ble_eq_true rfl) (Nat.lt_of_lt_of_le (by decide) hd) (fun q hq => c43 (m9_4_26 ma) hq) h (fun s3 h => ?_)
          refine Ev.aload_n H125 i125_68 rfl ?_
          refine Rd.getR H125 i125_69 (ob9 ma) rfl ?_
          refine Ev.iload_n H125 i125_72 rfl ?_
          refine Rd.cV1uN H125 i125_73 cal81 (ob6 (m9_6_6 ma)) (Nat.le_of_ble_eq_true rfl) (Nat.le_of_ble_eq_true rfl) (Nat.lt_of_lt_of_le (by decide) hd) (fun q hq => c81 (m9_6_6 ma) hq) h (fun s4 h => ?_)
          refine Rd.iinc H125 i125_76 (Nat.le_of_ble_eq_true rfl) rfl kI_1 (lv2 := fun x5 => [(2, .int x5), (3, .int x2), (0, .ref a), (1, .int v1)]) (fun _ => rfl) h (fun x5 h => ?_)
          refine Ev.goto H125 i125_79 (t := 10) (by decide) ?_
          exact Ev.sub (l := [(0, .ref a), (1, .int v1), (2, .int x5)]) rfl rfl (mm_sub_c rfl (mm_sub_c rfl (mm_sub_c rfl mm_sub_n))) (ih _ _ _ _ h)
        · exact Ev.sub (l := [(0, .ref a)]) rfl rfl (mm_sub_c rfl mm_sub_n) (hk42 _ _ h)
def q125_84 (k120 : mS → Option mQ) (a : Nat) : Nat → Int32 → mS → Option mQ
  | 0, _, _ => none
  | n + 1, v2, s => if (8 : Int32) ≤ v2 then (ru s) else (bN (q343 (s.1 (a + 6) 1) s) fun x7 s6 => if x7 ≤ (s6.1 a 10) then (ru s6) else (bN (q75 (a + 6) s6) fun x9 s8 => if ¬ x9 = (-1 : Int32) then (bM (q126 a x9 s8) fun s10 => gA 8 x9 <| bM (q43 (a + 26) (s10.1 a 9) (s10.1 ((a + 6) + 1) x9.toNatClampNeg) (5 : Int32) x9 s10) fun s11 => bM (q81 (a + 6) x9 s11) fun s12 => bx (v2 + (1 : Int32)) fun x13 => q125_84 k120 a n x13 s12) else (k120 s8)))
theorem t125_84 {L : Nat} {xs : Nat → Int32} {d : Nat} {k120 : mS → Option mQ} {a : Nat} (hk120 : ∀ (s : mS) (r : mQ), k120 s = some r → Ev L xs d 125 120 [] [] (hp s) (hr r)) (ma : a ∈ A9) (hd : 2 ≤ d) : ∀ (n : Nat) (v2 : Int32) (s : mS) (r : mQ), q125_84 k120 a n v2 s = some r → Ev L xs d 125 84 [(0, .ref a), (2, .int v2)] [] (hp s) (hr r) := by
  intro n
  induction n with
  | zero => intro v2 s r h; rw [q125_84] at h; cases h
  | succ n ih =>
    intro v2 s r h
    rw [q125_84] at h
    refine Ev.iload_n H125 i125_84 rfl ?_
    refine Ev.bipush H125 i125_85 kB_8 ?_
    refine Rd.ic_ge H125 i125_87 (t := 164) (by decide) h (fun hc h => ?_) (fun hc h => ?_)
    · exact Rd.return_ H125 i125_164 rfl h
    · refine Ev.aload_n H125 i125_90 rfl ?_
      refine Rd.getR H125 i125_91 (ob9 ma) rfl ?_
      refine Rd.getI H125 i125_94 (ob6 (m9_6_6 ma)) rfl ?_
      refine Rd.cS1vN H125 i125_97 cal343 (Nat.le_of_ble_eq_true rfl) (Nat.le_of_ble_eq_true rfl) (Nat.lt_of_lt_of_le (by decide) hd) (fun q hq => c343 hq) h (fun x7 s6 h => ?_)
      refine Ev.aload_n H125 i125_100 rfl ?_
      refine Rd.getI H125 i125_101 (ob9 ma) rfl ?_
      refine Rd.ic_le H125 i125_104 (t := 164) (by decide) h (fun hc h => ?_) (fun hc h => ?_)
      · exact Rd.return_ H125 i125_164 rfl h
      · refine Ev.aload_n H125 i125_107 rfl ?_
        refine Rd.getR H125 i125_108 (ob9 ma) rfl ?_
        refine Rd.cV0vN H125 i125_111 cal75 (ob6 (m9_6_6 ma)) (Nat.le_of_ble_eq_true rfl) (Nat.le_of_ble_eq_true rfl) (Nat.lt_of_lt_of_le (by decide) hd) (fun q hq => c75 (m9_6_6 ma) hq) h (fun x9 s8 h => ?_)
        refine Ev.istore_n H125 i125_114 (Nat.le_of_ble_eq_true rfl) (lv2 := [(3, .int x9), (0, .ref a), (2, .int v2)]) rfl ?_
        refine Ev.iload_n H125 i125_115 rfl ?_
        refine Ev.iconst H125 i125_116 kI_m1 ?_
        refine Rd.ic_ne H125 i125_117 (t := 123) (by decide) h (fun hc h => ?_) (fun hc h => ?_)
        · refine Ev.aload_n H125 i125_123 rfl ?_
          refine Ev.iload_n H125 i125_124 rfl ?_
          refine Rd.cV1uN H125 i125_125 cal126 (ob9 ma) (Nat.le_of_ble_eq_true rfl) (Nat.le_of_ble_eq_true rfl) (Nat.lt_of_lt_of_le (by decide) hd) (fun q hq => c126 ma hq) h (fun s10 h => ?_)
          refine Ev.aload_n H125 i125_128 rfl ?_
          refine Rd.getR H125 i125_129 (ob9 ma) rfl ?_
          refine Ev.aload_n H125 i125_132 rfl ?_
          refine Rd.getI H125 i125_133 (ob9 ma) rfl ?_
          refine Ev.aload_n H125 i125_136 rfl ?_
          refine Rd.getR H125 i125_137 (ob9 ma) rfl ?_
          refine Rd.getR H125 i125_140 (ob6 (m9_6_6 ma)) rfl ?_
          refine Ev.iload_n H125 i125_143 rfl ?_
          refine Rd.iaload H125 i125_144 (ar6_1 (m9_6_6 ma)) h (fun h => ?_)
          refine Ev.iconst H125 i125_145 kI_5 ?_
          refine Ev.iload_n H125 i125_146 rfl ?_
          refine Rd.cV4uN H125 i125_147 cal43 (ob4 (m9_4_26 ma)) (Nat.le_of_ble_eq_true rfl) (Nat.le_of_ble_eq_true rfl) (Nat.lt_of_lt_of_le (by decide) hd) (fun q hq => c43 (m9_4_26 ma) hq) h (fun s11 h => ?_)
          refine Ev.aload_n H125 i125_150 rfl ?_
          refine Rd.getR H125 i125_151 (ob9 ma) rfl ?_
          refine Ev.iload_n H125 i125_154 rfl ?_
          refine Rd.cV1uN H125 i125_155 cal81 (ob6 (m9_6_6 ma)) (Nat.le_of_ble_eq_true rfl) (Nat.le_of_ble_eq_true rfl) (Nat.lt_of_lt_of_le (by decide) hd) (fun q hq => c81 (m9_6_6 ma) hq) h (fun s12 h => ?_)
          refine Rd.iinc H125 i125_158 (Nat.le_of_ble_eq_true rfl) rfl kI_1 (lv2 := fun x13 => [(2, .int x13), (3, .int x9), (0, .ref a)]) (fun _ => rfl) h (fun x13 h => ?_)
          refine Ev.goto H125 i125_161 (t := 84) (by decide) ?_
          exact Ev.sub (l := [(0, .ref a), (2, .int x13)]) rfl rfl (mm_sub_c rfl (mm_sub_c rfl mm_sub_n)) (ih _ _ _ h)
        · exact Ev.sub (l := []) rfl rfl mm_sub_n (hk120 _ _ h)
def q125_120 (a : Nat) (s : mS) : Option mQ := ru s
theorem t125_120 {L : Nat} {xs : Nat → Int32} {d : Nat} {a : Nat} (ma : a ∈ A9) (hd : 2 ≤ d) {s : mS} {r : mQ} (h : q125_120 a s = some r) : Ev L xs d 125 120 [] [] (hp s) (hr r) := by
  unfold q125_120 at h
  refine Ev.goto H125 i125_120 (t := 164) (by decide) ?_
  exact Rd.return_ H125 i125_164 rfl h
def q125_82 (a : Nat) (s : mS) : Option mQ := q125_84 (q125_120 a) a 10000 (0 : Int32) s
theorem t125_82 {L : Nat} {xs : Nat → Int32} {d : Nat} {a : Nat} (ma : a ∈ A9) (hd : 2 ≤ d) {s : mS} {r : mQ} (h : q125_82 a s = some r) : Ev L xs d 125 82 [(0, .ref a)] [] (hp s) (hr r) := by
  unfold q125_82 at h
  refine Ev.iconst H125 i125_82 kI_0 ?_
  refine Ev.istore_n H125 i125_83 (Nat.le_of_ble_eq_true rfl) (lv2 := [(2, .int (0 : Int32)), (0, .ref a)]) rfl ?_
  exact Ev.sub (l := [(0, .ref a), (2, .int (0 : Int32))]) rfl rfl (mm_sub_c rfl (mm_sub_c rfl mm_sub_n)) (t125_84 (k120 := (q125_120 a)) (fun _ _ h => t125_120 ma hd h) ma hd 10000 _ _ _ h)
def q125_42 (a : Nat) (s : mS) : Option mQ := q125_82 a s
theorem t125_42 {L : Nat} {xs : Nat → Int32} {d : Nat} {a : Nat} (ma : a ∈ A9) (hd : 2 ≤ d) {s : mS} {r : mQ} (h : q125_42 a s = some r) : Ev L xs d 125 42 [(0, .ref a)] [] (hp s) (hr r) := by
  unfold q125_42 at h
  refine Ev.goto H125 i125_42 (t := 82) (by decide) ?_
  exact Ev.sub (l := [(0, .ref a)]) rfl rfl (mm_sub_c rfl mm_sub_n) (t125_82 ma hd h)
/-- SerialGate$World.tidy()V -/
def q125 (a : Nat) (s : mS) : Option mQ := bN (q74 (a + 6) s) fun x15 s14 => q125_10 (q125_42 a) (q125_82 a) a 10000 x15 (0 : Int32) s14
theorem c125 {L : Nat} {xs : Nat → Int32} {a : Nat} (ma : a ∈ A9) {s : mS} {r : mQ} (h : q125 a s = some r) : ∀ d, 2 ≤ d → Cl L xs d 125 [.ref a] (hp s) (hr r) := by
  intro d hd
  show Ev L xs d 125 0 [(0, .ref a)] [] (hp s) (hr r)
  unfold q125 at h
  refine Ev.aload_n H125 i125_0 rfl ?_
  refine Rd.getR H125 i125_1 (ob9 ma) rfl ?_
  refine Rd.cV0vN H125 i125_4 cal74 (ob6 (m9_6_6 ma)) (Nat.le_of_ble_eq_true rfl) (Nat.le_of_ble_eq_true rfl) (Nat.lt_of_lt_of_le (by decide) hd) (fun q hq => c74 (m9_6_6 ma) hq) h (fun x15 s14 h => ?_)
  refine Ev.istore_n H125 i125_7 (Nat.le_of_ble_eq_true rfl) (lv2 := [(1, .int x15), (0, .ref a)]) rfl ?_
  refine Ev.iconst H125 i125_8 kI_0 ?_
  refine Ev.istore_n H125 i125_9 (Nat.le_of_ble_eq_true rfl) (lv2 := [(2, .int (0 : Int32)), (1, .int x15), (0, .ref a)]) rfl ?_
  exact Ev.sub (l := [(0, .ref a), (1, .int x15), (2, .int (0 : Int32))]) rfl rfl (mm_sub_c rfl (mm_sub_c rfl (mm_sub_c rfl mm_sub_n))) (t125_10 (k42 := (q125_42 a)) (k82 := (q125_82 a)) (fun _ _ h => t125_42 ma hd h) (fun _ _ h => t125_82 ma hd h) ma hd 10000 _ _ _ _ h)
theorem i120_0 : mm_cd 120 0 = some (.iconst 0, 1, 0, 0) := rfl
theorem i120_1 : mm_cd 120 1 = some (.istore_n 1, 1, 0, 0) := rfl
theorem i120_2 : mm_cd 120 2 = some (.iload_n 1, 1, 0, 0) := rfl
theorem i120_3 : mm_cd 120 3 = some (.bipush 8, 2, 0, 0) := rfl
theorem i120_5 : mm_cd 120 5 = some (.if_icmp .ge 43, 3, 0, 0) := rfl
theorem i120_8 : mm_cd 120 8 = some (.aload_n 0, 1, 0, 0) := rfl
theorem i120_9 : mm_cd 120 9 = some (.getfield 21, 3, ((9 : Nat) : Int), 2) := rfl
theorem i120_12 : mm_cd 120 12 = some (.invokevirtual 220, 3, 0, 86) := rfl
theorem i120_15 : mm_cd 120 15 = some (.istore_n 2, 1, 0, 0) := rfl
theorem i120_16 : mm_cd 120 16 = some (.iload_n 2, 1, 0, 0) := rfl
theorem i120_17 : mm_cd 120 17 = some (.iconst (-1), 1, 0, 0) := rfl
theorem i120_18 : mm_cd 120 18 = some (.if_icmp .ne 6, 3, 0, 0) := rfl
theorem i120_21 : mm_cd 120 21 = some (.goto 27, 3, 0, 0) := rfl
theorem i120_24 : mm_cd 120 24 = some (.aload_n 0, 1, 0, 0) := rfl
theorem i120_25 : mm_cd 120 25 = some (.aload_n 0, 1, 0, 0) := rfl
theorem i120_26 : mm_cd 120 26 = some (.aload_n 0, 1, 0, 0) := rfl
theorem i120_27 : mm_cd 120 27 = some (.getfield 21, 3, ((9 : Nat) : Int), 2) := rfl
theorem i120_30 : mm_cd 120 30 = some (.iload_n 2, 1, 0, 0) := rfl
theorem i120_31 : mm_cd 120 31 = some (.invokevirtual 223, 3, 0, 87) := rfl
theorem i120_34 : mm_cd 120 34 = some (.iload_n 2, 1, 0, 0) := rfl
theorem i120_35 : mm_cd 120 35 = some (.invokevirtual 226, 3, 0, 121) := rfl
theorem i120_38 : mm_cd 120 38 = some (.iconst 3, 1, 0, 0) := rfl
theorem i120_39 : mm_cd 120 39 = some (.invokevirtual 166, 3, 0, 119) := rfl
theorem i120_42 : mm_cd 120 42 = some (.iinc 1 1, 3, 0, 0) := rfl
theorem i120_45 : mm_cd 120 45 = some (.goto (-43), 3, 0, 0) := rfl
theorem i120_48 : mm_cd 120 48 = some (.aload_n 0, 1, 0, 0) := rfl
theorem i120_49 : mm_cd 120 49 = some (.invokevirtual 229, 3, 0, 125) := rfl
theorem i120_52 : mm_cd 120 52 = some (.return_, 1, 0, 0) := rfl
def q120_2 (k21 : mS → Option mQ) (k48 : mS → Option mQ) (a : Nat) : Nat → Int32 → mS → Option mQ
  | 0, _, _ => none
  | n + 1, v1, s => if (8 : Int32) ≤ v1 then (k48 s) else (bN (q86 (a + 6) s) fun x2 s1 => if ¬ x2 = (-1 : Int32) then (bN (q87 (a + 6) x2 s1) fun x4 s3 => bN (q121 a x4 x2 s3) fun x6 s5 => bM (q119 a x6 (3 : Int32) s5) fun s7 => bx (v1 + (1 : Int32)) fun x8 => q120_2 k21 k48 a n x8 s7) else (k21 s1))
theorem t120_2 {L : Nat} {xs : Nat → Int32} {d : Nat} {k21 : mS → Option mQ} {k48 : mS → Option mQ} {a : Nat} (hk21 : ∀ (s : mS) (r : mQ), k21 s = some r → Ev L xs d 120 21 [(0, .ref a)] [] (hp s) (hr r)) (hk48 : ∀ (s : mS) (r : mQ), k48 s = some r → Ev L xs d 120 48 [(0, .ref a)] [] (hp s) (hr r)) (ma : a ∈ A9) (hd : 4 ≤ d) : ∀ (n : Nat) (v1 : Int32) (s : mS) (r : mQ), q120_2 k21 k48 a n v1 s = some r → Ev L xs d 120 2 [(0, .ref a), (1, .int v1)] [] (hp s) (hr r) := by
  intro n
  induction n with
  | zero => intro v1 s r h; rw [q120_2] at h; cases h
  | succ n ih =>
    intro v1 s r h
    rw [q120_2] at h
    refine Ev.iload_n H120 i120_2 rfl ?_
    refine Ev.bipush H120 i120_3 kB_8 ?_
    refine Rd.ic_ge H120 i120_5 (t := 48) (by decide) h (fun hc h => ?_) (fun hc h => ?_)
    · exact Ev.sub (l := [(0, .ref a)]) rfl rfl (mm_sub_c rfl mm_sub_n) (hk48 _ _ h)
    · refine Ev.aload_n H120 i120_8 rfl ?_
      refine Rd.getR H120 i120_9 (ob9 ma) rfl ?_
      refine Rd.cV0vN H120 i120_12 cal86 (ob6 (m9_6_6 ma)) (Nat.le_of_ble_eq_true rfl) (Nat.le_of_ble_eq_true rfl) (Nat.lt_of_lt_of_le (by decide) hd) (fun q hq => c86 (m9_6_6 ma) hq) h (fun x2 s1 h => ?_)
      refine Ev.istore_n H120 i120_15 (Nat.le_of_ble_eq_true rfl) (lv2 := [(2, .int x2), (0, .ref a), (1, .int v1)]) rfl ?_
      refine Ev.iload_n H120 i120_16 rfl ?_
      refine Ev.iconst H120 i120_17 kI_m1 ?_
      refine Rd.ic_ne H120 i120_18 (t := 24) (by decide) h (fun hc h => ?_) (fun hc h => ?_)
      · refine Ev.aload_n H120 i120_24 rfl ?_
        refine Ev.aload_n H120 i120_25 rfl ?_
        refine Ev.aload_n H120 i120_26 rfl ?_
        refine Rd.getR H120 i120_27 (ob9 ma) rfl ?_
        refine Ev.iload_n H120 i120_30 rfl ?_
        refine Rd.cV1vN H120 i120_31 cal87 (ob6 (m9_6_6 ma)) (Nat.le_of_ble_eq_true rfl) (Nat.le_of_ble_eq_true rfl) (Nat.lt_of_lt_of_le (by decide) hd) (fun q hq => c87 (m9_6_6 ma) hq) h (fun x4 s3 h => ?_)
        refine Ev.iload_n H120 i120_34 rfl ?_
        refine Rd.cV2vN H120 i120_35 cal121 (ob9 ma) (Nat.le_of_ble_eq_true rfl) (Nat.le_of_ble_eq_true rfl) (Nat.lt_of_lt_of_le (by decide) hd) (fun q hq => c121 ma hq) h (fun x6 s5 h => ?_)
        refine Ev.iconst H120 i120_38 kI_3 ?_
        refine Rd.cV2uN H120 i120_39 cal119 (ob9 ma) (Nat.le_of_ble_eq_true rfl) (Nat.le_of_ble_eq_true rfl) (Nat.lt_of_lt_of_le (by decide) hd) (fun q hq => c119 ma hq) h (fun s7 h => ?_)
        refine Rd.iinc H120 i120_42 (Nat.le_of_ble_eq_true rfl) rfl kI_1 (lv2 := fun x8 => [(1, .int x8), (2, .int x2), (0, .ref a)]) (fun _ => rfl) h (fun x8 h => ?_)
        refine Ev.goto H120 i120_45 (t := 2) (by decide) ?_
        exact Ev.sub (l := [(0, .ref a), (1, .int x8)]) rfl rfl (mm_sub_c rfl (mm_sub_c rfl mm_sub_n)) (ih _ _ _ h)
      · exact Ev.sub (l := [(0, .ref a)]) rfl rfl (mm_sub_c rfl mm_sub_n) (hk21 _ _ h)
def q120_48 (a : Nat) (s : mS) : Option mQ := bM (q125 a s) fun s9 => ru s9
theorem t120_48 {L : Nat} {xs : Nat → Int32} {d : Nat} {a : Nat} (ma : a ∈ A9) (hd : 4 ≤ d) {s : mS} {r : mQ} (h : q120_48 a s = some r) : Ev L xs d 120 48 [(0, .ref a)] [] (hp s) (hr r) := by
  unfold q120_48 at h
  refine Ev.aload_n H120 i120_48 rfl ?_
  refine Rd.cV0uN H120 i120_49 cal125 (ob9 ma) (Nat.le_of_ble_eq_true rfl) (Nat.le_of_ble_eq_true rfl) (Nat.lt_of_lt_of_le (by decide) hd) (fun q hq => c125 ma hq) h (fun s9 h => ?_)
  exact Rd.return_ H120 i120_52 rfl h
def q120_21 (a : Nat) (s : mS) : Option mQ := q120_48 a s
theorem t120_21 {L : Nat} {xs : Nat → Int32} {d : Nat} {a : Nat} (ma : a ∈ A9) (hd : 4 ≤ d) {s : mS} {r : mQ} (h : q120_21 a s = some r) : Ev L xs d 120 21 [(0, .ref a)] [] (hp s) (hr r) := by
  unfold q120_21 at h
  refine Ev.goto H120 i120_21 (t := 48) (by decide) ?_
  exact Ev.sub (l := [(0, .ref a)]) rfl rfl (mm_sub_c rfl mm_sub_n) (t120_48 ma hd h)
/-- SerialGate$World.settle()V -/
def q120 (a : Nat) (s : mS) : Option mQ := q120_2 (q120_21 a) (q120_48 a) a 10000 (0 : Int32) s
theorem c120 {L : Nat} {xs : Nat → Int32} {a : Nat} (ma : a ∈ A9) {s : mS} {r : mQ} (h : q120 a s = some r) : ∀ d, 4 ≤ d → Cl L xs d 120 [.ref a] (hp s) (hr r) := by
  intro d hd
  show Ev L xs d 120 0 [(0, .ref a)] [] (hp s) (hr r)
  unfold q120 at h
  refine Ev.iconst H120 i120_0 kI_0 ?_
  refine Ev.istore_n H120 i120_1 (Nat.le_of_ble_eq_true rfl) (lv2 := [(1, .int (0 : Int32)), (0, .ref a)]) rfl ?_
  exact Ev.sub (l := [(0, .ref a), (1, .int (0 : Int32))]) rfl rfl (mm_sub_c rfl (mm_sub_c rfl mm_sub_n)) (t120_2 (k21 := (q120_21 a)) (k48 := (q120_48 a)) (fun _ _ h => t120_21 ma hd h) (fun _ _ h => t120_48 ma hd h) ma hd 10000 _ _ _ h)
theorem i116_0 : mm_cd 116 0 = some (.iconst 1, 1, 0, 0) := rfl
theorem i116_1 : mm_cd 116 1 = some (.iload_n 2, 1, 0, 0) := rfl
theorem i116_2 : mm_cd 116 2 = some (.ishl, 1, 0, 0) := rfl
theorem i116_3 : mm_cd 116 3 = some (.istore_n 3, 1, 0, 0) := rfl
theorem i116_4 : mm_cd 116 4 = some (.aload_n 0, 1, 0, 0) := rfl
theorem i116_5 : mm_cd 116 5 = some (.getfield 21, 3, ((9 : Nat) : Int), 2) := rfl
theorem i116_8 : mm_cd 116 8 = some (.getfield 122, 3, ((6 : Nat) : Int), 7) := rfl
theorem i116_11 : mm_cd 116 11 = some (.iload_n 1, 1, 0, 0) := rfl
theorem i116_12 : mm_cd 116 12 = some (.dup2, 1, 0, 0) := rfl
theorem i116_13 : mm_cd 116 13 = some (.iaload, 1, 0, 0) := rfl
theorem i116_14 : mm_cd 116 14 = some (.iload_n 3, 1, 0, 0) := rfl
theorem i116_15 : mm_cd 116 15 = some (.ior, 1, 0, 0) := rfl
theorem i116_16 : mm_cd 116 16 = some (.iastore, 1, 0, 0) := rfl
theorem i116_17 : mm_cd 116 17 = some (.aload_n 0, 1, 0, 0) := rfl
theorem i116_18 : mm_cd 116 18 = some (.getfield 21, 3, ((9 : Nat) : Int), 2) := rfl
theorem i116_21 : mm_cd 116 21 = some (.getfield 133, 3, ((6 : Nat) : Int), 9) := rfl
theorem i116_24 : mm_cd 116 24 = some (.iload_n 1, 1, 0, 0) := rfl
theorem i116_25 : mm_cd 116 25 = some (.iaload, 1, 0, 0) := rfl
theorem i116_26 : mm_cd 116 26 = some (.iload_n 3, 1, 0, 0) := rfl
theorem i116_27 : mm_cd 116 27 = some (.iand, 1, 0, 0) := rfl
theorem i116_28 : mm_cd 116 28 = some (.ifCond .ne 14, 3, 0, 0) := rfl
theorem i116_31 : mm_cd 116 31 = some (.aload_n 0, 1, 0, 0) := rfl
theorem i116_32 : mm_cd 116 32 = some (.getfield 21, 3, ((9 : Nat) : Int), 2) := rfl
theorem i116_35 : mm_cd 116 35 = some (.iload_n 1, 1, 0, 0) := rfl
theorem i116_36 : mm_cd 116 36 = some (.invokevirtual 150, 3, 0, 68) := rfl
theorem i116_39 : mm_cd 116 39 = some (.ifCond .eq 4, 3, 0, 0) := rfl
theorem i116_42 : mm_cd 116 42 = some (.return_, 1, 0, 0) := rfl
theorem i116_43 : mm_cd 116 43 = some (.aload_n 0, 1, 0, 0) := rfl
theorem i116_44 : mm_cd 116 44 = some (.getfield 21, 3, ((9 : Nat) : Int), 2) := rfl
theorem i116_47 : mm_cd 116 47 = some (.getfield 153, 3, ((6 : Nat) : Int), 8) := rfl
theorem i116_50 : mm_cd 116 50 = some (.iload_n 1, 1, 0, 0) := rfl
theorem i116_51 : mm_cd 116 51 = some (.dup2, 1, 0, 0) := rfl
theorem i116_52 : mm_cd 116 52 = some (.iaload, 1, 0, 0) := rfl
theorem i116_53 : mm_cd 116 53 = some (.iload_n 3, 1, 0, 0) := rfl
theorem i116_54 : mm_cd 116 54 = some (.ior, 1, 0, 0) := rfl
theorem i116_55 : mm_cd 116 55 = some (.iastore, 1, 0, 0) := rfl
theorem i116_56 : mm_cd 116 56 = some (.aload_n 0, 1, 0, 0) := rfl
theorem i116_57 : mm_cd 116 57 = some (.getfield 21, 3, ((9 : Nat) : Int), 2) := rfl
theorem i116_60 : mm_cd 116 60 = some (.iload_n 1, 1, 0, 0) := rfl
theorem i116_61 : mm_cd 116 61 = some (.iload_n 3, 1, 0, 0) := rfl
theorem i116_62 : mm_cd 116 62 = some (.invokevirtual 156, 3, 0, 83) := rfl
theorem i116_65 : mm_cd 116 65 = some (.aload_n 0, 1, 0, 0) := rfl
theorem i116_66 : mm_cd 116 66 = some (.getfield 46, 3, ((9 : Nat) : Int), 7) := rfl
theorem i116_69 : mm_cd 116 69 = some (.iload_n 2, 1, 0, 0) := rfl
theorem i116_70 : mm_cd 116 70 = some (.iaload, 1, 0, 0) := rfl
theorem i116_71 : mm_cd 116 71 = some (.aload_n 0, 1, 0, 0) := rfl
theorem i116_72 : mm_cd 116 72 = some (.getfield 21, 3, ((9 : Nat) : Int), 2) := rfl
theorem i116_75 : mm_cd 116 75 = some (.getfield 159, 3, ((6 : Nat) : Int), 5) := rfl
theorem i116_78 : mm_cd 116 78 = some (.iload_n 1, 1, 0, 0) := rfl
theorem i116_79 : mm_cd 116 79 = some (.iaload, 1, 0, 0) := rfl
theorem i116_80 : mm_cd 116 80 = some (.if_icmp .le 79, 3, 0, 0) := rfl
theorem i116_83 : mm_cd 116 83 = some (.aload_n 0, 1, 0, 0) := rfl
theorem i116_84 : mm_cd 116 84 = some (.getfield 21, 3, ((9 : Nat) : Int), 2) := rfl
theorem i116_87 : mm_cd 116 87 = some (.getfield 162, 3, ((6 : Nat) : Int), 10) := rfl
theorem i116_90 : mm_cd 116 90 = some (.iload_n 1, 1, 0, 0) := rfl
theorem i116_91 : mm_cd 116 91 = some (.aload_n 0, 1, 0, 0) := rfl
theorem i116_92 : mm_cd 116 92 = some (.getfield 21, 3, ((9 : Nat) : Int), 2) := rfl
theorem i116_95 : mm_cd 116 95 = some (.getfield 159, 3, ((6 : Nat) : Int), 5) := rfl
theorem i116_98 : mm_cd 116 98 = some (.iload_n 1, 1, 0, 0) := rfl
theorem i116_99 : mm_cd 116 99 = some (.iaload, 1, 0, 0) := rfl
theorem i116_100 : mm_cd 116 100 = some (.iconst 1, 1, 0, 0) := rfl
theorem i116_101 : mm_cd 116 101 = some (.iadd, 1, 0, 0) := rfl
theorem i116_102 : mm_cd 116 102 = some (.iastore, 1, 0, 0) := rfl
theorem i116_103 : mm_cd 116 103 = some (.aload_n 0, 1, 0, 0) := rfl
theorem i116_104 : mm_cd 116 104 = some (.getfield 21, 3, ((9 : Nat) : Int), 2) := rfl
theorem i116_107 : mm_cd 116 107 = some (.iload_n 1, 1, 0, 0) := rfl
theorem i116_108 : mm_cd 116 108 = some (.invokevirtual 165, 3, 0, 66) := rfl
theorem i116_111 : mm_cd 116 111 = some (.ifCond .eq 21, 3, 0, 0) := rfl
theorem i116_114 : mm_cd 116 114 = some (.aload_n 0, 1, 0, 0) := rfl
theorem i116_115 : mm_cd 116 115 = some (.getfield 49, 3, ((9 : Nat) : Int), 8) := rfl
theorem i116_118 : mm_cd 116 118 = some (.iload_n 2, 1, 0, 0) := rfl
theorem i116_119 : mm_cd 116 119 = some (.iaload, 1, 0, 0) := rfl
theorem i116_120 : mm_cd 116 120 = some (.aload_n 0, 1, 0, 0) := rfl
theorem i116_121 : mm_cd 116 121 = some (.getfield 21, 3, ((9 : Nat) : Int), 2) := rfl
theorem i116_124 : mm_cd 116 124 = some (.getfield 159, 3, ((6 : Nat) : Int), 5) := rfl
theorem i116_127 : mm_cd 116 127 = some (.iload_n 1, 1, 0, 0) := rfl
theorem i116_128 : mm_cd 116 128 = some (.iaload, 1, 0, 0) := rfl
theorem i116_129 : mm_cd 116 129 = some (.if_icmp .ge 7, 3, 0, 0) := rfl
theorem i116_132 : mm_cd 116 132 = some (.iconst 1, 1, 0, 0) := rfl
theorem i116_133 : mm_cd 116 133 = some (.goto 4, 3, 0, 0) := rfl
theorem i116_136 : mm_cd 116 136 = some (.iconst 0, 1, 0, 0) := rfl
theorem i116_137 : mm_cd 116 137 = some (.istore 4, 2, 0, 0) := rfl
theorem i116_139 : mm_cd 116 139 = some (.aload_n 0, 1, 0, 0) := rfl
theorem i116_140 : mm_cd 116 140 = some (.getfield 49, 3, ((9 : Nat) : Int), 8) := rfl
theorem i116_143 : mm_cd 116 143 = some (.iload_n 2, 1, 0, 0) := rfl
theorem i116_144 : mm_cd 116 144 = some (.iaload, 1, 0, 0) := rfl
theorem i116_145 : mm_cd 116 145 = some (.ifCond .le 14, 3, 0, 0) := rfl
theorem i116_148 : mm_cd 116 148 = some (.iload 4, 2, 0, 0) := rfl
theorem i116_150 : mm_cd 116 150 = some (.ifCond .eq 9, 3, 0, 0) := rfl
theorem i116_153 : mm_cd 116 153 = some (.aload_n 0, 1, 0, 0) := rfl
theorem i116_154 : mm_cd 116 154 = some (.iload_n 1, 1, 0, 0) := rfl
theorem i116_155 : mm_cd 116 155 = some (.iconst 1, 1, 0, 0) := rfl
theorem i116_156 : mm_cd 116 156 = some (.invokevirtual 166, 3, 0, 119) := rfl
theorem i116_159 : mm_cd 116 159 = some (.aload_n 0, 1, 0, 0) := rfl
theorem i116_160 : mm_cd 116 160 = some (.invokevirtual 169, 3, 0, 120) := rfl
theorem i116_163 : mm_cd 116 163 = some (.return_, 1, 0, 0) := rfl
def q116_159 (a : Nat) (s : mS) : Option mQ := bM (q120 a s) fun s1 => ru s1
theorem t116_159 {L : Nat} {xs : Nat → Int32} {d : Nat} {a : Nat} (ma : a ∈ A9) (hd : 5 ≤ d) {s : mS} {r : mQ} (h : q116_159 a s = some r) : Ev L xs d 116 159 [(0, .ref a)] [] (hp s) (hr r) := by
  unfold q116_159 at h
  refine Ev.aload_n H116 i116_159 rfl ?_
  refine Rd.cV0uN H116 i116_160 cal120 (ob9 ma) (Nat.le_of_ble_eq_true rfl) (Nat.le_of_ble_eq_true rfl) (Nat.lt_of_lt_of_le (by decide) hd) (fun q hq => c120 ma hq) h (fun s1 h => ?_)
  exact Rd.return_ H116 i116_163 rfl h
def q116_137 (a : Nat) (v1 : Int32) (v2 : Int32) (y0 : Int32) (s : mS) : Option mQ := gA 10 v2 <| if (s.1 (a + 31) v2.toNatClampNeg) ≤ 0 then (q116_159 a s) else (if y0 = 0 then (q116_159 a s) else (bM (q119 a v1 (1 : Int32) s) fun s2 => q116_159 a s2))
theorem t116_137 {L : Nat} {xs : Nat → Int32} {d : Nat} {a : Nat} (ma : a ∈ A9) (hd : 5 ≤ d) {v1 : Int32} {v2 : Int32} {y0 : Int32} {s : mS} {r : mQ} (h : q116_137 a v1 v2 y0 s = some r) : Ev L xs d 116 137 [(0, .ref a), (1, .int v1), (2, .int v2)] [.int y0] (hp s) (hr r) := by
  unfold q116_137 at h
  refine Ev.istore H116 i116_137 (Nat.le_of_ble_eq_true rfl) (lv2 := [(4, .int y0), (0, .ref a), (1, .int v1), (2, .int v2)]) rfl ?_
  refine Ev.aload_n H116 i116_139 rfl ?_
  refine Rd.getR H116 i116_140 (ob9 ma) rfl ?_
  refine Ev.iload_n H116 i116_143 rfl ?_
  refine Rd.iaload H116 i116_144 (ar9_31 ma) h (fun h => ?_)
  refine Rd.if_le H116 i116_145 (t := 159) (by decide) h (fun hc h => ?_) (fun hc h => ?_)
  · exact Ev.sub (l := [(0, .ref a)]) rfl rfl (mm_sub_c rfl mm_sub_n) (t116_159 ma hd h)
  · refine Ev.iload H116 i116_148 rfl ?_
    refine Rd.if_eq H116 i116_150 (t := 159) (by decide) h (fun hc h => ?_) (fun hc h => ?_)
    · exact Ev.sub (l := [(0, .ref a)]) rfl rfl (mm_sub_c rfl mm_sub_n) (t116_159 ma hd h)
    · refine Ev.aload_n H116 i116_153 rfl ?_
      refine Ev.iload_n H116 i116_154 rfl ?_
      refine Ev.iconst H116 i116_155 kI_1 ?_
      refine Rd.cV2uN H116 i116_156 cal119 (ob9 ma) (Nat.le_of_ble_eq_true rfl) (Nat.le_of_ble_eq_true rfl) (Nat.lt_of_lt_of_le (by decide) hd) (fun q hq => c119 ma hq) h (fun s2 h => ?_)
      exact Ev.sub (l := [(0, .ref a)]) rfl rfl (mm_sub_c rfl mm_sub_n) (t116_159 ma hd h)
def q116_132 (a : Nat) (v1 : Int32) (v2 : Int32) (s : mS) : Option mQ := q116_137 a v1 v2 (1 : Int32) s
theorem t116_132 {L : Nat} {xs : Nat → Int32} {d : Nat} {a : Nat} (ma : a ∈ A9) (hd : 5 ≤ d) {v1 : Int32} {v2 : Int32} {s : mS} {r : mQ} (h : q116_132 a v1 v2 s = some r) : Ev L xs d 116 132 [(0, .ref a), (1, .int v1), (2, .int v2)] [] (hp s) (hr r) := by
  unfold q116_132 at h
  refine Ev.iconst H116 i116_132 kI_1 ?_
  refine Ev.goto H116 i116_133 (t := 137) (by decide) ?_
  exact Ev.sub (l := [(0, .ref a), (1, .int v1), (2, .int v2)]) rfl rfl (mm_sub_c rfl (mm_sub_c rfl (mm_sub_c rfl mm_sub_n))) (t116_137 ma hd h)
/-- SerialGate$World.lookAt(II)V -/
def q116 (a : Nat) (v1 : Int32) (v2 : Int32) (s : mS) : Option mQ := bx (shlI (1 : Int32) v2) fun x3 => gA 8 v1 <| gA 8 v1 <| sp (sI s ((a + 6) + 4) v1.toNatClampNeg ((s.1 ((a + 6) + 4) v1.toNatClampNeg) ||| x3)) fun s4 => gA 8 v1 <| if ¬ ((s4.1 ((a + 6) + 6) v1.toNatClampNeg) &&& x3) = 0 then (ru s4) else (bN (q68 (a + 6) v1 s4) fun x6 s5 => if x6 = 0 then (gA 8 v1 <| gA 8 v1 <| sp (sI s5 ((a + 6) + 5) v1.toNatClampNeg ((s5.1 ((a + 6) + 5) v1.toNatClampNeg) ||| x3)) fun s7 => bM (q83 (a + 6) v1 x3 s7) fun s8 => gA 10 v2 <| gA 8 v1 <| if (s8.1 (a + 30) v2.toNatClampNeg) ≤ (s8.1 ((a + 6) + 2) v1.toNatClampNeg) then (q116_159 a s8) else (gA 8 v1 <| gA 8 v1 <| sp (sI s8 ((a + 6) + 7) v1.toNatClampNeg ((s8.1 ((a + 6) + 2) v1.toNatClampNeg) + (1 : Int32))) fun s9 => bN (q66 (a + 6) v1 s9) fun x11 s10 => if x11 = 0 then (q116_132 a v1 v2 s10) else (gA 10 v2 <| gA 8 v1 <| if (s10.1 ((a + 6) + 2) v1.toNatClampNeg) ≤ (s10.1 (a + 31) v2.toNatClampNeg) then (q116_137 a v1 v2 (0 : Int32) s10) else (q116_132 a v1 v2 s10)))) else (ru s5))
theorem c116 {L : Nat} {xs : Nat → Int32} {a : Nat} (ma : a ∈ A9) {v1 : Int32} {v2 : Int32} {s : mS} {r : mQ} (h : q116 a v1 v2 s = some r) : ∀ d, 5 ≤ d → Cl L xs d 116 [.ref a, .int v1, .int v2] (hp s) (hr r) := by
  intro d hd
  show Ev L xs d 116 0 [(0, .ref a), (1, .int v1), (2, .int v2)] [] (hp s) (hr r)
  unfold q116 at h
  refine Ev.iconst H116 i116_0 kI_1 ?_
  refine Ev.iload_n H116 i116_1 rfl ?_
  refine Rd.ishl H116 i116_2 ?_
  refine Rd.istore_n H116 i116_3 (Nat.le_of_ble_eq_true rfl) (lv2 := fun x3 => [(3, .int x3), (0, .ref a), (1, .int v1), (2, .int v2)]) (fun _ => rfl) h (fun x3 h => ?_)
  refine Ev.aload_n H116 i116_4 rfl ?_
  refine Rd.getR H116 i116_5 (ob9 ma) rfl ?_
  refine Rd.getR H116 i116_8 (ob6 (m9_6_6 ma)) rfl ?_
  refine Ev.iload_n H116 i116_11 rfl ?_
  refine Ev.dup2 H116 i116_12 ⟨rfl, rfl⟩ ?_
  refine Rd.iaload H116 i116_13 (ar6_4 (m9_6_6 ma)) h (fun h => ?_)
  refine Ev.iload_n H116 i116_14 rfl ?_
  refine Ev.ior H116 i116_15 ?_
  refine Rd.iastore H116 i116_16 (ar6_4 (m9_6_6 ma)) h (fun s4 h => ?_)
  refine Ev.aload_n H116 i116_17 rfl ?_
  refine Rd.getR H116 i116_18 (ob9 ma) rfl ?_
  refine Rd.getR H116 i116_21 (ob6 (m9_6_6 ma)) rfl ?_
  refine Ev.iload_n H116 i116_24 rfl ?_
  refine Rd.iaload H116 i116_25 (ar6_6 (m9_6_6 ma)) h (fun h => ?_)
  refine Ev.iload_n H116 i116_26 rfl ?_
  refine Ev.iand H116 i116_27 ?_
  refine Rd.if_ne H116 i116_28 (t := 42) (by decide) h (fun hc h => ?_) (fun hc h => ?_)
  · exact Rd.return_ H116 i116_42 rfl h
  · refine Ev.aload_n H116 i116_31 rfl ?_
    refine Rd.getR H116 i116_32 (ob9 ma) rfl ?_
    refine Ev.iload_n H116 i116_35 rfl ?_
    refine Rd.cV1vN H116 i116_36 cal68 (ob6 (m9_6_6 ma)) (Nat.le_of_ble_eq_true rfl) (Nat.le_of_ble_eq_true rfl) (Nat.lt_of_lt_of_le (by decide) hd) (fun q hq => c68 (m9_6_6 ma) hq) h (fun x6 s5 h => ?_)
    refine Rd.if_eq H116 i116_39 (t := 43) (by decide) h (fun hc h => ?_) (fun hc h => ?_)
    · refine Ev.aload_n H116 i116_43 rfl ?_
      refine Rd.getR H116 i116_44 (ob9 ma) rfl ?_
      refine Rd.getR H116 i116_47 (ob6 (m9_6_6 ma)) rfl ?_
      refine Ev.iload_n H116 i116_50 rfl ?_
      refine Ev.dup2 H116 i116_51 ⟨rfl, rfl⟩ ?_
      refine Rd.iaload H116 i116_52 (ar6_5 (m9_6_6 ma)) h (fun h => ?_)
      refine Ev.iload_n H116 i116_53 rfl ?_
      refine Ev.ior H116 i116_54 ?_
      refine Rd.iastore H116 i116_55 (ar6_5 (m9_6_6 ma)) h (fun s7 h => ?_)
      refine Ev.aload_n H116 i116_56 rfl ?_
      refine Rd.getR H116 i116_57 (ob9 ma) rfl ?_
      refine Ev.iload_n H116 i116_60 rfl ?_
      refine Ev.iload_n H116 i116_61 rfl ?_
      refine Rd.cV2uN H116 i116_62 cal83 (ob6 (m9_6_6 ma)) (Nat.le_of_ble_eq_true rfl) (Nat.le_of_ble_eq_true rfl) (Nat.lt_of_lt_of_le (by decide) hd) (fun q hq => c83 (m9_6_6 ma) hq) h (fun s8 h => ?_)
      refine Ev.aload_n H116 i116_65 rfl ?_
      refine Rd.getR H116 i116_66 (ob9 ma) rfl ?_
      refine Ev.iload_n H116 i116_69 rfl ?_
      refine Rd.iaload H116 i116_70 (ar9_30 ma) h (fun h => ?_)
      refine Ev.aload_n H116 i116_71 rfl ?_
      refine Rd.getR H116 i116_72 (ob9 ma) rfl ?_
      refine Rd.getR H116 i116_75 (ob6 (m9_6_6 ma)) rfl ?_
      refine Ev.iload_n H116 i116_78 rfl ?_
      refine Rd.iaload H116 i116_79 (ar6_2 (m9_6_6 ma)) h (fun h => ?_)
      refine Rd.ic_le H116 i116_80 (t := 159) (by decide) h (fun hc h => ?_) (fun hc h => ?_)
      · exact Ev.sub (l := [(0, .ref a)]) rfl rfl (mm_sub_c rfl mm_sub_n) (t116_159 ma hd h)
      · refine Ev.aload_n H116 i116_83 rfl ?_
        refine Rd.getR H116 i116_84 (ob9 ma) rfl ?_
        refine Rd.getR H116 i116_87 (ob6 (m9_6_6 ma)) rfl ?_
        refine Ev.iload_n H116 i116_90 rfl ?_
        refine Ev.aload_n H116 i116_91 rfl ?_
        refine Rd.getR H116 i116_92 (ob9 ma) rfl ?_
        refine Rd.getR H116 i116_95 (ob6 (m9_6_6 ma)) rfl ?_
        refine Ev.iload_n H116 i116_98 rfl ?_
        refine Rd.iaload H116 i116_99 (ar6_2 (m9_6_6 ma)) h (fun h => ?_)
        refine Ev.iconst H116 i116_100 kI_1 ?_
        refine Ev.iadd H116 i116_101 ?_
        refine Rd.iastore H116 i116_102 (ar6_7 (m9_6_6 ma)) h (fun s9 h => ?_)
        refine Ev.aload_n H116 i116_103 rfl ?_
        refine Rd.getR H116 i116_104 (ob9 ma) rfl ?_
        refine Ev.iload_n H116 i116_107 rfl ?_
        refine Rd.cV1vN H116 i116_108 cal66 (ob6 (m9_6_6 ma)) (Nat.le_of_ble_eq_true rfl) (Nat.le_of_ble_eq_true rfl) (Nat.lt_of_lt_of_le (by decide) hd) (fun q hq => c66 (m9_6_6 ma) hq) h (fun x11 s10 h => ?_)
        refine Rd.if_eq H116 i116_111 (t := 132) (by decide) h (fun hc h => ?_) (fun hc h => ?_)
        · exact Ev.sub (l := [(0, .ref a), (1, .int v1), (2, .int v2)]) rfl rfl (mm_sub_c rfl (mm_sub_c rfl (mm_sub_c rfl mm_sub_n))) (t116_132 ma hd h)
        · refine Ev.aload_n H116 i116_114 rfl ?_
          refine Rd.getR H116 i116_115 (ob9 ma) rfl ?_
          refine Ev.iload_n H116 i116_118 rfl ?_
          refine Rd.iaload H116 i116_119 (ar9_31 ma) h (fun h => ?_)
          refine Ev.aload_n H116 i116_120 rfl ?_
          refine Rd.getR H116 i116_121 (ob9 ma) rfl ?_
          refine Rd.getR H116 i116_124 (ob6 (m9_6_6 ma)) rfl ?_
          refine Ev.iload_n H116 i116_127 rfl ?_
          refine Rd.iaload H116 i116_128 (ar6_2 (m9_6_6 ma)) h (fun h => ?_)
          refine Rd.ic_ge H116 i116_129 (t := 136) (by decide) h (fun hc h => ?_) (fun hc h => ?_)
          · refine Ev.iconst H116 i116_136 kI_0 ?_
            exact Ev.sub (l := [(0, .ref a), (1, .int v1), (2, .int v2)]) rfl rfl (mm_sub_c rfl (mm_sub_c rfl (mm_sub_c rfl mm_sub_n))) (t116_137 ma hd h)
          · exact Ev.sub (l := [(0, .ref a), (1, .int v1), (2, .int v2)]) rfl rfl (mm_sub_c rfl (mm_sub_c rfl (mm_sub_c rfl mm_sub_n))) (t116_132 ma hd h)
    · exact Rd.return_ H116 i116_42 rfl h
theorem i117_0 : mm_cd 117 0 = some (.aload_n 0, 1, 0, 0) := rfl
theorem i117_1 : mm_cd 117 1 = some (.getfield 21, 3, ((9 : Nat) : Int), 2) := rfl
theorem i117_4 : mm_cd 117 4 = some (.iload_n 1, 1, 0, 0) := rfl
theorem i117_5 : mm_cd 117 5 = some (.iload_n 2, 1, 0, 0) := rfl
theorem i117_6 : mm_cd 117 6 = some (.invokevirtual 172, 3, 0, 73) := rfl
theorem i117_9 : mm_cd 117 9 = some (.ifCond .eq 4, 3, 0, 0) := rfl
theorem i117_12 : mm_cd 117 12 = some (.return_, 1, 0, 0) := rfl
theorem i117_13 : mm_cd 117 13 = some (.aload_n 0, 1, 0, 0) := rfl
theorem i117_14 : mm_cd 117 14 = some (.getfield 39, 3, ((9 : Nat) : Int), 5) := rfl
theorem i117_17 : mm_cd 117 17 = some (.iload_n 2, 1, 0, 0) := rfl
theorem i117_18 : mm_cd 117 18 = some (.iaload, 1, 0, 0) := rfl
theorem i117_19 : mm_cd 117 19 = some (.aload_n 0, 1, 0, 0) := rfl
theorem i117_20 : mm_cd 117 20 = some (.getfield 21, 3, ((9 : Nat) : Int), 2) := rfl
theorem i117_23 : mm_cd 117 23 = some (.getfield 147, 3, ((6 : Nat) : Int), 14) := rfl
theorem i117_26 : mm_cd 117 26 = some (.iload_n 1, 1, 0, 0) := rfl
theorem i117_27 : mm_cd 117 27 = some (.bipush 10, 2, 0, 0) := rfl
theorem i117_29 : mm_cd 117 29 = some (.imul, 1, 0, 0) := rfl
theorem i117_30 : mm_cd 117 30 = some (.iload_n 2, 1, 0, 0) := rfl
theorem i117_31 : mm_cd 117 31 = some (.iadd, 1, 0, 0) := rfl
theorem i117_32 : mm_cd 117 32 = some (.iaload, 1, 0, 0) := rfl
theorem i117_33 : mm_cd 117 33 = some (.if_icmp .eq 12, 3, 0, 0) := rfl
theorem i117_36 : mm_cd 117 36 = some (.aload_n 0, 1, 0, 0) := rfl
theorem i117_37 : mm_cd 117 37 = some (.iload_n 1, 1, 0, 0) := rfl
theorem i117_38 : mm_cd 117 38 = some (.iconst 2, 1, 0, 0) := rfl
theorem i117_39 : mm_cd 117 39 = some (.invokevirtual 166, 3, 0, 119) := rfl
theorem i117_42 : mm_cd 117 42 = some (.goto 74, 3, 0, 0) := rfl
theorem i117_45 : mm_cd 117 45 = some (.aload_n 0, 1, 0, 0) := rfl
theorem i117_46 : mm_cd 117 46 = some (.getfield 21, 3, ((9 : Nat) : Int), 2) := rfl
theorem i117_49 : mm_cd 117 49 = some (.getfield 133, 3, ((6 : Nat) : Int), 9) := rfl
theorem i117_52 : mm_cd 117 52 = some (.iload_n 1, 1, 0, 0) := rfl
theorem i117_53 : mm_cd 117 53 = some (.dup2, 1, 0, 0) := rfl
theorem i117_54 : mm_cd 117 54 = some (.iaload, 1, 0, 0) := rfl
theorem i117_55 : mm_cd 117 55 = some (.iconst 1, 1, 0, 0) := rfl
theorem i117_56 : mm_cd 117 56 = some (.iload_n 2, 1, 0, 0) := rfl
theorem i117_57 : mm_cd 117 57 = some (.ishl, 1, 0, 0) := rfl
theorem i117_58 : mm_cd 117 58 = some (.ior, 1, 0, 0) := rfl
theorem i117_59 : mm_cd 117 59 = some (.iastore, 1, 0, 0) := rfl
theorem i117_60 : mm_cd 117 60 = some (.aload_n 0, 1, 0, 0) := rfl
theorem i117_61 : mm_cd 117 61 = some (.getfield 21, 3, ((9 : Nat) : Int), 2) := rfl
theorem i117_64 : mm_cd 117 64 = some (.iload_n 1, 1, 0, 0) := rfl
theorem i117_65 : mm_cd 117 65 = some (.iconst 1, 1, 0, 0) := rfl
theorem i117_66 : mm_cd 117 66 = some (.iload_n 2, 1, 0, 0) := rfl
theorem i117_67 : mm_cd 117 67 = some (.ishl, 1, 0, 0) := rfl
theorem i117_68 : mm_cd 117 68 = some (.invokevirtual 176, 3, 0, 84) := rfl
theorem i117_71 : mm_cd 117 71 = some (.aload_n 0, 1, 0, 0) := rfl
theorem i117_72 : mm_cd 117 72 = some (.getfield 43, 3, ((9 : Nat) : Int), 6) := rfl
theorem i117_75 : mm_cd 117 75 = some (.iload_n 2, 1, 0, 0) := rfl
theorem i117_76 : mm_cd 117 76 = some (.iaload, 1, 0, 0) := rfl
theorem i117_77 : mm_cd 117 77 = some (.aload_n 0, 1, 0, 0) := rfl
theorem i117_78 : mm_cd 117 78 = some (.getfield 21, 3, ((9 : Nat) : Int), 2) := rfl
theorem i117_81 : mm_cd 117 81 = some (.getfield 159, 3, ((6 : Nat) : Int), 5) := rfl
theorem i117_84 : mm_cd 117 84 = some (.iload_n 1, 1, 0, 0) := rfl
theorem i117_85 : mm_cd 117 85 = some (.iaload, 1, 0, 0) := rfl
theorem i117_86 : mm_cd 117 86 = some (.if_icmp .le 30, 3, 0, 0) := rfl
theorem i117_89 : mm_cd 117 89 = some (.aload_n 0, 1, 0, 0) := rfl
theorem i117_90 : mm_cd 117 90 = some (.getfield 21, 3, ((9 : Nat) : Int), 2) := rfl
theorem i117_93 : mm_cd 117 93 = some (.getfield 179, 3, ((6 : Nat) : Int), 11) := rfl
theorem i117_96 : mm_cd 117 96 = some (.iload_n 1, 1, 0, 0) := rfl
theorem i117_97 : mm_cd 117 97 = some (.aload_n 0, 1, 0, 0) := rfl
theorem i117_98 : mm_cd 117 98 = some (.getfield 21, 3, ((9 : Nat) : Int), 2) := rfl
theorem i117_101 : mm_cd 117 101 = some (.getfield 179, 3, ((6 : Nat) : Int), 11) := rfl
theorem i117_104 : mm_cd 117 104 = some (.iload_n 1, 1, 0, 0) := rfl
theorem i117_105 : mm_cd 117 105 = some (.iaload, 1, 0, 0) := rfl
theorem i117_106 : mm_cd 117 106 = some (.aload_n 0, 1, 0, 0) := rfl
theorem i117_107 : mm_cd 117 107 = some (.getfield 43, 3, ((9 : Nat) : Int), 6) := rfl
theorem i117_110 : mm_cd 117 110 = some (.iload_n 2, 1, 0, 0) := rfl
theorem i117_111 : mm_cd 117 111 = some (.iaload, 1, 0, 0) := rfl
theorem i117_112 : mm_cd 117 112 = some (.invokestatic 182, 3, 2, 0) := rfl
theorem i117_115 : mm_cd 117 115 = some (.iastore, 1, 0, 0) := rfl
theorem i117_116 : mm_cd 117 116 = some (.aload_n 0, 1, 0, 0) := rfl
theorem i117_117 : mm_cd 117 117 = some (.invokevirtual 169, 3, 0, 120) := rfl
theorem i117_120 : mm_cd 117 120 = some (.return_, 1, 0, 0) := rfl
def q117_116 (a : Nat) (s : mS) : Option mQ := bM (q120 a s) fun s1 => ru s1
theorem t117_116 {L : Nat} {xs : Nat → Int32} {d : Nat} {a : Nat} (ma : a ∈ A9) (hd : 5 ≤ d) {s : mS} {r : mQ} (h : q117_116 a s = some r) : Ev L xs d 117 116 [(0, .ref a)] [] (hp s) (hr r) := by
  unfold q117_116 at h
  refine Ev.aload_n H117 i117_116 rfl ?_
  refine Rd.cV0uN H117 i117_117 cal120 (ob9 ma) (Nat.le_of_ble_eq_true rfl) (Nat.le_of_ble_eq_true rfl) (Nat.lt_of_lt_of_le (by decide) hd) (fun q hq => c120 ma hq) h (fun s1 h => ?_)
  exact Rd.return_ H117 i117_120 rfl h
/-- SerialGate$World.put(II)V -/
def q117 (a : Nat) (v1 : Int32) (v2 : Int32) (s : mS) : Option mQ := bN (q73 (a + 6) v1 v2 s) fun x3 s2 => if x3 = 0 then (gA 10 v2 <| gA 80 ((v1 * (10 : Int32)) + v2) <| if (s2.1 (a + 28) v2.toNatClampNeg) = (s2.1 ((a + 6) + 11) ((v1 * (10 : Int32)) + v2).toNatClampNeg) then (gA 8 v1 <| gA 8 v1 <| sp (sI s2 ((a + 6) + 6) v1.toNatClampNeg ((s2.1 ((a + 6) + 6) v1.toNatClampNeg) ||| (shlI (1 : Int32) v2))) fun s4 => bM (q84 (a + 6) v1 (shlI (1 : Int32) v2) s4) fun s5 => gA 10 v2 <| gA 8 v1 <| if (s5.1 (a + 29) v2.toNatClampNeg) ≤ (s5.1 ((a + 6) + 2) v1.toNatClampNeg) then (q117_116 a s5) else (gA 8 v1 <| gA 10 v2 <| gA 8 v1 <| sp (sI s5 ((a + 6) + 8) v1.toNatClampNeg (mxI (s5.1 ((a + 6) + 8) v1.toNatClampNeg) (s5.1 (a + 29) v2.toNatClampNeg))) fun s6 => q117_116 a s6)) else (bM (q119 a v1 (2 : Int32) s2) fun s7 => q117_116 a s7)) else (ru s2)
theorem c117 {L : Nat} {xs : Nat → Int32} {a : Nat} (ma : a ∈ A9) {v1 : Int32} {v2 : Int32} {s : mS} {r : mQ} (h : q117 a v1 v2 s = some r) : ∀ d, 5 ≤ d → Cl L xs d 117 [.ref a, .int v1, .int v2] (hp s) (hr r) := by
  intro d hd
  show Ev L xs d 117 0 [(0, .ref a), (1, .int v1), (2, .int v2)] [] (hp s) (hr r)
  unfold q117 at h
  refine Ev.aload_n H117 i117_0 rfl ?_
  refine Rd.getR H117 i117_1 (ob9 ma) rfl ?_
  refine Ev.iload_n H117 i117_4 rfl ?_
  refine Ev.iload_n H117 i117_5 rfl ?_
  refine Rd.cV2vN H117 i117_6 cal73 (ob6 (m9_6_6 ma)) (Nat.le_of_ble_eq_true rfl) (Nat.le_of_ble_eq_true rfl) (Nat.lt_of_lt_of_le (by decide) hd) (fun q hq => c73 (m9_6_6 ma) hq) h (fun x3 s2 h => ?_)
  refine Rd.if_eq H117 i117_9 (t := 13) (by decide) h (fun hc h => ?_) (fun hc h => ?_)
  · refine Ev.aload_n H117 i117_13 rfl ?_
    refine Rd.getR H117 i117_14 (ob9 ma) rfl ?_
    refine Ev.iload_n H117 i117_17 rfl ?_
    refine Rd.iaload H117 i117_18 (ar9_28 ma) h (fun h => ?_)
    refine Ev.aload_n H117 i117_19 rfl ?_
    refine Rd.getR H117 i117_20 (ob9 ma) rfl ?_
    refine Rd.getR H117 i117_23 (ob6 (m9_6_6 ma)) rfl ?_
    refine Ev.iload_n H117 i117_26 rfl ?_
    refine Ev.bipush H117 i117_27 kB_10 ?_
    refine Ev.imul H117 i117_29 ?_
    refine Ev.iload_n H117 i117_30 rfl ?_
    refine Ev.iadd H117 i117_31 ?_
    refine Rd.iaload H117 i117_32 (ar6_11 (m9_6_6 ma)) h (fun h => ?_)
    refine Rd.ic_eq H117 i117_33 (t := 45) (by decide) h (fun hc h => ?_) (fun hc h => ?_)
    · refine Ev.aload_n H117 i117_45 rfl ?_
      refine Rd.getR H117 i117_46 (ob9 ma) rfl ?_
      refine Rd.getR H117 i117_49 (ob6 (m9_6_6 ma)) rfl ?_
      refine Ev.iload_n H117 i117_52 rfl ?_
      refine Ev.dup2 H117 i117_53 ⟨rfl, rfl⟩ ?_
      refine Rd.iaload H117 i117_54 (ar6_6 (m9_6_6 ma)) h (fun h => ?_)
      refine Ev.iconst H117 i117_55 kI_1 ?_
      refine Ev.iload_n H117 i117_56 rfl ?_
      refine Rd.ishl H117 i117_57 ?_
      refine Ev.ior H117 i117_58 ?_
      refine Rd.iastore H117 i117_59 (ar6_6 (m9_6_6 ma)) h (fun s4 h => ?_)
      refine Ev.aload_n H117 i117_60 rfl ?_
      refine Rd.getR H117 i117_61 (ob9 ma) rfl ?_
      refine Ev.iload_n H117 i117_64 rfl ?_
      refine Ev.iconst H117 i117_65 kI_1 ?_
      refine Ev.iload_n H117 i117_66 rfl ?_
      refine Rd.ishl H117 i117_67 ?_
      refine Rd.cV2uN H117 i117_68 cal84 (ob6 (m9_6_6 ma)) (Nat.le_of_ble_eq_true rfl) (Nat.le_of_ble_eq_true rfl) (Nat.lt_of_lt_of_le (by decide) hd) (fun q hq => c84 (m9_6_6 ma) hq) h (fun s5 h => ?_)
      refine Ev.aload_n H117 i117_71 rfl ?_
      refine Rd.getR H117 i117_72 (ob9 ma) rfl ?_
      refine Ev.iload_n H117 i117_75 rfl ?_
      refine Rd.iaload H117 i117_76 (ar9_29 ma) h (fun h => ?_)
      refine Ev.aload_n H117 i117_77 rfl ?_
      refine Rd.getR H117 i117_78 (ob9 ma) rfl ?_
      refine Rd.getR H117 i117_81 (ob6 (m9_6_6 ma)) rfl ?_
      refine Ev.iload_n H117 i117_84 rfl ?_
      refine Rd.iaload H117 i117_85 (ar6_2 (m9_6_6 ma)) h (fun h => ?_)
      refine Rd.ic_le H117 i117_86 (t := 116) (by decide) h (fun hc h => ?_) (fun hc h => ?_)
      · exact Ev.sub (l := [(0, .ref a)]) rfl rfl (mm_sub_c rfl mm_sub_n) (t117_116 ma hd h)
      · refine Ev.aload_n H117 i117_89 rfl ?_
        refine Rd.getR H117 i117_90 (ob9 ma) rfl ?_
        refine Rd.getR H117 i117_93 (ob6 (m9_6_6 ma)) rfl ?_
        refine Ev.iload_n H117 i117_96 rfl ?_
        refine Ev.aload_n H117 i117_97 rfl ?_
        refine Rd.getR H117 i117_98 (ob9 ma) rfl ?_
        refine Rd.getR H117 i117_101 (ob6 (m9_6_6 ma)) rfl ?_
        refine Ev.iload_n H117 i117_104 rfl ?_
        refine Rd.iaload H117 i117_105 (ar6_8 (m9_6_6 ma)) h (fun h => ?_)
        refine Ev.aload_n H117 i117_106 rfl ?_
        refine Rd.getR H117 i117_107 (ob9 ma) rfl ?_
        refine Ev.iload_n H117 i117_110 rfl ?_
        refine Rd.iaload H117 i117_111 (ar9_29 ma) h (fun h => ?_)
        refine Rd.max H117 i117_112 (Nat.le_of_ble_eq_true rfl) ?_
        refine Rd.iastore H117 i117_115 (ar6_8 (m9_6_6 ma)) h (fun s6 h => ?_)
        exact Ev.sub (l := [(0, .ref a)]) rfl rfl (mm_sub_c rfl mm_sub_n) (t117_116 ma hd h)
    · refine Ev.aload_n H117 i117_36 rfl ?_
      refine Ev.iload_n H117 i117_37 rfl ?_
      refine Ev.iconst H117 i117_38 kI_2 ?_
      refine Rd.cV2uN H117 i117_39 cal119 (ob9 ma) (Nat.le_of_ble_eq_true rfl) (Nat.le_of_ble_eq_true rfl) (Nat.lt_of_lt_of_le (by decide) hd) (fun q hq => c119 ma hq) h (fun s7 h => ?_)
      refine Ev.goto H117 i117_42 (t := 116) (by decide) ?_
      exact Ev.sub (l := [(0, .ref a)]) rfl rfl (mm_sub_c rfl mm_sub_n) (t117_116 ma hd h)
  · exact Rd.return_ H117 i117_12 rfl h
theorem i123_0 : mm_cd 123 0 = some (.aload_n 0, 1, 0, 0) := rfl
theorem i123_1 : mm_cd 123 1 = some (.iload_n 1, 1, 0, 0) := rfl
theorem i123_2 : mm_cd 123 2 = some (.invokevirtual 238, 3, 0, 124) := rfl
theorem i123_5 : mm_cd 123 5 = some (.iconst 1, 1, 0, 0) := rfl
theorem i123_6 : mm_cd 123 6 = some (.aload_n 0, 1, 0, 0) := rfl
theorem i123_7 : mm_cd 123 7 = some (.getfield 68, 3, ((9 : Nat) : Int), 0) := rfl
theorem i123_10 : mm_cd 123 10 = some (.iconst 2, 1, 0, 0) := rfl
theorem i123_11 : mm_cd 123 11 = some (.invokevirtual 243, 3, 0, 25) := rfl
theorem i123_14 : mm_cd 123 14 = some (.iadd, 1, 0, 0) := rfl
theorem i123_15 : mm_cd 123 15 = some (.ireturn, 1, 0, 0) := rfl
/-- SerialGate$World.payOf(I)I -/
def q123 (a : Nat) (v1 : Int32) (s : mS) : Option mQ := bM (q124 a v1 s) fun s1 => bN (q25 3 (2 : Int32) s1) fun x3 s2 => rv ((1 : Int32) + x3) s2
theorem c123 {L : Nat} {xs : Nat → Int32} {a : Nat} (ma : a ∈ A9) {v1 : Int32} {s : mS} {r : mQ} (h : q123 a v1 s = some r) : ∀ d, 2 ≤ d → Cl L xs d 123 [.ref a, .int v1] (hp s) (hr r) := by
  intro d hd
  show Ev L xs d 123 0 [(0, .ref a), (1, .int v1)] [] (hp s) (hr r)
  unfold q123 at h
  refine Ev.aload_n H123 i123_0 rfl ?_
  refine Ev.iload_n H123 i123_1 rfl ?_
  refine Rd.cV1uN H123 i123_2 cal124 (ob9 ma) (Nat.le_of_ble_eq_true rfl) (Nat.le_of_ble_eq_true rfl) (Nat.lt_of_lt_of_le (by decide) hd) (fun q hq => c124 ma hq) h (fun s1 h => ?_)
  refine Ev.iconst H123 i123_5 kI_1 ?_
  refine Ev.aload_n H123 i123_6 rfl ?_
  refine Rd.getR H123 i123_7 (ob9 ma) rfl ?_
  refine Ev.iconst H123 i123_10 kI_2 ?_
  refine Rd.cV1vN H123 i123_11 cal25 (ob2 mA2_3) (Nat.le_of_ble_eq_true rfl) (Nat.le_of_ble_eq_true rfl) (Nat.lt_of_lt_of_le (by decide) hd) (fun q hq => c25 mA2_3 hq) h (fun x3 s2 h => ?_)
  refine Ev.iadd H123 i123_14 ?_
  exact Rd.ireturn H123 i123_15 rfl h
theorem i118_0 : mm_cd 118 0 = some (.aload_n 0, 1, 0, 0) := rfl
theorem i118_1 : mm_cd 118 1 = some (.iload_n 1, 1, 0, 0) := rfl
theorem i118_2 : mm_cd 118 2 = some (.invokevirtual 188, 3, 0, 123) := rfl
theorem i118_5 : mm_cd 118 5 = some (.istore_n 2, 1, 0, 0) := rfl
theorem i118_6 : mm_cd 118 6 = some (.aload_n 0, 1, 0, 0) := rfl
theorem i118_7 : mm_cd 118 7 = some (.dup, 1, 0, 0) := rfl
theorem i118_8 : mm_cd 118 8 = some (.getfield 52, 3, ((9 : Nat) : Int), 9) := rfl
theorem i118_11 : mm_cd 118 11 = some (.iconst 1, 1, 0, 0) := rfl
theorem i118_12 : mm_cd 118 12 = some (.iadd, 1, 0, 0) := rfl
theorem i118_13 : mm_cd 118 13 = some (.putfield 52, 3, ((9 : Nat) : Int), 9) := rfl
theorem i118_16 : mm_cd 118 16 = some (.aload_n 0, 1, 0, 0) := rfl
theorem i118_17 : mm_cd 118 17 = some (.getfield 52, 3, ((9 : Nat) : Int), 9) := rfl
theorem i118_20 : mm_cd 118 20 = some (.istore_n 3, 1, 0, 0) := rfl
theorem i118_21 : mm_cd 118 21 = some (.aload_n 0, 1, 0, 0) := rfl
theorem i118_22 : mm_cd 118 22 = some (.getfield 21, 3, ((9 : Nat) : Int), 2) := rfl
theorem i118_25 : mm_cd 118 25 = some (.iload_n 1, 1, 0, 0) := rfl
theorem i118_26 : mm_cd 118 26 = some (.iload_n 3, 1, 0, 0) := rfl
theorem i118_27 : mm_cd 118 27 = some (.invokevirtual 191, 3, 0, 79) := rfl
theorem i118_30 : mm_cd 118 30 = some (.iconst 0, 1, 0, 0) := rfl
theorem i118_31 : mm_cd 118 31 = some (.istore 4, 2, 0, 0) := rfl
theorem i118_33 : mm_cd 118 33 = some (.iload 4, 2, 0, 0) := rfl
theorem i118_35 : mm_cd 118 35 = some (.bipush 10, 2, 0, 0) := rfl
theorem i118_37 : mm_cd 118 37 = some (.if_icmp .ge 48, 3, 0, 0) := rfl
theorem i118_40 : mm_cd 118 40 = some (.aload_n 0, 1, 0, 0) := rfl
theorem i118_41 : mm_cd 118 41 = some (.getfield 21, 3, ((9 : Nat) : Int), 2) := rfl
theorem i118_44 : mm_cd 118 44 = some (.getfield 133, 3, ((6 : Nat) : Int), 9) := rfl
theorem i118_47 : mm_cd 118 47 = some (.iload_n 1, 1, 0, 0) := rfl
theorem i118_48 : mm_cd 118 48 = some (.iaload, 1, 0, 0) := rfl
theorem i118_49 : mm_cd 118 49 = some (.iload 4, 2, 0, 0) := rfl
theorem i118_51 : mm_cd 118 51 = some (.ishr, 1, 0, 0) := rfl
theorem i118_52 : mm_cd 118 52 = some (.iconst 1, 1, 0, 0) := rfl
theorem i118_53 : mm_cd 118 53 = some (.iand, 1, 0, 0) := rfl
theorem i118_54 : mm_cd 118 54 = some (.istore 5, 2, 0, 0) := rfl
theorem i118_56 : mm_cd 118 56 = some (.aload_n 0, 1, 0, 0) := rfl
theorem i118_57 : mm_cd 118 57 = some (.getfield 39, 3, ((9 : Nat) : Int), 5) := rfl
theorem i118_60 : mm_cd 118 60 = some (.iload 4, 2, 0, 0) := rfl
theorem i118_62 : mm_cd 118 62 = some (.sipush 9999, 3, 0, 0) := rfl
theorem i118_65 : mm_cd 118 65 = some (.aload_n 0, 1, 0, 0) := rfl
theorem i118_66 : mm_cd 118 66 = some (.getfield 39, 3, ((9 : Nat) : Int), 5) := rfl
theorem i118_69 : mm_cd 118 69 = some (.iload 4, 2, 0, 0) := rfl
theorem i118_71 : mm_cd 118 71 = some (.iaload, 1, 0, 0) := rfl
theorem i118_72 : mm_cd 118 72 = some (.iload 5, 2, 0, 0) := rfl
theorem i118_74 : mm_cd 118 74 = some (.iadd, 1, 0, 0) := rfl
theorem i118_75 : mm_cd 118 75 = some (.invokestatic 194, 3, 3, 0) := rfl
theorem i118_78 : mm_cd 118 78 = some (.iastore, 1, 0, 0) := rfl
theorem i118_79 : mm_cd 118 79 = some (.iinc 4 1, 3, 0, 0) := rfl
theorem i118_82 : mm_cd 118 82 = some (.goto (-49), 3, 0, 0) := rfl
theorem i118_85 : mm_cd 118 85 = some (.aload_n 0, 1, 0, 0) := rfl
theorem i118_86 : mm_cd 118 86 = some (.getfield 21, 3, ((9 : Nat) : Int), 2) := rfl
theorem i118_89 : mm_cd 118 89 = some (.getfield 197, 3, ((6 : Nat) : Int), 4) := rfl
theorem i118_92 : mm_cd 118 92 = some (.iload_n 1, 1, 0, 0) := rfl
theorem i118_93 : mm_cd 118 93 = some (.iaload, 1, 0, 0) := rfl
theorem i118_94 : mm_cd 118 94 = some (.istore 4, 2, 0, 0) := rfl
theorem i118_96 : mm_cd 118 96 = some (.aload_n 0, 1, 0, 0) := rfl
theorem i118_97 : mm_cd 118 97 = some (.getfield 12, 3, ((9 : Nat) : Int), 1) := rfl
theorem i118_100 : mm_cd 118 100 = some (.getfield 200, 3, ((0 : Nat) : Int), 5) := rfl
theorem i118_103 : mm_cd 118 103 = some (.iload 4, 2, 0, 0) := rfl
theorem i118_105 : mm_cd 118 105 = some (.dup2, 1, 0, 0) := rfl
theorem i118_106 : mm_cd 118 106 = some (.iaload, 1, 0, 0) := rfl
theorem i118_107 : mm_cd 118 107 = some (.iconst 1, 1, 0, 0) := rfl
theorem i118_108 : mm_cd 118 108 = some (.iadd, 1, 0, 0) := rfl
theorem i118_109 : mm_cd 118 109 = some (.iastore, 1, 0, 0) := rfl
theorem i118_110 : mm_cd 118 110 = some (.aload_n 0, 1, 0, 0) := rfl
theorem i118_111 : mm_cd 118 111 = some (.getfield 12, 3, ((9 : Nat) : Int), 1) := rfl
theorem i118_114 : mm_cd 118 114 = some (.getfield 203, 3, ((0 : Nat) : Int), 4) := rfl
theorem i118_117 : mm_cd 118 117 = some (.iload 4, 2, 0, 0) := rfl
theorem i118_119 : mm_cd 118 119 = some (.iconst 0, 1, 0, 0) := rfl
theorem i118_120 : mm_cd 118 120 = some (.iastore, 1, 0, 0) := rfl
theorem i118_121 : mm_cd 118 121 = some (.aload_n 0, 1, 0, 0) := rfl
theorem i118_122 : mm_cd 118 122 = some (.sipush 9999, 3, 0, 0) := rfl
theorem i118_125 : mm_cd 118 125 = some (.aload_n 0, 1, 0, 0) := rfl
theorem i118_126 : mm_cd 118 126 = some (.getfield 59, 3, ((9 : Nat) : Int), 11) := rfl
theorem i118_129 : mm_cd 118 129 = some (.iload_n 2, 1, 0, 0) := rfl
theorem i118_130 : mm_cd 118 130 = some (.iadd, 1, 0, 0) := rfl
theorem i118_131 : mm_cd 118 131 = some (.invokestatic 194, 3, 3, 0) := rfl
theorem i118_134 : mm_cd 118 134 = some (.putfield 59, 3, ((9 : Nat) : Int), 11) := rfl
theorem i118_137 : mm_cd 118 137 = some (.aload_n 0, 1, 0, 0) := rfl
theorem i118_138 : mm_cd 118 138 = some (.getfield 28, 3, ((9 : Nat) : Int), 3) := rfl
theorem i118_141 : mm_cd 118 141 = some (.aload_n 0, 1, 0, 0) := rfl
theorem i118_142 : mm_cd 118 142 = some (.getfield 21, 3, ((9 : Nat) : Int), 2) := rfl
theorem i118_145 : mm_cd 118 145 = some (.iload_n 1, 1, 0, 0) := rfl
theorem i118_146 : mm_cd 118 146 = some (.aload_n 0, 1, 0, 0) := rfl
theorem i118_147 : mm_cd 118 147 = some (.getfield 39, 3, ((9 : Nat) : Int), 5) := rfl
theorem i118_150 : mm_cd 118 150 = some (.invokevirtual 206, 3, 0, 15) := rfl
theorem i118_153 : mm_cd 118 153 = some (.aload_n 0, 1, 0, 0) := rfl
theorem i118_154 : mm_cd 118 154 = some (.getfield 35, 3, ((9 : Nat) : Int), 4) := rfl
theorem i118_157 : mm_cd 118 157 = some (.aload_n 0, 1, 0, 0) := rfl
theorem i118_158 : mm_cd 118 158 = some (.getfield 52, 3, ((9 : Nat) : Int), 9) := rfl
theorem i118_161 : mm_cd 118 161 = some (.iload 4, 2, 0, 0) := rfl
theorem i118_163 : mm_cd 118 163 = some (.iconst 0, 1, 0, 0) := rfl
theorem i118_164 : mm_cd 118 164 = some (.iload_n 1, 1, 0, 0) := rfl
theorem i118_165 : mm_cd 118 165 = some (.invokevirtual 210, 3, 0, 43) := rfl
theorem i118_168 : mm_cd 118 168 = some (.aload_n 0, 1, 0, 0) := rfl
theorem i118_169 : mm_cd 118 169 = some (.getfield 21, 3, ((9 : Nat) : Int), 2) := rfl
theorem i118_172 : mm_cd 118 172 = some (.iload_n 1, 1, 0, 0) := rfl
theorem i118_173 : mm_cd 118 173 = some (.invokevirtual 213, 3, 0, 85) := rfl
theorem i118_176 : mm_cd 118 176 = some (.aload_n 0, 1, 0, 0) := rfl
theorem i118_177 : mm_cd 118 177 = some (.invokevirtual 169, 3, 0, 120) := rfl
theorem i118_180 : mm_cd 118 180 = some (.iload_n 3, 1, 0, 0) := rfl
theorem i118_181 : mm_cd 118 181 = some (.ireturn, 1, 0, 0) := rfl
def q118_33 (k85 : Int32 → Int32 → Int32 → mS → Option mQ) (a : Nat) : Nat → Int32 → Int32 → Int32 → Int32 → mS → Option mQ
  | 0, _, _, _, _, _ => none
  | n + 1, v1, v2, v3, v4, s => if (10 : Int32) ≤ v4 then (k85 v1 v2 v3 s) else (gA 8 v1 <| bx ((shrI (s.1 ((a + 6) + 6) v1.toNatClampNeg) v4) &&& (1 : Int32)) fun x1 => gA 10 v4 <| gA 10 v4 <| sp (sI s (a + 28) v4.toNatClampNeg (mnI (9999 : Int32) ((s.1 (a + 28) v4.toNatClampNeg) + x1))) fun s2 => bx (v4 + (1 : Int32)) fun x3 => q118_33 k85 a n v1 v2 v3 x3 s2)
theorem t118_33 {L : Nat} {xs : Nat → Int32} {d : Nat} {k85 : Int32 → Int32 → Int32 → mS → Option mQ} {a : Nat} (hk85 : ∀ (v1 : Int32) (v2 : Int32) (v3 : Int32) (s : mS) (r : mQ), k85 v1 v2 v3 s = some r → Ev L xs d 118 85 [(0, .ref a), (1, .int v1), (2, .int v2), (3, .int v3)] [] (hp s) (hr r)) (ma : a ∈ A9) (hd : 5 ≤ d) : ∀ (n : Nat) (v1 : Int32) (v2 : Int32) (v3 : Int32) (v4 : Int32) (s : mS) (r : mQ), q118_33 k85 a n v1 v2 v3 v4 s = some r → Ev L xs d 118 33 [(0, .ref a), (1, .int v1), (2, .int v2), (3, .int v3), (4, .int v4)] [] (hp s) (hr r) := by
  intro n
  induction n with
  | zero => intro v1 v2 v3 v4 s r h; rw [q118_33] at h; cases h
  | succ n ih =>
    intro v1 v2 v3 v4 s r h
    rw [q118_33] at h
    refine Ev.iload H118 i118_33 rfl ?_
    refine Ev.bipush H118 i118_35 kB_10 ?_
    refine Rd.ic_ge H118 i118_37 (t := 85) (by decide) h (fun hc h => ?_) (fun hc h => ?_)
    · exact Ev.sub (l := [(0, .ref a), (1, .int v1), (2, .int v2), (3, .int v3)]) rfl rfl (mm_sub_c rfl (mm_sub_c rfl (mm_sub_c rfl (mm_sub_c rfl mm_sub_n)))) (hk85 _ _ _ _ _ h)
    · refine Ev.aload_n H118 i118_40 rfl ?_
      refine Rd.getR H118 i118_41 (ob9 ma) rfl ?_
      refine Rd.getR H118 i118_44 (ob6 (m9_6_6 ma)) rfl ?_
      refine Ev.iload_n H118 i118_47 rfl ?_
      refine Rd.iaload H118 i118_48 (ar6_6 (m9_6_6 ma)) h (fun h => ?_)
      refine Ev.iload H118 i118_49 rfl ?_
      refine Rd.ishr H118 i118_51 ?_
      refine Ev.iconst H118 i118_52 kI_1 ?_
      refine Ev.iand H118 i118_53 ?_
      refine Rd.istore H118 i118_54 (Nat.le_of_ble_eq_true rfl) (lv2 := fun x1 => [(5, .int x1), (0, .ref a), (1, .int v1), (2, .int v2), (3, .int v3), (4, .int v4)]) (fun _ => rfl) h (fun x1 h => ?_)
      refine Ev.aload_n H118 i118_56 rfl ?_
      refine Rd.getR H118 i118_57 (ob9 ma) rfl ?_
      refine Ev.iload H118 i118_60 rfl ?_
      refine Ev.sipush H118 i118_62 kS_9999 ?_
      refine Ev.aload_n H118 i118_65 rfl ?_
      refine Rd.getR H118 i118_66 (ob9 ma) rfl ?_
      refine Ev.iload H118 i118_69 rfl ?_
      refine Rd.iaload H118 i118_71 (ar9_28 ma) h (fun h => ?_)
      refine Ev.iload H118 i118_72 rfl ?_
      refine Ev.iadd H118 i118_74 ?_
      refine Rd.min H118 i118_75 (Nat.le_of_ble_eq_true rfl) ?_
      refine Rd.iastore H118 i118_78 (ar9_28 ma) h (fun s2 h => ?_)
      refine Rd.iinc H118 i118_79 (Nat.le_of_ble_eq_true rfl) rfl kI_1 (lv2 := fun x3 => [(4, .int x3), (5, .int x1), (0, .ref a), (1, .int v1), (2, .int v2), (3, .int v3)]) (fun _ => rfl) h (fun x3 h => ?_)
      refine Ev.goto H118 i118_82 (t := 33) (by decide) ?_
      exact Ev.sub (l := [(0, .ref a), (1, .int v1), (2, .int v2), (3, .int v3), (4, .int x3)]) rfl rfl (mm_sub_c rfl (mm_sub_c rfl (mm_sub_c rfl (mm_sub_c rfl (mm_sub_c rfl mm_sub_n))))) (ih _ _ _ _ _ _ h)
def q118_85 (a : Nat) (v1 : Int32) (v2 : Int32) (v3 : Int32) (s : mS) : Option mQ := gA 8 v1 <| bx (s.1 ((a + 6) + 1) v1.toNatClampNeg) fun x4 => gA 5 x4 <| gA 5 x4 <| sp (sI s ((a + 1) + 4) x4.toNatClampNeg ((s.1 ((a + 1) + 4) x4.toNatClampNeg) + (1 : Int32))) fun s5 => gA 5 x4 <| sp (sI s5 ((a + 1) + 3) x4.toNatClampNeg (0 : Int32)) fun s6 => sp (sI s6 a 11 (mnI (9999 : Int32) ((s6.1 a 11) + v2))) fun s7 => bM (q15 (a + 18) (a + 6) (a + 28) v1 s7) fun s8 => bM (q43 (a + 26) (s8.1 a 9) x4 (0 : Int32) v1 s8) fun s9 => bM (q85 (a + 6) v1 s9) fun s10 => bM (q120 a s10) fun s11 => rv v3 s11
theorem t118_85 {L : Nat} {xs : Nat → Int32} {d : Nat} {a : Nat} (ma : a ∈ A9) (hd : 5 ≤ d) {v1 : Int32} {v2 : Int32} {v3 : Int32} {s : mS} {r : mQ} (h : q118_85 a v1 v2 v3 s = some r) : Ev L xs d 118 85 [(0, .ref a), (1, .int v1), (2, .int v2), (3, .int v3)] [] (hp s) (hr r) := by
  unfold q118_85 at h
  refine Ev.aload_n H118 i118_85 rfl ?_
  refine Rd.getR H118 i118_86 (ob9 ma) rfl ?_
  refine Rd.getR H118 i118_89 (ob6 (m9_6_6 ma)) rfl ?_
  refine Ev.iload_n H118 i118_92 rfl ?_
  refine Rd.iaload H118 i118_93 (ar6_1 (m9_6_6 ma)) h (fun h => ?_)
  refine Rd.istore H118 i118_94 (Nat.le_of_ble_eq_true rfl) (lv2 := fun x4 => [(4, .int x4), (0, .ref a), (1, .int v1), (2, .int v2), (3, .int v3)]) (fun _ => rfl) h (fun x4 h => ?_)
  refine Ev.aload_n H118 i118_96 rfl ?_
  refine Rd.getR H118 i118_97 (ob9 ma) rfl ?_
  refine Rd.getR H118 i118_100 (ob0 (m9_0_1 ma)) rfl ?_
  refine Ev.iload H118 i118_103 rfl ?_
  refine Ev.dup2 H118 i118_105 ⟨rfl, rfl⟩ ?_
  refine Rd.iaload H118 i118_106 (ar0_4 (m9_0_1 ma)) h (fun h => ?_)
  refine Ev.iconst H118 i118_107 kI_1 ?_
  refine Ev.iadd H118 i118_108 ?_
  refine Rd.iastore H118 i118_109 (ar0_4 (m9_0_1 ma)) h (fun s5 h => ?_)
  refine Ev.aload_n H118 i118_110 rfl ?_
  refine Rd.getR H118 i118_111 (ob9 ma) rfl ?_
  refine Rd.getR H118 i118_114 (ob0 (m9_0_1 ma)) rfl ?_
  refine Ev.iload H118 i118_117 rfl ?_
  refine Ev.iconst H118 i118_119 kI_0 ?_
  refine Rd.iastore H118 i118_120 (ar0_3 (m9_0_1 ma)) h (fun s6 h => ?_)
  refine Ev.aload_n H118 i118_121 rfl ?_
  refine Ev.sipush H118 i118_122 kS_9999 ?_
  refine Ev.aload_n H118 i118_125 rfl ?_
  refine Rd.getI H118 i118_126 (ob9 ma) rfl ?_
  refine Ev.iload_n H118 i118_129 rfl ?_
  refine Ev.iadd H118 i118_130 ?_
  refine Rd.min H118 i118_131 (Nat.le_of_ble_eq_true rfl) ?_
  refine Rd.putI H118 i118_134 (ob9 ma) rfl ty9_11.1 ty9_11.2 h (fun s7 h => ?_)
  refine Ev.aload_n H118 i118_137 rfl ?_
  refine Rd.getR H118 i118_138 (ob9 ma) rfl ?_
  refine Ev.aload_n H118 i118_141 rfl ?_
  refine Rd.getR H118 i118_142 (ob9 ma) rfl ?_
  refine Ev.iload_n H118 i118_145 rfl ?_
  refine Ev.aload_n H118 i118_146 rfl ?_
  refine Rd.getR H118 i118_147 (ob9 ma) rfl ?_
  refine Rd.cV3uN H118 i118_150 cal15 (ob1 (m9_1_18 ma)) (Nat.le_of_ble_eq_true rfl) (Nat.le_of_ble_eq_true rfl) (Nat.lt_of_lt_of_le (by decide) hd) (fun q hq => c15 (m9_1_18 ma) (m9_6_6 ma) (ar9_28 ma) hq) h (fun s8 h => ?_)
  refine Ev.aload_n H118 i118_153 rfl ?_
  refine Rd.getR H118 i118_154 (ob9 ma) rfl ?_
  refine Ev.aload_n H118 i118_157 rfl ?_
  refine Rd.getI H118 i118_158 (ob9 ma) rfl ?_
  refine Ev.iload H118 i118_161 rfl ?_
  refine Ev.iconst H118 i118_163 kI_0 ?_
  refine Ev.iload_n H118 i118_164 rfl ?_
  refine Rd.cV4uN H118 i118_165 cal43 (ob4 (m9_4_26 ma)) (Nat.le_of_ble_eq_true rfl) (Nat.le_of_ble_eq_true rfl) (Nat.lt_of_lt_of_le (by decide) hd) (fun q hq => c43 (m9_4_26 ma) hq) h (fun s9 h => ?_)
  refine Ev.aload_n H118 i118_168 rfl ?_
  refine Rd.getR H118 i118_169 (ob9 ma) rfl ?_
  refine Ev.iload_n H118 i118_172 rfl ?_
  refine Rd.cV1uN H118 i118_173 cal85 (ob6 (m9_6_6 ma)) (Nat.le_of_ble_eq_true rfl) (Nat.le_of_ble_eq_true rfl) (Nat.lt_of_lt_of_le (by decide) hd) (fun q hq => c85 (m9_6_6 ma) hq) h (fun s10 h => ?_)
  refine Ev.aload_n H118 i118_176 rfl ?_
  refine Rd.cV0uN H118 i118_177 cal120 (ob9 ma) (Nat.le_of_ble_eq_true rfl) (Nat.le_of_ble_eq_true rfl) (Nat.lt_of_lt_of_le (by decide) hd) (fun q hq => c120 ma hq) h (fun s11 h => ?_)
  refine Ev.iload_n H118 i118_180 rfl ?_
  exact Rd.ireturn H118 i118_181 rfl h
/-- SerialGate$World.finish(I)I -/
def q118 (a : Nat) (v1 : Int32) (s : mS) : Option mQ := bN (q123 a v1 s) fun x13 s12 => sp (sI s12 a 9 ((s12.1 a 9) + (1 : Int32))) fun s14 => bx (s14.1 a 9) fun x15 => bM (q79 (a + 6) v1 x15 s14) fun s16 => q118_33 (q118_85 a) a 10000 v1 x13 x15 (0 : Int32) s16
theorem c118 {L : Nat} {xs : Nat → Int32} {a : Nat} (ma : a ∈ A9) {v1 : Int32} {s : mS} {r : mQ} (h : q118 a v1 s = some r) : ∀ d, 5 ≤ d → Cl L xs d 118 [.ref a, .int v1] (hp s) (hr r) := by
  intro d hd
  show Ev L xs d 118 0 [(0, .ref a), (1, .int v1)] [] (hp s) (hr r)
  unfold q118 at h
  refine Ev.aload_n H118 i118_0 rfl ?_
  refine Ev.iload_n H118 i118_1 rfl ?_
  refine Rd.cV1vN H118 i118_2 cal123 (ob9 ma) (Nat.le_of_ble_eq_true rfl) (Nat.le_of_ble_eq_true rfl) (Nat.lt_of_lt_of_le (by decide) hd) (fun q hq => c123 ma hq) h (fun x13 s12 h => ?_)
  refine Ev.istore_n H118 i118_5 (Nat.le_of_ble_eq_true rfl) (lv2 := [(2, .int x13), (0, .ref a), (1, .int v1)]) rfl ?_
  refine Ev.aload_n H118 i118_6 rfl ?_
  refine Ev.dup H118 i118_7 rfl ?_
  refine Rd.getI H118 i118_8 (ob9 ma) rfl ?_
  refine Ev.iconst H118 i118_11 kI_1 ?_
  refine Ev.iadd H118 i118_12 ?_
  refine Rd.putI H118 i118_13 (ob9 ma) rfl ty9_9.1 ty9_9.2 h (fun s14 h => ?_)
  refine Ev.aload_n H118 i118_16 rfl ?_
  refine Rd.getI H118 i118_17 (ob9 ma) rfl ?_
  refine Rd.istore_n H118 i118_20 (Nat.le_of_ble_eq_true rfl) (lv2 := fun x15 => [(3, .int x15), (2, .int x13), (0, .ref a), (1, .int v1)]) (fun _ => rfl) h (fun x15 h => ?_)
  refine Ev.aload_n H118 i118_21 rfl ?_
  refine Rd.getR H118 i118_22 (ob9 ma) rfl ?_
  refine Ev.iload_n H118 i118_25 rfl ?_
  refine Ev.iload_n H118 i118_26 rfl ?_
  refine Rd.cV2uN H118 i118_27 cal79 (ob6 (m9_6_6 ma)) (Nat.le_of_ble_eq_true rfl) (Nat.le_of_ble_eq_true rfl) (Nat.lt_of_lt_of_le (by decide) hd) (fun q hq => c79 (m9_6_6 ma) hq) h (fun s16 h => ?_)
  refine Ev.iconst H118 i118_30 kI_0 ?_
  refine Ev.istore H118 i118_31 (Nat.le_of_ble_eq_true rfl) (lv2 := [(4, .int (0 : Int32)), (3, .int x15), (2, .int x13), (0, .ref a), (1, .int v1)]) rfl ?_
  exact Ev.sub (l := [(0, .ref a), (1, .int v1), (2, .int x13), (3, .int x15), (4, .int (0 : Int32))]) rfl rfl (mm_sub_c rfl (mm_sub_c rfl (mm_sub_c rfl (mm_sub_c rfl (mm_sub_c rfl mm_sub_n))))) (t118_33 (k85 := (q118_85 a)) (fun _ _ _ _ _ h => t118_85 ma hd h) ma hd 10000 _ _ _ _ _ _ h)
