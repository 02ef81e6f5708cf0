theorem i238_0 : mm_cd 238 0 = some (.sipush 1620, 3, 0, 0) := rfl
theorem i238_3 : mm_cd 238 3 = some (.iconst 4, 1, 0, 0) := rfl
theorem i238_4 : mm_cd 238 4 = some (.iload_n 1, 1, 0, 0) := rfl
theorem i238_5 : mm_cd 238 5 = some (.imul, 1, 0, 0) := rfl
theorem i238_6 : mm_cd 238 6 = some (.iadd, 1, 0, 0) := rfl
theorem i238_7 : mm_cd 238 7 = some (.istore_n 2, 1, 0, 0) := rfl
theorem i238_8 : mm_cd 238 8 = some (.aload_n 0, 1, 0, 0) := rfl
theorem i238_9 : mm_cd 238 9 = some (.getfield 13, 3, ((11 : Nat) : Int), 1) := rfl
theorem i238_12 : mm_cd 238 12 = some (.iload_n 2, 1, 0, 0) := rfl
theorem i238_13 : mm_cd 238 13 = some (.aload_n 0, 1, 0, 0) := rfl
theorem i238_14 : mm_cd 238 14 = some (.ldc 224, 2, 0, 10) := rfl
theorem i238_16 : mm_cd 238 16 = some (.invokevirtual 115, 3, 0, 218) := rfl
theorem i238_19 : mm_cd 238 19 = some (.ifCond .eq 7, 3, 0, 0) := rfl
theorem i238_22 : mm_cd 238 22 = some (.iconst 0, 1, 0, 0) := rfl
theorem i238_23 : mm_cd 238 23 = some (.goto 30, 3, 0, 0) := rfl
theorem i238_26 : mm_cd 238 26 = some (.aload_n 0, 1, 0, 0) := rfl
theorem i238_27 : mm_cd 238 27 = some (.ldc 226, 2, 0, 11) := rfl
theorem i238_29 : mm_cd 238 29 = some (.invokevirtual 115, 3, 0, 218) := rfl
theorem i238_32 : mm_cd 238 32 = some (.ifCond .eq 7, 3, 0, 0) := rfl
theorem i238_35 : mm_cd 238 35 = some (.iconst 1, 1, 0, 0) := rfl
theorem i238_36 : mm_cd 238 36 = some (.goto 17, 3, 0, 0) := rfl
theorem i238_39 : mm_cd 238 39 = some (.aload_n 0, 1, 0, 0) := rfl
theorem i238_40 : mm_cd 238 40 = some (.ldc 228, 2, 0, 12) := rfl
theorem i238_42 : mm_cd 238 42 = some (.invokevirtual 115, 3, 0, 218) := rfl
theorem i238_45 : mm_cd 238 45 = some (.ifCond .eq 7, 3, 0, 0) := rfl
theorem i238_48 : mm_cd 238 48 = some (.iconst 2, 1, 0, 0) := rfl
theorem i238_49 : mm_cd 238 49 = some (.goto 4, 3, 0, 0) := rfl
theorem i238_52 : mm_cd 238 52 = some (.iconst (-1), 1, 0, 0) := rfl
theorem i238_53 : mm_cd 238 53 = some (.iastore, 1, 0, 0) := rfl
theorem i238_54 : mm_cd 238 54 = some (.aload_n 0, 1, 0, 0) := rfl
theorem i238_55 : mm_cd 238 55 = some (.getfield 13, 3, ((11 : Nat) : Int), 1) := rfl
theorem i238_58 : mm_cd 238 58 = some (.iload_n 2, 1, 0, 0) := rfl
theorem i238_59 : mm_cd 238 59 = some (.iaload, 1, 0, 0) := rfl
theorem i238_60 : mm_cd 238 60 = some (.ifCond .ge 5, 3, 0, 0) := rfl
theorem i238_63 : mm_cd 238 63 = some (.iconst 0, 1, 0, 0) := rfl
theorem i238_64 : mm_cd 238 64 = some (.ireturn, 1, 0, 0) := rfl
theorem i238_65 : mm_cd 238 65 = some (.aload_n 0, 1, 0, 0) := rfl
theorem i238_66 : mm_cd 238 66 = some (.getfield 13, 3, ((11 : Nat) : Int), 1) := rfl
theorem i238_69 : mm_cd 238 69 = some (.iload_n 2, 1, 0, 0) := rfl
theorem i238_70 : mm_cd 238 70 = some (.iconst 1, 1, 0, 0) := rfl
theorem i238_71 : mm_cd 238 71 = some (.iadd, 1, 0, 0) := rfl
theorem i238_72 : mm_cd 238 72 = some (.aload_n 0, 1, 0, 0) := rfl
theorem i238_73 : mm_cd 238 73 = some (.iconst 0, 1, 0, 0) := rfl
theorem i238_74 : mm_cd 238 74 = some (.bipush 40, 2, 0, 0) := rfl
theorem i238_76 : mm_cd 238 76 = some (.invokevirtual 119, 3, 0, 221) := rfl
theorem i238_79 : mm_cd 238 79 = some (.iastore, 1, 0, 0) := rfl
theorem i238_80 : mm_cd 238 80 = some (.aload_n 0, 1, 0, 0) := rfl
theorem i238_81 : mm_cd 238 81 = some (.getfield 13, 3, ((11 : Nat) : Int), 1) := rfl
theorem i238_84 : mm_cd 238 84 = some (.iload_n 2, 1, 0, 0) := rfl
theorem i238_85 : mm_cd 238 85 = some (.iconst 1, 1, 0, 0) := rfl
theorem i238_86 : mm_cd 238 86 = some (.iadd, 1, 0, 0) := rfl
theorem i238_87 : mm_cd 238 87 = some (.iaload, 1, 0, 0) := rfl
theorem i238_88 : mm_cd 238 88 = some (.ifCond .ge 5, 3, 0, 0) := rfl
theorem i238_91 : mm_cd 238 91 = some (.iconst 0, 1, 0, 0) := rfl
theorem i238_92 : mm_cd 238 92 = some (.ireturn, 1, 0, 0) := rfl
theorem i238_93 : mm_cd 238 93 = some (.aload_n 0, 1, 0, 0) := rfl
theorem i238_94 : mm_cd 238 94 = some (.getfield 13, 3, ((11 : Nat) : Int), 1) := rfl
theorem i238_97 : mm_cd 238 97 = some (.iload_n 2, 1, 0, 0) := rfl
theorem i238_98 : mm_cd 238 98 = some (.iconst 2, 1, 0, 0) := rfl
theorem i238_99 : mm_cd 238 99 = some (.iadd, 1, 0, 0) := rfl
theorem i238_100 : mm_cd 238 100 = some (.aload_n 0, 1, 0, 0) := rfl
theorem i238_101 : mm_cd 238 101 = some (.getfield 172, 3, ((11 : Nat) : Int), 16) := rfl
theorem i238_104 : mm_cd 238 104 = some (.iastore, 1, 0, 0) := rfl
theorem i238_105 : mm_cd 238 105 = some (.aload_n 0, 1, 0, 0) := rfl
theorem i238_106 : mm_cd 238 106 = some (.iconst 0, 1, 0, 0) := rfl
theorem i238_107 : mm_cd 238 107 = some (.putfield 200, 3, ((11 : Nat) : Int), 13) := rfl
theorem i238_110 : mm_cd 238 110 = some (.aload_n 0, 1, 0, 0) := rfl
theorem i238_111 : mm_cd 238 111 = some (.ldc 230, 2, 0, 13) := rfl
theorem i238_113 : mm_cd 238 113 = some (.invokevirtual 122, 3, 0, 219) := rfl
theorem i238_116 : mm_cd 238 116 = some (.ifCond .eq 12, 3, 0, 0) := rfl
theorem i238_119 : mm_cd 238 119 = some (.aload_n 0, 1, 0, 0) := rfl
theorem i238_120 : mm_cd 238 120 = some (.invokevirtual 203, 3, 0, 237) := rfl
theorem i238_123 : mm_cd 238 123 = some (.ifCond .ne 5, 3, 0, 0) := rfl
theorem i238_126 : mm_cd 238 126 = some (.iconst 0, 1, 0, 0) := rfl
theorem i238_127 : mm_cd 238 127 = some (.ireturn, 1, 0, 0) := rfl
theorem i238_128 : mm_cd 238 128 = some (.aload_n 0, 1, 0, 0) := rfl
theorem i238_129 : mm_cd 238 129 = some (.getfield 13, 3, ((11 : Nat) : Int), 1) := rfl
theorem i238_132 : mm_cd 238 132 = some (.iload_n 2, 1, 0, 0) := rfl
theorem i238_133 : mm_cd 238 133 = some (.iconst 3, 1, 0, 0) := rfl
theorem i238_134 : mm_cd 238 134 = some (.iadd, 1, 0, 0) := rfl
theorem i238_135 : mm_cd 238 135 = some (.aload_n 0, 1, 0, 0) := rfl
theorem i238_136 : mm_cd 238 136 = some (.getfield 172, 3, ((11 : Nat) : Int), 16) := rfl
theorem i238_139 : mm_cd 238 139 = some (.iastore, 1, 0, 0) := rfl
theorem i238_140 : mm_cd 238 140 = some (.iconst 1, 1, 0, 0) := rfl
theorem i238_141 : mm_cd 238 141 = some (.ireturn, 1, 0, 0) := rfl
def q238_128 (v2 : Int32) (s : mS) : Option mQ := gA 2468 (v2 + (3 : Int32)) <| sp (sI s 513 (v2 + (3 : Int32)).toNatClampNeg (s.1 512 16)) fun s1 => rv (1 : Int32) s1
theorem t238_128 {L : Nat} {xs : Nat → Int32} {d : Nat} (hd : 35 ≤ d) {v2 : Int32} {s : mS} {r : mQ} (h : q238_128 v2 s = some r) : Ev L xs d 238 128 [(0, .ref 512), (2, .int v2)] [] (hp s) (hr r) := by
  unfold q238_128 at h
  refine Ev.aload_n H238 i238_128 rfl ?_
  refine Rd.getR H238 i238_129 ob11 rfl ?_
  refine Ev.iload_n H238 i238_132 rfl ?_
  refine Ev.iconst H238 i238_133 kI_3 ?_
  refine Ev.iadd H238 i238_134 ?_
  refine Ev.aload_n H238 i238_135 rfl ?_
  refine Rd.getI H238 i238_136 ob11 rfl ?_
  refine Rd.iastore H238 i238_139 ar_513 h (fun s1 h => ?_)
  refine Ev.iconst H238 i238_140 kI_1 ?_
  exact Rd.ireturnK H238 i238_141 rfl (Or.inr rfl) h
def q238_53 (v2 : Int32) (y1 : Int32) (y2 : Int32) (s : mS) : Option mQ := gA 2468 y1 <| sp (sI s 513 y1.toNatClampNeg y2) fun s2 => gA 2468 v2 <| if 0 ≤ (s2.1 513 v2.toNatClampNeg) then (bN (q221 (0 : Int32) (40 : Int32) s2) fun x4 s3 => gA 2468 (v2 + (1 : Int32)) <| sp (sI s3 513 (v2 + (1 : Int32)).toNatClampNeg x4) fun s5 => gA 2468 (v2 + (1 : Int32)) <| if 0 ≤ (s5.1 513 (v2 + (1 : Int32)).toNatClampNeg) then (gA 2468 (v2 + (2 : Int32)) <| sp (sI s5 513 (v2 + (2 : Int32)).toNatClampNeg (s5.1 512 16)) fun s6 => sp (sI s6 512 13 (0 : Int32)) fun s7 => bN (q219 12 s7) fun x9 s8 => if x9 = 0 then (q238_128 v2 s8) else (bN (q237 9 s8) fun x11 s10 => if ¬ x11 = 0 then (q238_128 v2 s10) else (rv (0 : Int32) s10))) else (rv (0 : Int32) s5)) else (rv (0 : Int32) s2)
theorem t238_53 {L : Nat} {xs : Nat → Int32} {d : Nat} (hd : 35 ≤ d) {v2 : Int32} {y1 : Int32} {y2 : Int32} {s : mS} {r : mQ} (h : q238_53 v2 y1 y2 s = some r) : Ev L xs d 238 53 [(0, .ref 512), (2, .int v2)] [.int y2, .int y1, .ref 513] (hp s) (hr r) := by
  unfold q238_53 at h
  refine Rd.iastore H238 i238_53 ar_513 h (fun s2 h => ?_)
  refine Ev.aload_n H238 i238_54 rfl ?_
  refine Rd.getR H238 i238_55 ob11 rfl ?_
  refine Ev.iload_n H238 i238_58 rfl ?_
  refine Rd.iaload H238 i238_59 ar_513 h (fun h => ?_)
  refine Rd.if_ge H238 i238_60 (t := 65) (by decide) h (fun hc h => ?_) (fun hc h => ?_)
  · refine Ev.aload_n H238 i238_65 rfl ?_
    refine Rd.getR H238 i238_66 ob11 rfl ?_
    refine Ev.iload_n H238 i238_69 rfl ?_
    refine Ev.iconst H238 i238_70 kI_1 ?_
    refine Ev.iadd H238 i238_71 ?_
    refine Ev.aload_n H238 i238_72 rfl ?_
    refine Ev.iconst H238 i238_73 kI_0 ?_
    refine Ev.bipush H238 i238_74 kB_40 ?_
    refine Rd.cV2vN H238 i238_76 cal221 ob11 (Nat.le_of_ble_eq_true rfl) (Nat.le_of_ble_eq_true rfl) (Nat.lt_of_lt_of_le (by decide) hd) (fun q hq => c221 hq) h (fun x4 s3 h => ?_)
    refine Rd.iastore H238 i238_79 ar_513 h (fun s5 h => ?_)
    refine Ev.aload_n H238 i238_80 rfl ?_
    refine Rd.getR H238 i238_81 ob11 rfl ?_
    refine Ev.iload_n H238 i238_84 rfl ?_
    refine Ev.iconst H238 i238_85 kI_1 ?_
    refine Ev.iadd H238 i238_86 ?_
    refine Rd.iaload H238 i238_87 ar_513 h (fun h => ?_)
    refine Rd.if_ge H238 i238_88 (t := 93) (by decide) h (fun hc h => ?_) (fun hc h => ?_)
    · refine Ev.aload_n H238 i238_93 rfl ?_
      refine Rd.getR H238 i238_94 ob11 rfl ?_
      refine Ev.iload_n H238 i238_97 rfl ?_
      refine Ev.iconst H238 i238_98 kI_2 ?_
      refine Ev.iadd H238 i238_99 ?_
      refine Ev.aload_n H238 i238_100 rfl ?_
      refine Rd.getI H238 i238_101 ob11 rfl ?_
      refine Rd.iastore H238 i238_104 ar_513 h (fun s6 h => ?_)
      refine Ev.aload_n H238 i238_105 rfl ?_
      refine Ev.iconst H238 i238_106 kI_0 ?_
      refine Rd.putI H238 i238_107 ob11 rfl ty11_13.1 ty11_13.2 h (fun s7 h => ?_)
      refine Ev.aload_n H238 i238_110 rfl ?_
      refine Ev.ldcT H238 i238_111 ?_
      refine Rd.cV1vN H238 i238_113 cal219 ob11 (Nat.le_of_ble_eq_true rfl) (Nat.le_of_ble_eq_true rfl) (Nat.lt_of_lt_of_le (by decide) hd) (fun q hq => c219 (by decide) hq) h (fun x9 s8 h => ?_)
      refine Rd.if_eq H238 i238_116 (t := 128) (by decide) h (fun hc h => ?_) (fun hc h => ?_)
      · exact Ev.sub (l := [(0, .ref 512), (2, .int v2)]) rfl rfl (mm_sub_c rfl (mm_sub_c rfl mm_sub_n)) (t238_128 hd h)
      · refine Ev.aload_n H238 i238_119 rfl ?_
        refine Rd.cV0vN H238 i238_120 cal237 ob11 (Nat.le_of_ble_eq_true rfl) (Nat.le_of_ble_eq_true rfl) (Nat.lt_of_lt_of_le (by decide) hd) (fun q hq => c237 hq) h (fun x11 s10 h => ?_)
        refine Rd.if_ne H238 i238_123 (t := 128) (by decide) h (fun hc h => ?_) (fun hc h => ?_)
        · exact Ev.sub (l := [(0, .ref 512), (2, .int v2)]) rfl rfl (mm_sub_c rfl (mm_sub_c rfl mm_sub_n)) (t238_128 hd h)
        · refine Ev.iconst H238 i238_126 kI_0 ?_
          exact Rd.ireturnK H238 i238_127 rfl (Or.inl rfl) h
    · refine Ev.iconst H238 i238_91 kI_0 ?_
      exact Rd.ireturnK H238 i238_92 rfl (Or.inl rfl) h
  · refine Ev.iconst H238 i238_63 kI_0 ?_
    exact Rd.ireturnK H238 i238_64 rfl (Or.inl rfl) h
/-- SerialGateModel.readLawLine(I)Z -/
def q238 (v1 : Int32) (s : mS) : Option mQ := bx ((1620 : Int32) + ((4 : Int32) * v1)) fun x12 => bN (q218 9 s) fun x14 s13 => if x14 = 0 then (bN (q218 10 s13) fun x16 s15 => if x16 = 0 then (bN (q218 11 s15) fun x18 s17 => if x18 = 0 then (q238_53 x12 x12 (-1 : Int32) s17) else (q238_53 x12 x12 (2 : Int32) s17)) else (q238_53 x12 x12 (1 : Int32) s15)) else (q238_53 x12 x12 (0 : Int32) s13)
theorem c238 {L : Nat} {xs : Nat → Int32} {v1 : Int32} {s : mS} {r : mQ} (h : q238 v1 s = some r) : ∀ d, 35 ≤ d → Cl L xs d 238 [.ref 512, .int v1] (hp s) (hr r) := by
  intro d hd
  show Ev L xs d 238 0 [(0, .ref 512), (1, .int v1)] [] (hp s) (hr r)
  unfold q238 at h
  refine Ev.sipush H238 i238_0 kS_1620 ?_
  refine Ev.iconst H238 i238_3 kI_4 ?_
  refine Ev.iload_n H238 i238_4 rfl ?_
  refine Ev.imul H238 i238_5 ?_
  refine Ev.iadd H238 i238_6 ?_
  refine Rd.istore_n H238 i238_7 (Nat.le_of_ble_eq_true rfl) (lv2 := fun x12 => [(2, .int x12), (0, .ref 512), (1, .int v1)]) (fun _ => rfl) h (fun x12 h => ?_)
  refine Ev.aload_n H238 i238_8 rfl ?_
  refine Rd.getR H238 i238_9 ob11 rfl ?_
  refine Ev.iload_n H238 i238_12 rfl ?_
  refine Ev.aload_n H238 i238_13 rfl ?_
  refine Ev.ldcT H238 i238_14 ?_
  refine Rd.cV1vN H238 i238_16 cal218 ob11 (Nat.le_of_ble_eq_true rfl) (Nat.le_of_ble_eq_true rfl) (Nat.lt_of_lt_of_le (by decide) hd) (fun q hq => c218 (by decide) hq) h (fun x14 s13 h => ?_)
  refine Rd.if_eq H238 i238_19 (t := 26) (by decide) h (fun hc h => ?_) (fun hc h => ?_)
  · refine Ev.aload_n H238 i238_26 rfl ?_
    refine Ev.ldcT H238 i238_27 ?_
    refine Rd.cV1vN H238 i238_29 cal218 ob11 (Nat.le_of_ble_eq_true rfl) (Nat.le_of_ble_eq_true rfl) (Nat.lt_of_lt_of_le (by decide) hd) (fun q hq => c218 (by decide) hq) h (fun x16 s15 h => ?_)
    refine Rd.if_eq H238 i238_32 (t := 39) (by decide) h (fun hc h => ?_) (fun hc h => ?_)
    · refine Ev.aload_n H238 i238_39 rfl ?_
      refine Ev.ldcT H238 i238_40 ?_
      refine Rd.cV1vN H238 i238_42 cal218 ob11 (Nat.le_of_ble_eq_true rfl) (Nat.le_of_ble_eq_true rfl) (Nat.lt_of_lt_of_le (by decide) hd) (fun q hq => c218 (by decide) hq) h (fun x18 s17 h => ?_)
      refine Rd.if_eq H238 i238_45 (t := 52) (by decide) h (fun hc h => ?_) (fun hc h => ?_)
      · refine Ev.iconst H238 i238_52 kI_m1 ?_
        exact Ev.sub (l := [(0, .ref 512), (2, .int x12)]) rfl rfl (mm_sub_c rfl (mm_sub_c rfl mm_sub_n)) (t238_53 hd h)
      · refine Ev.iconst H238 i238_48 kI_2 ?_
        refine Ev.goto H238 i238_49 (t := 53) (by decide) ?_
        exact Ev.sub (l := [(0, .ref 512), (2, .int x12)]) rfl rfl (mm_sub_c rfl (mm_sub_c rfl mm_sub_n)) (t238_53 hd h)
    · refine Ev.iconst H238 i238_35 kI_1 ?_
      refine Ev.goto H238 i238_36 (t := 53) (by decide) ?_
      exact Ev.sub (l := [(0, .ref 512), (2, .int x12)]) rfl rfl (mm_sub_c rfl (mm_sub_c rfl mm_sub_n)) (t238_53 hd h)
  · refine Ev.iconst H238 i238_22 kI_0 ?_
    refine Ev.goto H238 i238_23 (t := 53) (by decide) ?_
    exact Ev.sub (l := [(0, .ref 512), (2, .int x12)]) rfl rfl (mm_sub_c rfl (mm_sub_c rfl mm_sub_n)) (t238_53 hd h)
theorem i239_0 : mm_cd 239 0 = some (.aload_n 0, 1, 0, 0) := rfl
theorem i239_1 : mm_cd 239 1 = some (.invokevirtual 112, 3, 0, 217) := rfl
theorem i239_4 : mm_cd 239 4 = some (.iload_n 2, 1, 0, 0) := rfl
theorem i239_5 : mm_cd 239 5 = some (.iload_n 1, 1, 0, 0) := rfl
theorem i239_6 : mm_cd 239 6 = some (.ifCond .eq 8, 3, 0, 0) := rfl
theorem i239_9 : mm_cd 239 9 = some (.bipush 14, 2, 0, 0) := rfl
theorem i239_11 : mm_cd 239 11 = some (.goto 5, 3, 0, 0) := rfl
theorem i239_14 : mm_cd 239 14 = some (.bipush 12, 2, 0, 0) := rfl
theorem i239_16 : mm_cd 239 16 = some (.if_icmp .ge 29, 3, 0, 0) := rfl
theorem i239_19 : mm_cd 239 19 = some (.iload_n 1, 1, 0, 0) := rfl
theorem i239_20 : mm_cd 239 20 = some (.ifCond .eq 13, 3, 0, 0) := rfl
theorem i239_23 : mm_cd 239 23 = some (.aload_n 0, 1, 0, 0) := rfl
theorem i239_24 : mm_cd 239 24 = some (.invokevirtual 232, 3, 0, 229) := rfl
theorem i239_27 : mm_cd 239 27 = some (.ifCond .eq 18, 3, 0, 0) := rfl
theorem i239_30 : mm_cd 239 30 = some (.goto 11, 3, 0, 0) := rfl
theorem i239_33 : mm_cd 239 33 = some (.aload_n 0, 1, 0, 0) := rfl
theorem i239_34 : mm_cd 239 34 = some (.iload_n 2, 1, 0, 0) := rfl
theorem i239_35 : mm_cd 239 35 = some (.invokevirtual 235, 3, 0, 238) := rfl
theorem i239_38 : mm_cd 239 38 = some (.ifCond .eq 7, 3, 0, 0) := rfl
theorem i239_41 : mm_cd 239 41 = some (.iconst 1, 1, 0, 0) := rfl
theorem i239_42 : mm_cd 239 42 = some (.goto 4, 3, 0, 0) := rfl
theorem i239_45 : mm_cd 239 45 = some (.iconst 0, 1, 0, 0) := rfl
theorem i239_46 : mm_cd 239 46 = some (.ireturn, 1, 0, 0) := rfl
def q239_41 (s : mS) : Option mQ := rv (1 : Int32) s
theorem t239_41 {L : Nat} {xs : Nat → Int32} {d : Nat} (hd : 36 ≤ d) {s : mS} {r : mQ} (h : q239_41 s = some r) : Ev L xs d 239 41 [] [] (hp s) (hr r) := by
  unfold q239_41 at h
  refine Ev.iconst H239 i239_41 kI_1 ?_
  refine Ev.goto H239 i239_42 (t := 46) (by decide) ?_
  exact Rd.ireturnK H239 i239_46 rfl (Or.inr rfl) h
def q239_16 (v1 : Int32) (v2 : Int32) (y0 : Int32) (y1 : Int32) (s : mS) : Option mQ := if y1 ≤ y0 then (rv (0 : Int32) s) else (if v1 = 0 then (bN (q238 v2 s) fun x2 s1 => if x2 = 0 then (rv (0 : Int32) s1) else (q239_41 s1)) else (bN (q229 s) fun x4 s3 => if x4 = 0 then (rv (0 : Int32) s3) else (q239_41 s3)))
theorem t239_16 {L : Nat} {xs : Nat → Int32} {d : Nat} (hd : 36 ≤ d) {v1 : Int32} {v2 : Int32} {y0 : Int32} {y1 : Int32} {s : mS} {r : mQ} (h : q239_16 v1 v2 y0 y1 s = some r) : Ev L xs d 239 16 [(0, .ref 512), (1, .int v1), (2, .int v2)] [.int y1, .int y0] (hp s) (hr r) := by
  unfold q239_16 at h
  refine Rd.ic_ge H239 i239_16 (t := 45) (by decide) h (fun hc h => ?_) (fun hc h => ?_)
  · refine Ev.iconst H239 i239_45 kI_0 ?_
    exact Rd.ireturnK H239 i239_46 rfl (Or.inl rfl) h
  · refine Ev.iload_n H239 i239_19 rfl ?_
    refine Rd.if_eq H239 i239_20 (t := 33) (by decide) h (fun hc h => ?_) (fun hc h => ?_)
    · refine Ev.aload_n H239 i239_33 rfl ?_
      refine Ev.iload_n H239 i239_34 rfl ?_
      refine Rd.cV1vN H239 i239_35 cal238 ob11 (Nat.le_of_ble_eq_true rfl) (Nat.le_of_ble_eq_true rfl) (Nat.lt_of_lt_of_le (by decide) hd) (fun q hq => c238 hq) h (fun x2 s1 h => ?_)
      refine Rd.if_eq H239 i239_38 (t := 45) (by decide) h (fun hc h => ?_) (fun hc h => ?_)
      · refine Ev.iconst H239 i239_45 kI_0 ?_
        exact Rd.ireturnK H239 i239_46 rfl (Or.inl rfl) h
      · exact Ev.sub (l := []) rfl rfl mm_sub_n (t239_41 hd h)
    · refine Ev.aload_n H239 i239_23 rfl ?_
      refine Rd.cV0vN H239 i239_24 cal229 ob11 (Nat.le_of_ble_eq_true rfl) (Nat.le_of_ble_eq_true rfl) (Nat.lt_of_lt_of_le (by decide) hd) (fun q hq => c229 hq) h (fun x4 s3 h => ?_)
      refine Rd.if_eq H239 i239_27 (t := 45) (by decide) h (fun hc h => ?_) (fun hc h => ?_)
      · refine Ev.iconst H239 i239_45 kI_0 ?_
        exact Rd.ireturnK H239 i239_46 rfl (Or.inl rfl) h
      · refine Ev.goto H239 i239_30 (t := 41) (by decide) ?_
        exact Ev.sub (l := []) rfl rfl mm_sub_n (t239_41 hd h)
/-- SerialGateModel.readLine(ZI)Z -/
def q239 (v1 : Int32) (v2 : Int32) (s : mS) : Option mQ := bM (q217 s) fun s5 => if v1 = 0 then (q239_16 v1 v2 v2 (12 : Int32) s5) else (q239_16 v1 v2 v2 (14 : Int32) s5)
theorem c239 {L : Nat} {xs : Nat → Int32} {v1 : Int32} {v2 : Int32} {s : mS} {r : mQ} (h : q239 v1 v2 s = some r) : ∀ d, 36 ≤ d → Cl L xs d 239 [.ref 512, .int v1, .int v2] (hp s) (hr r) := by
  intro d hd
  show Ev L xs d 239 0 [(0, .ref 512), (1, .int v1), (2, .int v2)] [] (hp s) (hr r)
  unfold q239 at h
  refine Ev.aload_n H239 i239_0 rfl ?_
  refine Rd.cV0uN H239 i239_1 cal217 ob11 (Nat.le_of_ble_eq_true rfl) (Nat.le_of_ble_eq_true rfl) (Nat.lt_of_lt_of_le (by decide) hd) (fun q hq => c217 hq) h (fun s5 h => ?_)
  refine Ev.iload_n H239 i239_4 rfl ?_
  refine Ev.iload_n H239 i239_5 rfl ?_
  refine Rd.if_eq H239 i239_6 (t := 14) (by decide) h (fun hc h => ?_) (fun hc h => ?_)
  · refine Ev.bipush H239 i239_14 kB_12 ?_
    exact Ev.sub (l := [(0, .ref 512), (1, .int v1), (2, .int v2)]) rfl rfl (mm_sub_c rfl (mm_sub_c rfl (mm_sub_c rfl mm_sub_n))) (t239_16 hd h)
  · refine Ev.bipush H239 i239_9 kB_14 ?_
    refine Ev.goto H239 i239_11 (t := 16) (by decide) ?_
    exact Ev.sub (l := [(0, .ref 512), (1, .int v1), (2, .int v2)]) rfl rfl (mm_sub_c rfl (mm_sub_c rfl (mm_sub_c rfl mm_sub_n))) (t239_16 hd h)
theorem i240_0 : mm_cd 240 0 = some (.aload_n 0, 1, 0, 0) := rfl
theorem i240_1 : mm_cd 240 1 = some (.invokevirtual 238, 3, 0, 224) := rfl
theorem i240_4 : mm_cd 240 4 = some (.aload_n 0, 1, 0, 0) := rfl
theorem i240_5 : mm_cd 240 5 = some (.iconst 0, 1, 0, 0) := rfl
theorem i240_6 : mm_cd 240 6 = some (.putfield 172, 3, ((11 : Nat) : Int), 16) := rfl
theorem i240_9 : mm_cd 240 9 = some (.aload_n 0, 1, 0, 0) := rfl
theorem i240_10 : mm_cd 240 10 = some (.invokevirtual 99, 3, 0, 216) := rfl
theorem i240_13 : mm_cd 240 13 = some (.aload_n 0, 1, 0, 0) := rfl
theorem i240_14 : mm_cd 240 14 = some (.getfield 87, 3, ((11 : Nat) : Int), 10) := rfl
theorem i240_17 : mm_cd 240 17 = some (.aload_n 0, 1, 0, 0) := rfl
theorem i240_18 : mm_cd 240 18 = some (.getfield 90, 3, ((11 : Nat) : Int), 11) := rfl
theorem i240_21 : mm_cd 240 21 = some (.if_icmp .ne 5, 3, 0, 0) := rfl
theorem i240_24 : mm_cd 240 24 = some (.iconst 0, 1, 0, 0) := rfl
theorem i240_25 : mm_cd 240 25 = some (.ireturn, 1, 0, 0) := rfl
theorem i240_26 : mm_cd 240 26 = some (.iconst 0, 1, 0, 0) := rfl
theorem i240_27 : mm_cd 240 27 = some (.istore_n 2, 1, 0, 0) := rfl
theorem i240_28 : mm_cd 240 28 = some (.aload_n 0, 1, 0, 0) := rfl
theorem i240_29 : mm_cd 240 29 = some (.iload_n 1, 1, 0, 0) := rfl
theorem i240_30 : mm_cd 240 30 = some (.iload_n 2, 1, 0, 0) := rfl
theorem i240_31 : mm_cd 240 31 = some (.invokevirtual 241, 3, 0, 239) := rfl
theorem i240_34 : mm_cd 240 34 = some (.ifCond .ne 5, 3, 0, 0) := rfl
theorem i240_37 : mm_cd 240 37 = some (.iconst (-1), 1, 0, 0) := rfl
theorem i240_38 : mm_cd 240 38 = some (.ireturn, 1, 0, 0) := rfl
theorem i240_39 : mm_cd 240 39 = some (.aload_n 0, 1, 0, 0) := rfl
theorem i240_40 : mm_cd 240 40 = some (.invokevirtual 99, 3, 0, 216) := rfl
theorem i240_43 : mm_cd 240 43 = some (.aload_n 0, 1, 0, 0) := rfl
theorem i240_44 : mm_cd 240 44 = some (.getfield 87, 3, ((11 : Nat) : Int), 10) := rfl
theorem i240_47 : mm_cd 240 47 = some (.aload_n 0, 1, 0, 0) := rfl
theorem i240_48 : mm_cd 240 48 = some (.getfield 90, 3, ((11 : Nat) : Int), 11) := rfl
theorem i240_51 : mm_cd 240 51 = some (.if_icmp .ne 7, 3, 0, 0) := rfl
theorem i240_54 : mm_cd 240 54 = some (.iload_n 2, 1, 0, 0) := rfl
theorem i240_55 : mm_cd 240 55 = some (.iconst 1, 1, 0, 0) := rfl
theorem i240_56 : mm_cd 240 56 = some (.iadd, 1, 0, 0) := rfl
theorem i240_57 : mm_cd 240 57 = some (.ireturn, 1, 0, 0) := rfl
theorem i240_58 : mm_cd 240 58 = some (.aload_n 0, 1, 0, 0) := rfl
theorem i240_59 : mm_cd 240 59 = some (.bipush 59, 2, 0, 0) := rfl
theorem i240_61 : mm_cd 240 61 = some (.bipush 59, 2, 0, 0) := rfl
theorem i240_63 : mm_cd 240 63 = some (.invokevirtual 93, 3, 0, 215) := rfl
theorem i240_66 : mm_cd 240 66 = some (.ifCond .ne 5, 3, 0, 0) := rfl
theorem i240_69 : mm_cd 240 69 = some (.iconst (-1), 1, 0, 0) := rfl
theorem i240_70 : mm_cd 240 70 = some (.ireturn, 1, 0, 0) := rfl
theorem i240_71 : mm_cd 240 71 = some (.aload_n 0, 1, 0, 0) := rfl
theorem i240_72 : mm_cd 240 72 = some (.dup, 1, 0, 0) := rfl
theorem i240_73 : mm_cd 240 73 = some (.getfield 87, 3, ((11 : Nat) : Int), 10) := rfl
theorem i240_76 : mm_cd 240 76 = some (.iconst 1, 1, 0, 0) := rfl
theorem i240_77 : mm_cd 240 77 = some (.iadd, 1, 0, 0) := rfl
theorem i240_78 : mm_cd 240 78 = some (.putfield 87, 3, ((11 : Nat) : Int), 10) := rfl
theorem i240_81 : mm_cd 240 81 = some (.iinc 2 1, 3, 0, 0) := rfl
theorem i240_84 : mm_cd 240 84 = some (.goto (-56), 3, 0, 0) := rfl
def q240_28 (k54 : Int32 → mS → Option mQ) : Nat → Int32 → Int32 → mS → Option mQ
  | 0, _, _, _ => none
  | n + 1, v1, v2, s => bN (q239 v1 v2 s) fun x2 s1 => if ¬ x2 = 0 then (bM (q216 s1) fun s3 => if ¬ (s3.1 512 10) = (s3.1 512 11) then (bN (q215 (59 : Int32) (59 : Int32) s3) fun x5 s4 => if ¬ x5 = 0 then (sp (sI s4 512 10 ((s4.1 512 10) + (1 : Int32))) fun s6 => bx (v2 + (1 : Int32)) fun x7 => q240_28 k54 n v1 x7 s6) else (rv (-1 : Int32) s4)) else (k54 v2 s3)) else (rv (-1 : Int32) s1)
theorem t240_28 {L : Nat} {xs : Nat → Int32} {d : Nat} {k54 : Int32 → mS → Option mQ} (hk54 : ∀ (v2 : Int32) (s : mS) (r : mQ), k54 v2 s = some r → Ev L xs d 240 54 [(2, .int v2)] [] (hp s) (hr r)) (hd : 37 ≤ d) : ∀ (n : Nat) (v1 : Int32) (v2 : Int32) (s : mS) (r : mQ), q240_28 k54 n v1 v2 s = some r → Ev L xs d 240 28 [(0, .ref 512), (1, .int v1), (2, .int v2)] [] (hp s) (hr r) := by
  intro n
  induction n with
  | zero => intro v1 v2 s r h; rw [q240_28] at h; cases h
  | succ n ih =>
    intro v1 v2 s r h
    rw [q240_28] at h
    refine Ev.aload_n H240 i240_28 rfl ?_
    refine Ev.iload_n H240 i240_29 rfl ?_
    refine Ev.iload_n H240 i240_30 rfl ?_
    refine Rd.cV2vN H240 i240_31 cal239 ob11 (Nat.le_of_ble_eq_true rfl) (Nat.le_of_ble_eq_true rfl) (Nat.lt_of_lt_of_le (by decide) hd) (fun q hq => c239 hq) h (fun x2 s1 h => ?_)
    refine Rd.if_ne H240 i240_34 (t := 39) (by decide) h (fun hc h => ?_) (fun hc h => ?_)
    · refine Ev.aload_n H240 i240_39 rfl ?_
      refine Rd.cV0uN H240 i240_40 cal216 ob11 (Nat.le_of_ble_eq_true rfl) (Nat.le_of_ble_eq_true rfl) (Nat.lt_of_lt_of_le (by decide) hd) (fun q hq => c216 hq) h (fun s3 h => ?_)
      refine Ev.aload_n H240 i240_43 rfl ?_
      refine Rd.getI H240 i240_44 ob11 rfl ?_
      refine Ev.aload_n H240 i240_47 rfl ?_
      refine Rd.getI H240 i240_48 ob11 rfl ?_
      refine Rd.ic_ne H240 i240_51 (t := 58) (by decide) h (fun hc h => ?_) (fun hc h => ?_)
      · refine Ev.aload_n H240 i240_58 rfl ?_
        refine Ev.bipush H240 i240_59 kB_59 ?_
        refine Ev.bipush H240 i240_61 kB_59 ?_
        refine Rd.cV2vN H240 i240_63 cal215 ob11 (Nat.le_of_ble_eq_true rfl) (Nat.le_of_ble_eq_true rfl) (Nat.lt_of_lt_of_le (by decide) hd) (fun q hq => c215 hq) h (fun x5 s4 h => ?_)
        refine Rd.if_ne H240 i240_66 (t := 71) (by decide) h (fun hc h => ?_) (fun hc h => ?_)
        · refine Ev.aload_n H240 i240_71 rfl ?_
          refine Ev.dup H240 i240_72 rfl ?_
          refine Rd.getI H240 i240_73 ob11 rfl ?_
          refine Ev.iconst H240 i240_76 kI_1 ?_
          refine Ev.iadd H240 i240_77 ?_
          refine Rd.putI H240 i240_78 ob11 rfl ty11_10.1 ty11_10.2 h (fun s6 h => ?_)
          refine Rd.iinc H240 i240_81 (Nat.le_of_ble_eq_true rfl) rfl kI_1 (lv2 := fun x7 => [(2, .int x7), (0, .ref 512), (1, .int v1)]) (fun _ => rfl) h (fun x7 h => ?_)
          refine Ev.goto H240 i240_84 (t := 28) (by decide) ?_
          exact Ev.sub (l := [(0, .ref 512), (1, .int v1), (2, .int x7)]) rfl rfl (mm_sub_c rfl (mm_sub_c rfl (mm_sub_c rfl mm_sub_n))) (ih _ _ _ _ h)
        · refine Ev.iconst H240 i240_69 kI_m1 ?_
          exact Rd.ireturn H240 i240_70 rfl h
      · exact Ev.sub (l := [(2, .int v2)]) rfl rfl (mm_sub_c rfl mm_sub_n) (hk54 _ _ _ h)
    · refine Ev.iconst H240 i240_37 kI_m1 ?_
      exact Rd.ireturn H240 i240_38 rfl h
def q240_54 (v2 : Int32) (s : mS) : Option mQ := rv (v2 + (1 : Int32)) s
theorem t240_54 {L : Nat} {xs : Nat → Int32} {d : Nat} (hd : 37 ≤ d) {v2 : Int32} {s : mS} {r : mQ} (h : q240_54 v2 s = some r) : Ev L xs d 240 54 [(2, .int v2)] [] (hp s) (hr r) := by
  unfold q240_54 at h
  refine Ev.iload_n H240 i240_54 rfl ?_
  refine Ev.iconst H240 i240_55 kI_1 ?_
  refine Ev.iadd H240 i240_56 ?_
  exact Rd.ireturn H240 i240_57 rfl h
/-- SerialGateModel.readAll(Z)I -/
def q240 (v1 : Int32) (s : mS) : Option mQ := bM (q224 s) fun s8 => sp (sI s8 512 16 (0 : Int32)) fun s9 => bM (q216 s9) fun s10 => if ¬ (s10.1 512 10) = (s10.1 512 11) then (q240_28 (q240_54) 10000 v1 (0 : Int32) s10) else (rv (0 : Int32) s10)
theorem c240 {L : Nat} {xs : Nat → Int32} {v1 : Int32} {s : mS} {r : mQ} (h : q240 v1 s = some r) : ∀ d, 37 ≤ d → Cl L xs d 240 [.ref 512, .int v1] (hp s) (hr r) := by
  intro d hd
  show Ev L xs d 240 0 [(0, .ref 512), (1, .int v1)] [] (hp s) (hr r)
  unfold q240 at h
  refine Ev.aload_n H240 i240_0 rfl ?_
  refine Rd.cV0uN H240 i240_1 cal224 ob11 (Nat.le_of_ble_eq_true rfl) (Nat.le_of_ble_eq_true rfl) (Nat.lt_of_lt_of_le (by decide) hd) (fun q hq => c224 hq) h (fun s8 h => ?_)
  refine Ev.aload_n H240 i240_4 rfl ?_
  refine Ev.iconst H240 i240_5 kI_0 ?_
  refine Rd.putI H240 i240_6 ob11 rfl ty11_16.1 ty11_16.2 h (fun s9 h => ?_)
  refine Ev.aload_n H240 i240_9 rfl ?_
  refine Rd.cV0uN H240 i240_10 cal216 ob11 (Nat.le_of_ble_eq_true rfl) (Nat.le_of_ble_eq_true rfl) (Nat.lt_of_lt_of_le (by decide) hd) (fun q hq => c216 hq) h (fun s10 h => ?_)
  refine Ev.aload_n H240 i240_13 rfl ?_
  refine Rd.getI H240 i240_14 ob11 rfl ?_
  refine Ev.aload_n H240 i240_17 rfl ?_
  refine Rd.getI H240 i240_18 ob11 rfl ?_
  refine Rd.ic_ne H240 i240_21 (t := 26) (by decide) h (fun hc h => ?_) (fun hc h => ?_)
  · refine Ev.iconst H240 i240_26 kI_0 ?_
    refine Ev.istore_n H240 i240_27 (Nat.le_of_ble_eq_true rfl) (lv2 := [(2, .int (0 : Int32)), (0, .ref 512), (1, .int v1)]) rfl ?_
    exact Ev.sub (l := [(0, .ref 512), (1, .int v1), (2, .int (0 : Int32))]) rfl rfl (mm_sub_c rfl (mm_sub_c rfl (mm_sub_c rfl mm_sub_n))) (t240_28 (k54 := (q240_54)) (fun _ _ _ h => t240_54 hd h) hd 10000 _ _ _ _ h)
  · refine Ev.iconst H240 i240_24 kI_0 ?_
    exact Rd.ireturn H240 i240_25 rfl h
theorem i258_0 : mm_cd 258 0 = some (.iconst (-1), 1, 0, 0) := rfl
theorem i258_1 : mm_cd 258 1 = some (.istore_n 2, 1, 0, 0) := rfl
theorem i258_2 : mm_cd 258 2 = some (.iconst 0, 1, 0, 0) := rfl
theorem i258_3 : mm_cd 258 3 = some (.istore_n 3, 1, 0, 0) := rfl
theorem i258_4 : mm_cd 258 4 = some (.iload_n 3, 1, 0, 0) := rfl
theorem i258_5 : mm_cd 258 5 = some (.bipush 8, 2, 0, 0) := rfl
theorem i258_7 : mm_cd 258 7 = some (.if_icmp .ge 39, 3, 0, 0) := rfl
theorem i258_10 : mm_cd 258 10 = some (.iload_n 1, 1, 0, 0) := rfl
theorem i258_11 : mm_cd 258 11 = some (.iload_n 3, 1, 0, 0) := rfl
theorem i258_12 : mm_cd 258 12 = some (.invokestatic 79, 3, 0, 190) := rfl
theorem i258_15 : mm_cd 258 15 = some (.ifCond .eq 25, 3, 0, 0) := rfl
theorem i258_18 : mm_cd 258 18 = some (.iload_n 2, 1, 0, 0) := rfl
theorem i258_19 : mm_cd 258 19 = some (.iconst (-1), 1, 0, 0) := rfl
theorem i258_20 : mm_cd 258 20 = some (.if_icmp .eq 18, 3, 0, 0) := rfl
theorem i258_23 : mm_cd 258 23 = some (.aload_n 0, 1, 0, 0) := rfl
theorem i258_24 : mm_cd 258 24 = some (.iload_n 3, 1, 0, 0) := rfl
theorem i258_25 : mm_cd 258 25 = some (.iconst 3, 1, 0, 0) := rfl
theorem i258_26 : mm_cd 258 26 = some (.invokevirtual 69, 3, 0, 204) := rfl
theorem i258_29 : mm_cd 258 29 = some (.aload_n 0, 1, 0, 0) := rfl
theorem i258_30 : mm_cd 258 30 = some (.iload_n 2, 1, 0, 0) := rfl
theorem i258_31 : mm_cd 258 31 = some (.iconst 3, 1, 0, 0) := rfl
theorem i258_32 : mm_cd 258 32 = some (.invokevirtual 69, 3, 0, 204) := rfl
theorem i258_35 : mm_cd 258 35 = some (.if_icmp .ge 5, 3, 0, 0) := rfl
theorem i258_38 : mm_cd 258 38 = some (.iload_n 3, 1, 0, 0) := rfl
theorem i258_39 : mm_cd 258 39 = some (.istore_n 2, 1, 0, 0) := rfl
theorem i258_40 : mm_cd 258 40 = some (.iinc 3 1, 3, 0, 0) := rfl
theorem i258_43 : mm_cd 258 43 = some (.goto (-39), 3, 0, 0) := rfl
theorem i258_46 : mm_cd 258 46 = some (.iload_n 2, 1, 0, 0) := rfl
theorem i258_47 : mm_cd 258 47 = some (.ireturn, 1, 0, 0) := rfl
def q258_40 (k4 : Int32 → Int32 → Int32 → mS → Option mQ) (v1 : Int32) (v2 : Int32) (v3 : Int32) (s : mS) : Option mQ := bx (v3 + (1 : Int32)) fun x1 => k4 v1 v2 x1 s
theorem t258_40 {L : Nat} {xs : Nat → Int32} {d : Nat} {k4 : Int32 → Int32 → Int32 → mS → Option mQ} (hk4 : ∀ (v1 : Int32) (v2 : Int32) (v3 : Int32) (s : mS) (r : mQ), k4 v1 v2 v3 s = some r → Ev L xs d 258 4 [(0, .ref 512), (1, .int v1), (2, .int v2), (3, .int v3)] [] (hp s) (hr r)) (hd : 2 ≤ d) {v1 : Int32} {v2 : Int32} {v3 : Int32} {s : mS} {r : mQ} (h : q258_40 k4 v1 v2 v3 s = some r) : Ev L xs d 258 40 [(0, .ref 512), (1, .int v1), (2, .int v2), (3, .int v3)] [] (hp s) (hr r) := by
  unfold q258_40 at h
  refine Rd.iinc H258 i258_40 (Nat.le_of_ble_eq_true rfl) rfl kI_1 (lv2 := fun x1 => [(3, .int x1), (0, .ref 512), (1, .int v1), (2, .int v2)]) (fun _ => rfl) h (fun x1 h => ?_)
  refine Ev.goto H258 i258_43 (t := 4) (by decide) ?_
  exact Ev.sub (l := [(0, .ref 512), (1, .int v1), (2, .int v2), (3, .int x1)]) rfl rfl (mm_sub_c rfl (mm_sub_c rfl (mm_sub_c rfl (mm_sub_c rfl mm_sub_n)))) (hk4 _ _ _ _ _ h)
def q258_38 (k4 : Int32 → Int32 → Int32 → mS → Option mQ) (v1 : Int32) (v3 : Int32) (s : mS) : Option mQ := q258_40 k4 v1 v3 v3 s
theorem t258_38 {L : Nat} {xs : Nat → Int32} {d : Nat} {k4 : Int32 → Int32 → Int32 → mS → Option mQ} (hk4 : ∀ (v1 : Int32) (v2 : Int32) (v3 : Int32) (s : mS) (r : mQ), k4 v1 v2 v3 s = some r → Ev L xs d 258 4 [(0, .ref 512), (1, .int v1), (2, .int v2), (3, .int v3)] [] (hp s) (hr r)) (hd : 2 ≤ d) {v1 : Int32} {v3 : Int32} {s : mS} {r : mQ} (h : q258_38 k4 v1 v3 s = some r) : Ev L xs d 258 38 [(0, .ref 512), (1, .int v1), (3, .int v3)] [] (hp s) (hr r) := by
  unfold q258_38 at h
  refine Ev.iload_n H258 i258_38 rfl ?_
  refine Ev.istore_n H258 i258_39 (Nat.le_of_ble_eq_true rfl) (lv2 := [(2, .int v3), (0, .ref 512), (1, .int v1), (3, .int v3)]) rfl ?_
  exact Ev.sub (l := [(0, .ref 512), (1, .int v1), (2, .int v3), (3, .int v3)]) rfl rfl (mm_sub_c rfl (mm_sub_c rfl (mm_sub_c rfl (mm_sub_c rfl mm_sub_n)))) (t258_40 (k4 := k4) hk4 hd h)
def q258_4 : Nat → Int32 → Int32 → Int32 → mS → Option mQ
  | 0, _, _, _, _ => none
  | n + 1, v1, v2, v3, s => if (8 : Int32) ≤ v3 then (rv v2 s) else (bN (q190 v1 v3 s) fun x3 s2 => if x3 = 0 then (q258_40 (q258_4 n) v1 v2 v3 s2) else (if v2 = (-1 : Int32) then (q258_38 (q258_4 n) v1 v3 s2) else (bN (q204 v3 (3 : Int32) s2) fun x5 s4 => bN (q204 v2 (3 : Int32) s4) fun x7 s6 => if x7 ≤ x5 then (q258_40 (q258_4 n) v1 v2 v3 s6) else (q258_38 (q258_4 n) v1 v3 s6))))
theorem t258_4 {L : Nat} {xs : Nat → Int32} {d : Nat} (hd : 2 ≤ d) : ∀ (n : Nat) (v1 : Int32) (v2 : Int32) (v3 : Int32) (s : mS) (r : mQ), q258_4 n v1 v2 v3 s = some r → Ev L xs d 258 4 [(0, .ref 512), (1, .int v1), (2, .int v2), (3, .int v3)] [] (hp s) (hr r) := by
  intro n
  induction n with
  | zero => intro v1 v2 v3 s r h; rw [q258_4] at h; cases h
  | succ n ih =>
    intro v1 v2 v3 s r h
    rw [q258_4] at h
    refine Ev.iload_n H258 i258_4 rfl ?_
    refine Ev.bipush H258 i258_5 kB_8 ?_
    refine Rd.ic_ge H258 i258_7 (t := 46) (by decide) h (fun hc h => ?_) (fun hc h => ?_)
    · refine Ev.iload_n H258 i258_46 rfl ?_
      exact Rd.ireturn H258 i258_47 rfl h
    · refine Ev.iload_n H258 i258_10 rfl ?_
      refine Ev.iload_n H258 i258_11 rfl ?_
      refine Rd.cS2vN H258 i258_12 cal190 (Nat.le_of_ble_eq_true rfl) (Nat.le_of_ble_eq_true rfl) (Nat.lt_of_lt_of_le (by decide) hd) (fun q hq => c190 hq) h (fun x3 s2 h => ?_)
      refine Rd.if_eq H258 i258_15 (t := 40) (by decide) h (fun hc h => ?_) (fun hc h => ?_)
      · exact Ev.sub (l := [(0, .ref 512), (1, .int v1), (2, .int v2), (3, .int v3)]) rfl rfl (mm_sub_c rfl (mm_sub_c rfl (mm_sub_c rfl (mm_sub_c rfl mm_sub_n)))) (t258_40 (k4 := (q258_4 n)) (fun _ _ _ _ _ h => ih _ _ _ _ _ h) hd h)
      · refine Ev.iload_n H258 i258_18 rfl ?_
        refine Ev.iconst H258 i258_19 kI_m1 ?_
        refine Rd.ic_eq H258 i258_20 (t := 38) (by decide) h (fun hc h => ?_) (fun hc h => ?_)
        · exact Ev.sub (l := [(0, .ref 512), (1, .int v1), (3, .int v3)]) rfl rfl (mm_sub_c rfl (mm_sub_c rfl (mm_sub_c rfl mm_sub_n))) (t258_38 (k4 := (q258_4 n)) (fun _ _ _ _ _ h => ih _ _ _ _ _ h) hd h)
        · refine Ev.aload_n H258 i258_23 rfl ?_
          refine Ev.iload_n H258 i258_24 rfl ?_
          refine Ev.iconst H258 i258_25 kI_3 ?_
          refine Rd.cV2vN H258 i258_26 cal204 ob11 (Nat.le_of_ble_eq_true rfl) (Nat.le_of_ble_eq_true rfl) (Nat.lt_of_lt_of_le (by decide) hd) (fun q hq => c204 hq) h (fun x5 s4 h => ?_)
          refine Ev.aload_n H258 i258_29 rfl ?_
          refine Ev.iload_n H258 i258_30 rfl ?_
          refine Ev.iconst H258 i258_31 kI_3 ?_
          refine Rd.cV2vN H258 i258_32 cal204 ob11 (Nat.le_of_ble_eq_true rfl) (Nat.le_of_ble_eq_true rfl) (Nat.lt_of_lt_of_le (by decide) hd) (fun q hq => c204 hq) h (fun x7 s6 h => ?_)
          refine Rd.ic_ge H258 i258_35 (t := 40) (by decide) h (fun hc h => ?_) (fun hc h => ?_)
          · exact Ev.sub (l := [(0, .ref 512), (1, .int v1), (2, .int v2), (3, .int v3)]) rfl rfl (mm_sub_c rfl (mm_sub_c rfl (mm_sub_c rfl (mm_sub_c rfl mm_sub_n)))) (t258_40 (k4 := (q258_4 n)) (fun _ _ _ _ _ h => ih _ _ _ _ _ h) hd h)
          · exact Ev.sub (l := [(0, .ref 512), (1, .int v1), (3, .int v3)]) rfl rfl (mm_sub_c rfl (mm_sub_c rfl (mm_sub_c rfl mm_sub_n))) (t258_38 (k4 := (q258_4 n)) (fun _ _ _ _ _ h => ih _ _ _ _ _ h) hd h)
/-- SerialGateModel.leastEnded(I)I -/
def q258 (v1 : Int32) (s : mS) : Option mQ := q258_4 10000 v1 (-1 : Int32) (0 : Int32) s
theorem c258 {L : Nat} {xs : Nat → Int32} {v1 : Int32} {s : mS} {r : mQ} (h : q258 v1 s = some r) : ∀ d, 2 ≤ d → Cl L xs d 258 [.ref 512, .int v1] (hp s) (hr r) := by
  intro d hd
  show Ev L xs d 258 0 [(0, .ref 512), (1, .int v1)] [] (hp s) (hr r)
  unfold q258 at h
  refine Ev.iconst H258 i258_0 kI_m1 ?_
  refine Ev.istore_n H258 i258_1 (Nat.le_of_ble_eq_true rfl) (lv2 := [(2, .int (-1 : Int32)), (0, .ref 512), (1, .int v1)]) rfl ?_
  refine Ev.iconst H258 i258_2 kI_0 ?_
  refine Ev.istore_n H258 i258_3 (Nat.le_of_ble_eq_true rfl) (lv2 := [(3, .int (0 : Int32)), (2, .int (-1 : Int32)), (0, .ref 512), (1, .int v1)]) rfl ?_
  exact Ev.sub (l := [(0, .ref 512), (1, .int v1), (2, .int (-1 : Int32)), (3, .int (0 : Int32))]) rfl rfl (mm_sub_c rfl (mm_sub_c rfl (mm_sub_c rfl (mm_sub_c rfl mm_sub_n)))) (t258_4 hd 10000 _ _ _ _ _ h)
theorem i249_0 : mm_cd 249 0 = some (.sipush 239, 3, 0, 0) := rfl
theorem i249_3 : mm_cd 249 3 = some (.istore_n 3, 1, 0, 0) := rfl
theorem i249_4 : mm_cd 249 4 = some (.iload_n 3, 1, 0, 0) := rfl
theorem i249_5 : mm_cd 249 5 = some (.iconst 4, 1, 0, 0) := rfl
theorem i249_6 : mm_cd 249 6 = some (.if_icmp .lt 31, 3, 0, 0) := rfl
theorem i249_9 : mm_cd 249 9 = some (.aload_n 0, 1, 0, 0) := rfl
theorem i249_10 : mm_cd 249 10 = some (.getfield 13, 3, ((11 : Nat) : Int), 1) := rfl
theorem i249_13 : mm_cd 249 13 = some (.sipush 530, 3, 0, 0) := rfl
theorem i249_16 : mm_cd 249 16 = some (.iload_n 3, 1, 0, 0) := rfl
theorem i249_17 : mm_cd 249 17 = some (.iadd, 1, 0, 0) := rfl
theorem i249_18 : mm_cd 249 18 = some (.aload_n 0, 1, 0, 0) := rfl
theorem i249_19 : mm_cd 249 19 = some (.getfield 13, 3, ((11 : Nat) : Int), 1) := rfl
theorem i249_22 : mm_cd 249 22 = some (.sipush 530, 3, 0, 0) := rfl
theorem i249_25 : mm_cd 249 25 = some (.iload_n 3, 1, 0, 0) := rfl
theorem i249_26 : mm_cd 249 26 = some (.iadd, 1, 0, 0) := rfl
theorem i249_27 : mm_cd 249 27 = some (.iconst 4, 1, 0, 0) := rfl
theorem i249_28 : mm_cd 249 28 = some (.isub, 1, 0, 0) := rfl
theorem i249_29 : mm_cd 249 29 = some (.iaload, 1, 0, 0) := rfl
theorem i249_30 : mm_cd 249 30 = some (.iastore, 1, 0, 0) := rfl
theorem i249_31 : mm_cd 249 31 = some (.iinc 3 (-1), 3, 0, 0) := rfl
theorem i249_34 : mm_cd 249 34 = some (.goto (-30), 3, 0, 0) := rfl
theorem i249_37 : mm_cd 249 37 = some (.aload_n 0, 1, 0, 0) := rfl
theorem i249_38 : mm_cd 249 38 = some (.getfield 13, 3, ((11 : Nat) : Int), 1) := rfl
theorem i249_41 : mm_cd 249 41 = some (.sipush 530, 3, 0, 0) := rfl
theorem i249_44 : mm_cd 249 44 = some (.aload_n 0, 1, 0, 0) := rfl
theorem i249_45 : mm_cd 249 45 = some (.getfield 13, 3, ((11 : Nat) : Int), 1) := rfl
theorem i249_48 : mm_cd 249 48 = some (.iconst 3, 1, 0, 0) := rfl
theorem i249_49 : mm_cd 249 49 = some (.iaload, 1, 0, 0) := rfl
theorem i249_50 : mm_cd 249 50 = some (.iastore, 1, 0, 0) := rfl
theorem i249_51 : mm_cd 249 51 = some (.aload_n 0, 1, 0, 0) := rfl
theorem i249_52 : mm_cd 249 52 = some (.getfield 13, 3, ((11 : Nat) : Int), 1) := rfl
theorem i249_55 : mm_cd 249 55 = some (.sipush 531, 3, 0, 0) := rfl
theorem i249_58 : mm_cd 249 58 = some (.aload_n 0, 1, 0, 0) := rfl
theorem i249_59 : mm_cd 249 59 = some (.iload_n 1, 1, 0, 0) := rfl
theorem i249_60 : mm_cd 249 60 = some (.iconst 1, 1, 0, 0) := rfl
theorem i249_61 : mm_cd 249 61 = some (.invokevirtual 69, 3, 0, 204) := rfl
theorem i249_64 : mm_cd 249 64 = some (.iastore, 1, 0, 0) := rfl
theorem i249_65 : mm_cd 249 65 = some (.aload_n 0, 1, 0, 0) := rfl
theorem i249_66 : mm_cd 249 66 = some (.getfield 13, 3, ((11 : Nat) : Int), 1) := rfl
theorem i249_69 : mm_cd 249 69 = some (.sipush 532, 3, 0, 0) := rfl
theorem i249_72 : mm_cd 249 72 = some (.iload_n 2, 1, 0, 0) := rfl
theorem i249_73 : mm_cd 249 73 = some (.iastore, 1, 0, 0) := rfl
theorem i249_74 : mm_cd 249 74 = some (.aload_n 0, 1, 0, 0) := rfl
theorem i249_75 : mm_cd 249 75 = some (.getfield 13, 3, ((11 : Nat) : Int), 1) := rfl
theorem i249_78 : mm_cd 249 78 = some (.sipush 533, 3, 0, 0) := rfl
theorem i249_81 : mm_cd 249 81 = some (.iload_n 1, 1, 0, 0) := rfl
theorem i249_82 : mm_cd 249 82 = some (.iastore, 1, 0, 0) := rfl
theorem i249_83 : mm_cd 249 83 = some (.aload_n 0, 1, 0, 0) := rfl
theorem i249_84 : mm_cd 249 84 = some (.getfield 13, 3, ((11 : Nat) : Int), 1) := rfl
theorem i249_87 : mm_cd 249 87 = some (.bipush 6, 2, 0, 0) := rfl
theorem i249_89 : mm_cd 249 89 = some (.bipush 60, 2, 0, 0) := rfl
theorem i249_91 : mm_cd 249 91 = some (.aload_n 0, 1, 0, 0) := rfl
theorem i249_92 : mm_cd 249 92 = some (.getfield 13, 3, ((11 : Nat) : Int), 1) := rfl
theorem i249_95 : mm_cd 249 95 = some (.bipush 6, 2, 0, 0) := rfl
theorem i249_97 : mm_cd 249 97 = some (.iaload, 1, 0, 0) := rfl
theorem i249_98 : mm_cd 249 98 = some (.iconst 1, 1, 0, 0) := rfl
theorem i249_99 : mm_cd 249 99 = some (.iadd, 1, 0, 0) := rfl
theorem i249_100 : mm_cd 249 100 = some (.invokestatic 149, 3, 3, 0) := rfl
theorem i249_103 : mm_cd 249 103 = some (.iastore, 1, 0, 0) := rfl
theorem i249_104 : mm_cd 249 104 = some (.return_, 1, 0, 0) := rfl
def q249_4 (k37 : Int32 → Int32 → mS → Option mQ) : Nat → Int32 → Int32 → Int32 → mS → Option mQ
  | 0, _, _, _, _ => none
  | n + 1, v1, v2, v3, s => if v3 < (4 : Int32) then (k37 v1 v2 s) else (gA 2468 (((530 : Int32) + v3) - (4 : Int32)) <| gA 2468 ((530 : Int32) + v3) <| sp (sI s 513 ((530 : Int32) + v3).toNatClampNeg (s.1 513 (((530 : Int32) + v3) - (4 : Int32)).toNatClampNeg)) fun s1 => bx (v3 + (-1 : Int32)) fun x2 => q249_4 k37 n v1 v2 x2 s1)
theorem t249_4 {L : Nat} {xs : Nat → Int32} {d : Nat} {k37 : Int32 → Int32 → mS → Option mQ} (hk37 : ∀ (v1 : Int32) (v2 : Int32) (s : mS) (r : mQ), k37 v1 v2 s = some r → Ev L xs d 249 37 [(0, .ref 512), (1, .int v1), (2, .int v2)] [] (hp s) (hr r)) (hd : 2 ≤ d) : ∀ (n : Nat) (v1 : Int32) (v2 : Int32) (v3 : Int32) (s : mS) (r : mQ), q249_4 k37 n v1 v2 v3 s = some r → Ev L xs d 249 4 [(0, .ref 512), (1, .int v1), (2, .int v2), (3, .int v3)] [] (hp s) (hr r) := by
  intro n
  induction n with
  | zero => intro v1 v2 v3 s r h; rw [q249_4] at h; cases h
  | succ n ih =>
    intro v1 v2 v3 s r h
    rw [q249_4] at h
    refine Ev.iload_n H249 i249_4 rfl ?_
    refine Ev.iconst H249 i249_5 kI_4 ?_
    refine Rd.ic_lt H249 i249_6 (t := 37) (by decide) h (fun hc h => ?_) (fun hc h => ?_)
    · exact Ev.sub (l := [(0, .ref 512), (1, .int v1), (2, .int v2)]) rfl rfl (mm_sub_c rfl (mm_sub_c rfl (mm_sub_c rfl mm_sub_n))) (hk37 _ _ _ _ h)
    · refine Ev.aload_n H249 i249_9 rfl ?_
      refine Rd.getR H249 i249_10 ob11 rfl ?_
      refine Ev.sipush H249 i249_13 kS_530 ?_
      refine Ev.iload_n H249 i249_16 rfl ?_
      refine Ev.iadd H249 i249_17 ?_
      refine Ev.aload_n H249 i249_18 rfl ?_
      refine Rd.getR H249 i249_19 ob11 rfl ?_
      refine Ev.sipush H249 i249_22 kS_530 ?_
      refine Ev.iload_n H249 i249_25 rfl ?_
      refine Ev.iadd H249 i249_26 ?_
      refine Ev.iconst H249 i249_27 kI_4 ?_
      refine Ev.isub H249 i249_28 ?_
      refine Rd.iaload H249 i249_29 ar_513 h (fun h => ?_)
      refine Rd.iastore H249 i249_30 ar_513 h (fun s1 h => ?_)
      refine Rd.iinc H249 i249_31 (Nat.le_of_ble_eq_true rfl) rfl kI_m1 (lv2 := fun x2 => [(3, .int x2), (0, .ref 512), (1, .int v1), (2, .int v2)]) (fun _ => rfl) h (fun x2 h => ?_)
      refine Ev.goto H249 i249_34 (t := 4) (by decide) ?_
      exact Ev.sub (l := [(0, .ref 512), (1, .int v1), (2, .int v2), (3, .int x2)]) rfl rfl (mm_sub_c rfl (mm_sub_c rfl (mm_sub_c rfl (mm_sub_c rfl mm_sub_n)))) (ih _ _ _ _ _ h)
def q249_37 (v1 : Int32) (v2 : Int32) (s : mS) : Option mQ := gA 2468 (3 : Int32) <| gA 2468 (530 : Int32) <| sp (sI s 513 (530 : Int32).toNatClampNeg (s.1 513 (3 : Int32).toNatClampNeg)) fun s3 => bN (q204 v1 (1 : Int32) s3) fun x5 s4 => gA 2468 (531 : Int32) <| sp (sI s4 513 (531 : Int32).toNatClampNeg x5) fun s6 => gA 2468 (532 : Int32) <| sp (sI s6 513 (532 : Int32).toNatClampNeg v2) fun s7 => gA 2468 (533 : Int32) <| sp (sI s7 513 (533 : Int32).toNatClampNeg v1) fun s8 => gA 2468 (6 : Int32) <| gA 2468 (6 : Int32) <| sp (sI s8 513 (6 : Int32).toNatClampNeg (mnI (60 : Int32) ((s8.1 513 (6 : Int32).toNatClampNeg) + (1 : Int32)))) fun s9 => ru s9
theorem t249_37 {L : Nat} {xs : Nat → Int32} {d : Nat} (hd : 2 ≤ d) {v1 : Int32} {v2 : Int32} {s : mS} {r : mQ} (h : q249_37 v1 v2 s = some r) : Ev L xs d 249 37 [(0, .ref 512), (1, .int v1), (2, .int v2)] [] (hp s) (hr r) := by
  unfold q249_37 at h
  refine Ev.aload_n H249 i249_37 rfl ?_
  refine Rd.getR H249 i249_38 ob11 rfl ?_
  refine Ev.sipush H249 i249_41 kS_530 ?_
  refine Ev.aload_n H249 i249_44 rfl ?_
  refine Rd.getR H249 i249_45 ob11 rfl ?_
  refine Ev.iconst H249 i249_48 kI_3 ?_
  refine Rd.iaload H249 i249_49 ar_513 h (fun h => ?_)
  refine Rd.iastore H249 i249_50 ar_513 h (fun s3 h => ?_)
  refine Ev.aload_n H249 i249_51 rfl ?_
  refine Rd.getR H249 i249_52 ob11 rfl ?_
  refine Ev.sipush H249 i249_55 kS_531 ?_
  refine Ev.aload_n H249 i249_58 rfl ?_
  refine Ev.iload_n H249 i249_59 rfl ?_
  refine Ev.iconst H249 i249_60 kI_1 ?_
  refine Rd.cV2vN H249 i249_61 cal204 ob11 (Nat.le_of_ble_eq_true rfl) (Nat.le_of_ble_eq_true rfl) (Nat.lt_of_lt_of_le (by decide) hd) (fun q hq => c204 hq) h (fun x5 s4 h => ?_)
  refine Rd.iastore H249 i249_64 ar_513 h (fun s6 h => ?_)
  refine Ev.aload_n H249 i249_65 rfl ?_
  refine Rd.getR H249 i249_66 ob11 rfl ?_
  refine Ev.sipush H249 i249_69 kS_532 ?_
  refine Ev.iload_n H249 i249_72 rfl ?_
  refine Rd.iastore H249 i249_73 ar_513 h (fun s7 h => ?_)
  refine Ev.aload_n H249 i249_74 rfl ?_
  refine Rd.getR H249 i249_75 ob11 rfl ?_
  refine Ev.sipush H249 i249_78 kS_533 ?_
  refine Ev.iload_n H249 i249_81 rfl ?_
  refine Rd.iastore H249 i249_82 ar_513 h (fun s8 h => ?_)
  refine Ev.aload_n H249 i249_83 rfl ?_
  refine Rd.getR H249 i249_84 ob11 rfl ?_
  refine Ev.bipush H249 i249_87 kB_6 ?_
  refine Ev.bipush H249 i249_89 kB_60 ?_
  refine Ev.aload_n H249 i249_91 rfl ?_
  refine Rd.getR H249 i249_92 ob11 rfl ?_
  refine Ev.bipush H249 i249_95 kB_6 ?_
  refine Rd.iaload H249 i249_97 ar_513 h (fun h => ?_)
  refine Ev.iconst H249 i249_98 kI_1 ?_
  refine Ev.iadd H249 i249_99 ?_
  refine Rd.min H249 i249_100 (Nat.le_of_ble_eq_true rfl) ?_
  refine Rd.iastore H249 i249_103 ar_513 h (fun s9 h => ?_)
  exact Rd.return_ H249 i249_104 rfl h
/-- SerialGateModel.isTold(II)V -/
def q249 (v1 : Int32) (v2 : Int32) (s : mS) : Option mQ := q249_4 (q249_37) 10000 v1 v2 (239 : Int32) s
theorem c249 {L : Nat} {xs : Nat → Int32} {v1 : Int32} {v2 : Int32} {s : mS} {r : mQ} (h : q249 v1 v2 s = some r) : ∀ d, 2 ≤ d → Cl L xs d 249 [.ref 512, .int v1, .int v2] (hp s) (hr r) := by
  intro d hd
  show Ev L xs d 249 0 [(0, .ref 512), (1, .int v1), (2, .int v2)] [] (hp s) (hr r)
  unfold q249 at h
  refine Ev.sipush H249 i249_0 kS_239 ?_
  refine Ev.istore_n H249 i249_3 (Nat.le_of_ble_eq_true rfl) (lv2 := [(3, .int (239 : Int32)), (0, .ref 512), (1, .int v1), (2, .int v2)]) rfl ?_
  exact Ev.sub (l := [(0, .ref 512), (1, .int v1), (2, .int v2), (3, .int (239 : Int32))]) rfl rfl (mm_sub_c rfl (mm_sub_c rfl (mm_sub_c rfl (mm_sub_c rfl mm_sub_n)))) (t249_4 (k37 := (q249_37)) (fun _ _ _ _ h => t249_37 hd h) hd 10000 _ _ _ _ _ h)
theorem i253_0 : mm_cd 253 0 = some (.iconst 0, 1, 0, 0) := rfl
theorem i253_1 : mm_cd 253 1 = some (.istore_n 2, 1, 0, 0) := rfl
theorem i253_2 : mm_cd 253 2 = some (.iload_n 2, 1, 0, 0) := rfl
theorem i253_3 : mm_cd 253 3 = some (.bipush 8, 2, 0, 0) := rfl
theorem i253_5 : mm_cd 253 5 = some (.if_icmp .ge 28, 3, 0, 0) := rfl
theorem i253_8 : mm_cd 253 8 = some (.aload_n 0, 1, 0, 0) := rfl
theorem i253_9 : mm_cd 253 9 = some (.getfield 13, 3, ((11 : Nat) : Int), 1) := rfl
theorem i253_12 : mm_cd 253 12 = some (.iload_n 2, 1, 0, 0) := rfl
theorem i253_13 : mm_cd 253 13 = some (.bipush 7, 2, 0, 0) := rfl
theorem i253_15 : mm_cd 253 15 = some (.invokestatic 66, 3, 0, 203) := rfl
theorem i253_18 : mm_cd 253 18 = some (.dup2, 1, 0, 0) := rfl
theorem i253_19 : mm_cd 253 19 = some (.iaload, 1, 0, 0) := rfl
theorem i253_20 : mm_cd 253 20 = some (.iconst 1, 1, 0, 0) := rfl
theorem i253_21 : mm_cd 253 21 = some (.iload_n 1, 1, 0, 0) := rfl
theorem i253_22 : mm_cd 253 22 = some (.ishl, 1, 0, 0) := rfl
theorem i253_23 : mm_cd 253 23 = some (.iconst (-1), 1, 0, 0) := rfl
theorem i253_24 : mm_cd 253 24 = some (.ixor, 1, 0, 0) := rfl
theorem i253_25 : mm_cd 253 25 = some (.iand, 1, 0, 0) := rfl
theorem i253_26 : mm_cd 253 26 = some (.iastore, 1, 0, 0) := rfl
theorem i253_27 : mm_cd 253 27 = some (.iinc 2 1, 3, 0, 0) := rfl
theorem i253_30 : mm_cd 253 30 = some (.goto (-28), 3, 0, 0) := rfl
theorem i253_33 : mm_cd 253 33 = some (.iconst 0, 1, 0, 0) := rfl
theorem i253_34 : mm_cd 253 34 = some (.istore_n 2, 1, 0, 0) := rfl
theorem i253_35 : mm_cd 253 35 = some (.iload_n 2, 1, 0, 0) := rfl
theorem i253_36 : mm_cd 253 36 = some (.bipush 21, 2, 0, 0) := rfl
theorem i253_38 : mm_cd 253 38 = some (.if_icmp .ge 20, 3, 0, 0) := rfl
theorem i253_41 : mm_cd 253 41 = some (.aload_n 0, 1, 0, 0) := rfl
theorem i253_42 : mm_cd 253 42 = some (.getfield 13, 3, ((11 : Nat) : Int), 1) := rfl
theorem i253_45 : mm_cd 253 45 = some (.iload_n 1, 1, 0, 0) := rfl
theorem i253_46 : mm_cd 253 46 = some (.iload_n 2, 1, 0, 0) := rfl
theorem i253_47 : mm_cd 253 47 = some (.invokestatic 66, 3, 0, 203) := rfl
theorem i253_50 : mm_cd 253 50 = some (.iconst 0, 1, 0, 0) := rfl
theorem i253_51 : mm_cd 253 51 = some (.iastore, 1, 0, 0) := rfl
theorem i253_52 : mm_cd 253 52 = some (.iinc 2 1, 3, 0, 0) := rfl
theorem i253_55 : mm_cd 253 55 = some (.goto (-20), 3, 0, 0) := rfl
theorem i253_58 : mm_cd 253 58 = some (.return_, 1, 0, 0) := rfl
def q253_2 (k33 : Int32 → mS → Option mQ) : Nat → Int32 → Int32 → mS → Option mQ
  | 0, _, _, _ => none
  | n + 1, v1, v2, s => if (8 : Int32) ≤ v2 then (k33 v1 s) else (bN (q203 v2 (7 : Int32) s) fun x2 s1 => gA 2468 x2 <| gA 2468 x2 <| sp (sI s1 513 x2.toNatClampNeg ((s1.1 513 x2.toNatClampNeg) &&& ((shlI (1 : Int32) v1) ^^^ (-1 : Int32)))) fun s3 => bx (v2 + (1 : Int32)) fun x4 => q253_2 k33 n v1 x4 s3)
theorem t253_2 {L : Nat} {xs : Nat → Int32} {d : Nat} {k33 : Int32 → mS → Option mQ} (hk33 : ∀ (v1 : Int32) (s : mS) (r : mQ), k33 v1 s = some r → Ev L xs d 253 33 [(0, .ref 512), (1, .int v1)] [] (hp s) (hr r)) (hd : 1 ≤ d) : ∀ (n : Nat) (v1 : Int32) (v2 : Int32) (s : mS) (r : mQ), q253_2 k33 n v1 v2 s = some r → Ev L xs d 253 2 [(0, .ref 512), (1, .int v1), (2, .int v2)] [] (hp s) (hr r) := by
  intro n
  induction n with
  | zero => intro v1 v2 s r h; rw [q253_2] at h; cases h
  | succ n ih =>
    intro v1 v2 s r h
    rw [q253_2] at h
    refine Ev.iload_n H253 i253_2 rfl ?_
    refine Ev.bipush H253 i253_3 kB_8 ?_
    refine Rd.ic_ge H253 i253_5 (t := 33) (by decide) h (fun hc h => ?_) (fun hc h => ?_)
    · exact Ev.sub (l := [(0, .ref 512), (1, .int v1)]) rfl rfl (mm_sub_c rfl (mm_sub_c rfl mm_sub_n)) (hk33 _ _ _ h)
    · refine Ev.aload_n H253 i253_8 rfl ?_
      refine Rd.getR H253 i253_9 ob11 rfl ?_
      refine Ev.iload_n H253 i253_12 rfl ?_
      refine Ev.bipush H253 i253_13 kB_7 ?_
      refine Rd.cS2vN H253 i253_15 cal203 (Nat.le_of_ble_eq_true rfl) (Nat.le_of_ble_eq_true rfl) (Nat.lt_of_lt_of_le (by decide) hd) (fun q hq => c203 hq) h (fun x2 s1 h => ?_)
      refine Ev.dup2 H253 i253_18 ⟨rfl, rfl⟩ ?_
      refine Rd.iaload H253 i253_19 ar_513 h (fun h => ?_)
      refine Ev.iconst H253 i253_20 kI_1 ?_
      refine Ev.iload_n H253 i253_21 rfl ?_
      refine Rd.ishl H253 i253_22 ?_
      refine Ev.iconst H253 i253_23 kI_m1 ?_
      refine Ev.ixor H253 i253_24 ?_
      refine Ev.iand H253 i253_25 ?_
      refine Rd.iastore H253 i253_26 ar_513 h (fun s3 h => ?_)
      refine Rd.iinc H253 i253_27 (Nat.le_of_ble_eq_true rfl) rfl kI_1 (lv2 := fun x4 => [(2, .int x4), (0, .ref 512), (1, .int v1)]) (fun _ => rfl) h (fun x4 h => ?_)
      refine Ev.goto H253 i253_30 (t := 2) (by decide) ?_
      exact Ev.sub (l := [(0, .ref 512), (1, .int v1), (2, .int x4)]) rfl rfl (mm_sub_c rfl (mm_sub_c rfl (mm_sub_c rfl mm_sub_n))) (ih _ _ _ _ h)
def q253_35 : Nat → Int32 → Int32 → mS → Option mQ
  | 0, _, _, _ => none
  | n + 1, v1, v2, s => if (21 : Int32) ≤ v2 then (ru s) else (bN (q203 v1 v2 s) fun x6 s5 => gA 2468 x6 <| sp (sI s5 513 x6.toNatClampNeg (0 : Int32)) fun s7 => bx (v2 + (1 : Int32)) fun x8 => q253_35 n v1 x8 s7)
theorem t253_35 {L : Nat} {xs : Nat → Int32} {d : Nat} (hd : 1 ≤ d) : ∀ (n : Nat) (v1 : Int32) (v2 : Int32) (s : mS) (r : mQ), q253_35 n v1 v2 s = some r → Ev L xs d 253 35 [(0, .ref 512), (1, .int v1), (2, .int v2)] [] (hp s) (hr r) := by
  intro n
  induction n with
  | zero => intro v1 v2 s r h; rw [q253_35] at h; cases h
  | succ n ih =>
    intro v1 v2 s r h
    rw [q253_35] at h
    refine Ev.iload_n H253 i253_35 rfl ?_
    refine Ev.bipush H253 i253_36 kB_21 ?_
    refine Rd.ic_ge H253 i253_38 (t := 58) (by decide) h (fun hc h => ?_) (fun hc h => ?_)
    · exact Rd.return_ H253 i253_58 rfl h
    · refine Ev.aload_n H253 i253_41 rfl ?_
      refine Rd.getR H253 i253_42 ob11 rfl ?_
      refine Ev.iload_n H253 i253_45 rfl ?_
      refine Ev.iload_n H253 i253_46 rfl ?_
      refine Rd.cS2vN H253 i253_47 cal203 (Nat.le_of_ble_eq_true rfl) (Nat.le_of_ble_eq_true rfl) (Nat.lt_of_lt_of_le (by decide) hd) (fun q hq => c203 hq) h (fun x6 s5 h => ?_)
      refine Ev.iconst H253 i253_50 kI_0 ?_
      refine Rd.iastore H253 i253_51 ar_513 h (fun s7 h => ?_)
      refine Rd.iinc H253 i253_52 (Nat.le_of_ble_eq_true rfl) rfl kI_1 (lv2 := fun x8 => [(2, .int x8), (0, .ref 512), (1, .int v1)]) (fun _ => rfl) h (fun x8 h => ?_)
      refine Ev.goto H253 i253_55 (t := 35) (by decide) ?_
      exact Ev.sub (l := [(0, .ref 512), (1, .int v1), (2, .int x8)]) rfl rfl (mm_sub_c rfl (mm_sub_c rfl (mm_sub_c rfl mm_sub_n))) (ih _ _ _ _ h)
def q253_33 (v1 : Int32) (s : mS) : Option mQ := q253_35 10000 v1 (0 : Int32) s
theorem t253_33 {L : Nat} {xs : Nat → Int32} {d : Nat} (hd : 1 ≤ d) {v1 : Int32} {s : mS} {r : mQ} (h : q253_33 v1 s = some r) : Ev L xs d 253 33 [(0, .ref 512), (1, .int v1)] [] (hp s) (hr r) := by
  unfold q253_33 at h
  refine Ev.iconst H253 i253_33 kI_0 ?_
  refine Ev.istore_n H253 i253_34 (Nat.le_of_ble_eq_true rfl) (lv2 := [(2, .int (0 : Int32)), (0, .ref 512), (1, .int v1)]) rfl ?_
  exact Ev.sub (l := [(0, .ref 512), (1, .int v1), (2, .int (0 : Int32))]) rfl rfl (mm_sub_c rfl (mm_sub_c rfl (mm_sub_c rfl mm_sub_n))) (t253_35 hd 10000 _ _ _ _ h)
/-- SerialGateModel.isFree(I)V -/
def q253 (v1 : Int32) (s : mS) : Option mQ := q253_2 (q253_33) 10000 v1 (0 : Int32) s
theorem c253 {L : Nat} {xs : Nat → Int32} {v1 : Int32} {s : mS} {r : mQ} (h : q253 v1 s = some r) : ∀ d, 1 ≤ d → Cl L xs d 253 [.ref 512, .int v1] (hp s) (hr r) := by
  intro d hd
  show Ev L xs d 253 0 [(0, .ref 512), (1, .int v1)] [] (hp s) (hr r)
  unfold q253 at h
  refine Ev.iconst H253 i253_0 kI_0 ?_
  refine Ev.istore_n H253 i253_1 (Nat.le_of_ble_eq_true rfl) (lv2 := [(2, .int (0 : Int32)), (0, .ref 512), (1, .int v1)]) rfl ?_
  exact Ev.sub (l := [(0, .ref 512), (1, .int v1), (2, .int (0 : Int32))]) rfl rfl (mm_sub_c rfl (mm_sub_c rfl (mm_sub_c rfl mm_sub_n))) (t253_2 (k33 := (q253_33)) (fun _ _ _ h => t253_33 hd h) hd 10000 _ _ _ _ h)
theorem i259_0 : mm_cd 259 0 = some (.aload_n 0, 1, 0, 0) := rfl
theorem i259_1 : mm_cd 259 1 = some (.iload_n 1, 1, 0, 0) := rfl
theorem i259_2 : mm_cd 259 2 = some (.iconst 3, 1, 0, 0) := rfl
theorem i259_3 : mm_cd 259 3 = some (.invokevirtual 69, 3, 0, 204) := rfl
theorem i259_6 : mm_cd 259 6 = some (.istore_n 3, 1, 0, 0) := rfl
theorem i259_7 : mm_cd 259 7 = some (.aload_n 0, 1, 0, 0) := rfl
theorem i259_8 : mm_cd 259 8 = some (.iload_n 1, 1, 0, 0) := rfl
theorem i259_9 : mm_cd 259 9 = some (.iload_n 2, 1, 0, 0) := rfl
theorem i259_10 : mm_cd 259 10 = some (.invokevirtual 285, 3, 0, 249) := rfl
theorem i259_13 : mm_cd 259 13 = some (.iconst 0, 1, 0, 0) := rfl
theorem i259_14 : mm_cd 259 14 = some (.istore 4, 2, 0, 0) := rfl
theorem i259_16 : mm_cd 259 16 = some (.iload 4, 2, 0, 0) := rfl
theorem i259_18 : mm_cd 259 18 = some (.bipush 8, 2, 0, 0) := rfl
theorem i259_20 : mm_cd 259 20 = some (.if_icmp .ge 100, 3, 0, 0) := rfl
theorem i259_23 : mm_cd 259 23 = some (.aload_n 0, 1, 0, 0) := rfl
theorem i259_24 : mm_cd 259 24 = some (.iload 4, 2, 0, 0) := rfl
theorem i259_26 : mm_cd 259 26 = some (.bipush 8, 2, 0, 0) := rfl
theorem i259_28 : mm_cd 259 28 = some (.invokevirtual 69, 3, 0, 204) := rfl
theorem i259_31 : mm_cd 259 31 = some (.istore 5, 2, 0, 0) := rfl
theorem i259_33 : mm_cd 259 33 = some (.aload_n 0, 1, 0, 0) := rfl
theorem i259_34 : mm_cd 259 34 = some (.iload 4, 2, 0, 0) := rfl
theorem i259_36 : mm_cd 259 36 = some (.bipush 7, 2, 0, 0) := rfl
theorem i259_38 : mm_cd 259 38 = some (.invokevirtual 69, 3, 0, 204) := rfl
theorem i259_41 : mm_cd 259 41 = some (.iload_n 1, 1, 0, 0) := rfl
theorem i259_42 : mm_cd 259 42 = some (.invokestatic 79, 3, 0, 190) := rfl
theorem i259_45 : mm_cd 259 45 = some (.ifCond .eq 30, 3, 0, 0) := rfl
theorem i259_48 : mm_cd 259 48 = some (.aload_n 0, 1, 0, 0) := rfl
theorem i259_49 : mm_cd 259 49 = some (.getfield 13, 3, ((11 : Nat) : Int), 1) := rfl
theorem i259_52 : mm_cd 259 52 = some (.iload 4, 2, 0, 0) := rfl
theorem i259_54 : mm_cd 259 54 = some (.bipush 8, 2, 0, 0) := rfl
theorem i259_56 : mm_cd 259 56 = some (.invokestatic 66, 3, 0, 203) := rfl
theorem i259_59 : mm_cd 259 59 = some (.iload 5, 2, 0, 0) := rfl
theorem i259_61 : mm_cd 259 61 = some (.ifCond .ne 7, 3, 0, 0) := rfl
theorem i259_64 : mm_cd 259 64 = some (.iload_n 3, 1, 0, 0) := rfl
theorem i259_65 : mm_cd 259 65 = some (.goto 9, 3, 0, 0) := rfl
theorem i259_68 : mm_cd 259 68 = some (.iload 5, 2, 0, 0) := rfl
theorem i259_70 : mm_cd 259 70 = some (.iload_n 3, 1, 0, 0) := rfl
theorem i259_71 : mm_cd 259 71 = some (.invokestatic 149, 3, 3, 0) := rfl
theorem i259_74 : mm_cd 259 74 = some (.iastore, 1, 0, 0) := rfl
theorem i259_75 : mm_cd 259 75 = some (.aload_n 0, 1, 0, 0) := rfl
theorem i259_76 : mm_cd 259 76 = some (.iload_n 1, 1, 0, 0) := rfl
theorem i259_77 : mm_cd 259 77 = some (.bipush 7, 2, 0, 0) := rfl
theorem i259_79 : mm_cd 259 79 = some (.invokevirtual 69, 3, 0, 204) := rfl
theorem i259_82 : mm_cd 259 82 = some (.iload 4, 2, 0, 0) := rfl
theorem i259_84 : mm_cd 259 84 = some (.invokestatic 79, 3, 0, 190) := rfl
theorem i259_87 : mm_cd 259 87 = some (.ifCond .eq 27, 3, 0, 0) := rfl
theorem i259_90 : mm_cd 259 90 = some (.aload_n 0, 1, 0, 0) := rfl
theorem i259_91 : mm_cd 259 91 = some (.getfield 13, 3, ((11 : Nat) : Int), 1) := rfl
theorem i259_94 : mm_cd 259 94 = some (.iload 4, 2, 0, 0) := rfl
theorem i259_96 : mm_cd 259 96 = some (.bipush 9, 2, 0, 0) := rfl
theorem i259_98 : mm_cd 259 98 = some (.invokestatic 66, 3, 0, 203) := rfl
theorem i259_101 : mm_cd 259 101 = some (.aload_n 0, 1, 0, 0) := rfl
theorem i259_102 : mm_cd 259 102 = some (.iload 4, 2, 0, 0) := rfl
theorem i259_104 : mm_cd 259 104 = some (.bipush 9, 2, 0, 0) := rfl
theorem i259_106 : mm_cd 259 106 = some (.invokevirtual 69, 3, 0, 204) := rfl
theorem i259_109 : mm_cd 259 109 = some (.iload_n 3, 1, 0, 0) := rfl
theorem i259_110 : mm_cd 259 110 = some (.invokestatic 276, 3, 2, 0) := rfl
theorem i259_113 : mm_cd 259 113 = some (.iastore, 1, 0, 0) := rfl
theorem i259_114 : mm_cd 259 114 = some (.iinc 4 1, 3, 0, 0) := rfl
theorem i259_117 : mm_cd 259 117 = some (.goto (-101), 3, 0, 0) := rfl
theorem i259_120 : mm_cd 259 120 = some (.aload_n 0, 1, 0, 0) := rfl
theorem i259_121 : mm_cd 259 121 = some (.iload_n 1, 1, 0, 0) := rfl
theorem i259_122 : mm_cd 259 122 = some (.invokevirtual 288, 3, 0, 253) := rfl
theorem i259_125 : mm_cd 259 125 = some (.return_, 1, 0, 0) := rfl
def q259_114 (k16 : Int32 → Int32 → Int32 → mS → Option mQ) (v1 : Int32) (v3 : Int32) (v4 : Int32) (s : mS) : Option mQ := bx (v4 + (1 : Int32)) fun x1 => k16 v1 v3 x1 s
theorem t259_114 {L : Nat} {xs : Nat → Int32} {d : Nat} {k16 : Int32 → Int32 → Int32 → mS → Option mQ} (hk16 : ∀ (v1 : Int32) (v3 : Int32) (v4 : Int32) (s : mS) (r : mQ), k16 v1 v3 v4 s = some r → Ev L xs d 259 16 [(0, .ref 512), (1, .int v1), (3, .int v3), (4, .int v4)] [] (hp s) (hr r)) (hd : 3 ≤ d) {v1 : Int32} {v3 : Int32} {v4 : Int32} {s : mS} {r : mQ} (h : q259_114 k16 v1 v3 v4 s = some r) : Ev L xs d 259 114 [(0, .ref 512), (1, .int v1), (3, .int v3), (4, .int v4)] [] (hp s) (hr r) := by
  unfold q259_114 at h
  refine Rd.iinc H259 i259_114 (Nat.le_of_ble_eq_true rfl) rfl kI_1 (lv2 := fun x1 => [(4, .int x1), (0, .ref 512), (1, .int v1), (3, .int v3)]) (fun _ => rfl) h (fun x1 h => ?_)
  refine Ev.goto H259 i259_117 (t := 16) (by decide) ?_
  exact Ev.sub (l := [(0, .ref 512), (1, .int v1), (3, .int v3), (4, .int x1)]) rfl rfl (mm_sub_c rfl (mm_sub_c rfl (mm_sub_c rfl (mm_sub_c rfl mm_sub_n)))) (hk16 _ _ _ _ _ h)
def q259_75 (k16 : Int32 → Int32 → Int32 → mS → Option mQ) (v1 : Int32) (v3 : Int32) (v4 : Int32) (s : mS) : Option mQ := bN (q204 v1 (7 : Int32) s) fun x3 s2 => bN (q190 x3 v4 s2) fun x5 s4 => if x5 = 0 then (q259_114 k16 v1 v3 v4 s4) else (bN (q203 v4 (9 : Int32) s4) fun x7 s6 => bN (q204 v4 (9 : Int32) s6) fun x9 s8 => gA 2468 x7 <| sp (sI s8 513 x7.toNatClampNeg (mxI x9 v3)) fun s10 => q259_114 k16 v1 v3 v4 s10)
theorem t259_75 {L : Nat} {xs : Nat → Int32} {d : Nat} {k16 : Int32 → Int32 → Int32 → mS → Option mQ} (hk16 : ∀ (v1 : Int32) (v3 : Int32) (v4 : Int32) (s : mS) (r : mQ), k16 v1 v3 v4 s = some r → Ev L xs d 259 16 [(0, .ref 512), (1, .int v1), (3, .int v3), (4, .int v4)] [] (hp s) (hr r)) (hd : 3 ≤ d) {v1 : Int32} {v3 : Int32} {v4 : Int32} {s : mS} {r : mQ} (h : q259_75 k16 v1 v3 v4 s = some r) : Ev L xs d 259 75 [(0, .ref 512), (1, .int v1), (3, .int v3), (4, .int v4)] [] (hp s) (hr r) := by
  unfold q259_75 at h
  refine Ev.aload_n H259 i259_75 rfl ?_
  refine Ev.iload_n H259 i259_76 rfl ?_
  refine Ev.bipush H259 i259_77 kB_7 ?_
  refine Rd.cV2vN H259 i259_79 cal204 ob11 (Nat.le_of_ble_eq_true rfl) (Nat.le_of_ble_eq_true rfl) (Nat.lt_of_lt_of_le (by decide) hd) (fun q hq => c204 hq) h (fun x3 s2 h => ?_)
  refine Ev.iload H259 i259_82 rfl ?_
  refine Rd.cS2vN H259 i259_84 cal190 (Nat.le_of_ble_eq_true rfl) (Nat.le_of_ble_eq_true rfl) (Nat.lt_of_lt_of_le (by decide) hd) (fun q hq => c190 hq) h (fun x5 s4 h => ?_)
  refine Rd.if_eq H259 i259_87 (t := 114) (by decide) h (fun hc h => ?_) (fun hc h => ?_)
  · exact Ev.sub (l := [(0, .ref 512), (1, .int v1), (3, .int v3), (4, .int v4)]) rfl rfl (mm_sub_c rfl (mm_sub_c rfl (mm_sub_c rfl (mm_sub_c rfl mm_sub_n)))) (t259_114 (k16 := k16) hk16 hd h)
  · refine Ev.aload_n H259 i259_90 rfl ?_
    refine Rd.getR H259 i259_91 ob11 rfl ?_
    refine Ev.iload H259 i259_94 rfl ?_
    refine Ev.bipush H259 i259_96 kB_9 ?_
    refine Rd.cS2vN H259 i259_98 cal203 (Nat.le_of_ble_eq_true rfl) (Nat.le_of_ble_eq_true rfl) (Nat.lt_of_lt_of_le (by decide) hd) (fun q hq => c203 hq) h (fun x7 s6 h => ?_)
    refine Ev.aload_n H259 i259_101 rfl ?_
    refine Ev.iload H259 i259_102 rfl ?_
    refine Ev.bipush H259 i259_104 kB_9 ?_
    refine Rd.cV2vN H259 i259_106 cal204 ob11 (Nat.le_of_ble_eq_true rfl) (Nat.le_of_ble_eq_true rfl) (Nat.lt_of_lt_of_le (by decide) hd) (fun q hq => c204 hq) h (fun x9 s8 h => ?_)
    refine Ev.iload_n H259 i259_109 rfl ?_
    refine Rd.max H259 i259_110 (Nat.le_of_ble_eq_true rfl) ?_
    refine Rd.iastore H259 i259_113 ar_513 h (fun s10 h => ?_)
    exact Ev.sub (l := [(0, .ref 512), (1, .int v1), (3, .int v3), (4, .int v4)]) rfl rfl (mm_sub_c rfl (mm_sub_c rfl (mm_sub_c rfl (mm_sub_c rfl mm_sub_n)))) (t259_114 (k16 := k16) hk16 hd h)
def q259_74 (k16 : Int32 → Int32 → Int32 → mS → Option mQ) (v1 : Int32) (v3 : Int32) (v4 : Int32) (y1 : Int32) (y2 : Int32) (s : mS) : Option mQ := gA 2468 y1 <| sp (sI s 513 y1.toNatClampNeg y2) fun s11 => q259_75 k16 v1 v3 v4 s11
theorem t259_74 {L : Nat} {xs : Nat → Int32} {d : Nat} {k16 : Int32 → Int32 → Int32 → mS → Option mQ} (hk16 : ∀ (v1 : Int32) (v3 : Int32) (v4 : Int32) (s : mS) (r : mQ), k16 v1 v3 v4 s = some r → Ev L xs d 259 16 [(0, .ref 512), (1, .int v1), (3, .int v3), (4, .int v4)] [] (hp s) (hr r)) (hd : 3 ≤ d) {v1 : Int32} {v3 : Int32} {v4 : Int32} {y1 : Int32} {y2 : Int32} {s : mS} {r : mQ} (h : q259_74 k16 v1 v3 v4 y1 y2 s = some r) : Ev L xs d 259 74 [(0, .ref 512), (1, .int v1), (3, .int v3), (4, .int v4)] [.int y2, .int y1, .ref 513] (hp s) (hr r) := by
  unfold q259_74 at h
  refine Rd.iastore H259 i259_74 ar_513 h (fun s11 h => ?_)
  exact Ev.sub (l := [(0, .ref 512), (1, .int v1), (3, .int v3), (4, .int v4)]) rfl rfl (mm_sub_c rfl (mm_sub_c rfl (mm_sub_c rfl (mm_sub_c rfl mm_sub_n)))) (t259_75 (k16 := k16) hk16 hd h)
def q259_16 (k120 : Int32 → mS → Option mQ) : Nat → Int32 → Int32 → Int32 → mS → Option mQ
  | 0, _, _, _, _ => none
  | n + 1, v1, v3, v4, s => if (8 : Int32) ≤ v4 then (k120 v1 s) else (bN (q204 v4 (8 : Int32) s) fun x13 s12 => bN (q204 v4 (7 : Int32) s12) fun x15 s14 => bN (q190 x15 v1 s14) fun x17 s16 => if x17 = 0 then (q259_75 (q259_16 k120 n) v1 v3 v4 s16) else (bN (q203 v4 (8 : Int32) s16) fun x19 s18 => if ¬ x13 = 0 then (q259_74 (q259_16 k120 n) v1 v3 v4 x19 (mnI x13 v3) s18) else (q259_74 (q259_16 k120 n) v1 v3 v4 x19 v3 s18)))
theorem t259_16 {L : Nat} {xs : Nat → Int32} {d : Nat} {k120 : Int32 → mS → Option mQ} (hk120 : ∀ (v1 : Int32) (s : mS) (r : mQ), k120 v1 s = some r → Ev L xs d 259 120 [(0, .ref 512), (1, .int v1)] [] (hp s) (hr r)) (hd : 3 ≤ d) : ∀ (n : Nat) (v1 : Int32) (v3 : Int32) (v4 : Int32) (s : mS) (r : mQ), q259_16 k120 n v1 v3 v4 s = some r → Ev L xs d 259 16 [(0, .ref 512), (1, .int v1), (3, .int v3), (4, .int v4)] [] (hp s) (hr r) := by
  intro n
  induction n with
  | zero => intro v1 v3 v4 s r h; rw [q259_16] at h; cases h
  | succ n ih =>
    intro v1 v3 v4 s r h
    rw [q259_16] at h
    refine Ev.iload H259 i259_16 rfl ?_
    refine Ev.bipush H259 i259_18 kB_8 ?_
    refine Rd.ic_ge H259 i259_20 (t := 120) (by decide) h (fun hc h => ?_) (fun hc h => ?_)
    · exact Ev.sub (l := [(0, .ref 512), (1, .int v1)]) rfl rfl (mm_sub_c rfl (mm_sub_c rfl mm_sub_n)) (hk120 _ _ _ h)
    · refine Ev.aload_n H259 i259_23 rfl ?_
      refine Ev.iload H259 i259_24 rfl ?_
      refine Ev.bipush H259 i259_26 kB_8 ?_
      refine Rd.cV2vN H259 i259_28 cal204 ob11 (Nat.le_of_ble_eq_true rfl) (Nat.le_of_ble_eq_true rfl) (Nat.lt_of_lt_of_le (by decide) hd) (fun q hq => c204 hq) h (fun x13 s12 h => ?_)
      refine Ev.istore H259 i259_31 (Nat.le_of_ble_eq_true rfl) (lv2 := [(5, .int x13), (0, .ref 512), (1, .int v1), (3, .int v3), (4, .int v4)]) rfl ?_
      refine Ev.aload_n H259 i259_33 rfl ?_
      refine Ev.iload H259 i259_34 rfl ?_
      refine Ev.bipush H259 i259_36 kB_7 ?_
      refine Rd.cV2vN H259 i259_38 cal204 ob11 (Nat.le_of_ble_eq_true rfl) (Nat.le_of_ble_eq_true rfl) (Nat.lt_of_lt_of_le (by decide) hd) (fun q hq => c204 hq) h (fun x15 s14 h => ?_)
      refine Ev.iload_n H259 i259_41 rfl ?_
      refine Rd.cS2vN H259 i259_42 cal190 (Nat.le_of_ble_eq_true rfl) (Nat.le_of_ble_eq_true rfl) (Nat.lt_of_lt_of_le (by decide) hd) (fun q hq => c190 hq) h (fun x17 s16 h => ?_)
      refine Rd.if_eq H259 i259_45 (t := 75) (by decide) h (fun hc h => ?_) (fun hc h => ?_)
      · exact Ev.sub (l := [(0, .ref 512), (1, .int v1), (3, .int v3), (4, .int v4)]) rfl rfl (mm_sub_c rfl (mm_sub_c rfl (mm_sub_c rfl (mm_sub_c rfl mm_sub_n)))) (t259_75 (k16 := (q259_16 k120 n)) (fun _ _ _ _ _ h => ih _ _ _ _ _ h) hd h)
      · refine Ev.aload_n H259 i259_48 rfl ?_
        refine Rd.getR H259 i259_49 ob11 rfl ?_
        refine Ev.iload H259 i259_52 rfl ?_
        refine Ev.bipush H259 i259_54 kB_8 ?_
        refine Rd.cS2vN H259 i259_56 cal203 (Nat.le_of_ble_eq_true rfl) (Nat.le_of_ble_eq_true rfl) (Nat.lt_of_lt_of_le (by decide) hd) (fun q hq => c203 hq) h (fun x19 s18 h => ?_)
        refine Ev.iload H259 i259_59 rfl ?_
        refine Rd.if_ne H259 i259_61 (t := 68) (by decide) h (fun hc h => ?_) (fun hc h => ?_)
        · refine Ev.iload H259 i259_68 rfl ?_
          refine Ev.iload_n H259 i259_70 rfl ?_
          refine Rd.min H259 i259_71 (Nat.le_of_ble_eq_true rfl) ?_
          exact Ev.sub (l := [(0, .ref 512), (1, .int v1), (3, .int v3), (4, .int v4)]) rfl rfl (mm_sub_c rfl (mm_sub_c rfl (mm_sub_c rfl (mm_sub_c rfl mm_sub_n)))) (t259_74 (k16 := (q259_16 k120 n)) (fun _ _ _ _ _ h => ih _ _ _ _ _ h) hd h)
        · refine Ev.iload_n H259 i259_64 rfl ?_
          refine Ev.goto H259 i259_65 (t := 74) (by decide) ?_
          exact Ev.sub (l := [(0, .ref 512), (1, .int v1), (3, .int v3), (4, .int v4)]) rfl rfl (mm_sub_c rfl (mm_sub_c rfl (mm_sub_c rfl (mm_sub_c rfl mm_sub_n)))) (t259_74 (k16 := (q259_16 k120 n)) (fun _ _ _ _ _ h => ih _ _ _ _ _ h) hd h)
def q259_120 (v1 : Int32) (s : mS) : Option mQ := bM (q253 v1 s) fun s20 => ru s20
theorem t259_120 {L : Nat} {xs : Nat → Int32} {d : Nat} (hd : 3 ≤ d) {v1 : Int32} {s : mS} {r : mQ} (h : q259_120 v1 s = some r) : Ev L xs d 259 120 [(0, .ref 512), (1, .int v1)] [] (hp s) (hr r) := by
  unfold q259_120 at h
  refine Ev.aload_n H259 i259_120 rfl ?_
  refine Ev.iload_n H259 i259_121 rfl ?_
  refine Rd.cV1uN H259 i259_122 cal253 ob11 (Nat.le_of_ble_eq_true rfl) (Nat.le_of_ble_eq_true rfl) (Nat.lt_of_lt_of_le (by decide) hd) (fun q hq => c253 hq) h (fun s20 h => ?_)
  exact Rd.return_ H259 i259_125 rfl h
/-- SerialGateModel.leaves(II)V -/
def q259 (v1 : Int32) (v2 : Int32) (s : mS) : Option mQ := bN (q204 v1 (3 : Int32) s) fun x22 s21 => bM (q249 v1 v2 s21) fun s23 => q259_16 (q259_120) 10000 v1 x22 (0 : Int32) s23
theorem c259 {L : Nat} {xs : Nat → Int32} {v1 : Int32} {v2 : Int32} {s : mS} {r : mQ} (h : q259 v1 v2 s = some r) : ∀ d, 3 ≤ d → Cl L xs d 259 [.ref 512, .int v1, .int v2] (hp s) (hr r) := by
  intro d hd
  show Ev L xs d 259 0 [(0, .ref 512), (1, .int v1), (2, .int v2)] [] (hp s) (hr r)
  unfold q259 at h
  refine Ev.aload_n H259 i259_0 rfl ?_
  refine Ev.iload_n H259 i259_1 rfl ?_
  refine Ev.iconst H259 i259_2 kI_3 ?_
  refine Rd.cV2vN H259 i259_3 cal204 ob11 (Nat.le_of_ble_eq_true rfl) (Nat.le_of_ble_eq_true rfl) (Nat.lt_of_lt_of_le (by decide) hd) (fun q hq => c204 hq) h (fun x22 s21 h => ?_)
  refine Ev.istore_n H259 i259_6 (Nat.le_of_ble_eq_true rfl) (lv2 := [(3, .int x22), (0, .ref 512), (1, .int v1), (2, .int v2)]) rfl ?_
  refine Ev.aload_n H259 i259_7 rfl ?_
  refine Ev.iload_n H259 i259_8 rfl ?_
  refine Ev.iload_n H259 i259_9 rfl ?_
  refine Rd.cV2uN H259 i259_10 cal249 ob11 (Nat.le_of_ble_eq_true rfl) (Nat.le_of_ble_eq_true rfl) (Nat.lt_of_lt_of_le (by decide) hd) (fun q hq => c249 hq) h (fun s23 h => ?_)
  refine Ev.iconst H259 i259_13 kI_0 ?_
  refine Ev.istore H259 i259_14 (Nat.le_of_ble_eq_true rfl) (lv2 := [(4, .int (0 : Int32)), (3, .int x22), (0, .ref 512), (1, .int v1), (2, .int v2)]) rfl ?_
  exact Ev.sub (l := [(0, .ref 512), (1, .int v1), (3, .int x22), (4, .int (0 : Int32))]) rfl rfl (mm_sub_c rfl (mm_sub_c rfl (mm_sub_c rfl (mm_sub_c rfl mm_sub_n)))) (t259_16 (k120 := (q259_120)) (fun _ _ _ h => t259_120 hd h) hd 10000 _ _ _ _ _ h)
theorem i251_0 : mm_cd 251 0 = some (.aload_n 0, 1, 0, 0) := rfl
theorem i251_1 : mm_cd 251 1 = some (.iload_n 1, 1, 0, 0) := rfl
theorem i251_2 : mm_cd 251 2 = some (.bipush 8, 2, 0, 0) := rfl
theorem i251_4 : mm_cd 251 4 = some (.invokevirtual 69, 3, 0, 204) := rfl
theorem i251_7 : mm_cd 251 7 = some (.istore_n 2, 1, 0, 0) := rfl
theorem i251_8 : mm_cd 251 8 = some (.iconst 0, 1, 0, 0) := rfl
theorem i251_9 : mm_cd 251 9 = some (.istore_n 3, 1, 0, 0) := rfl
theorem i251_10 : mm_cd 251 10 = some (.iload_n 3, 1, 0, 0) := rfl
theorem i251_11 : mm_cd 251 11 = some (.bipush 8, 2, 0, 0) := rfl
theorem i251_13 : mm_cd 251 13 = some (.if_icmp .ge 55, 3, 0, 0) := rfl
theorem i251_16 : mm_cd 251 16 = some (.aload_n 0, 1, 0, 0) := rfl
theorem i251_17 : mm_cd 251 17 = some (.iload_n 1, 1, 0, 0) := rfl
theorem i251_18 : mm_cd 251 18 = some (.bipush 7, 2, 0, 0) := rfl
theorem i251_20 : mm_cd 251 20 = some (.invokevirtual 69, 3, 0, 204) := rfl
theorem i251_23 : mm_cd 251 23 = some (.iload_n 3, 1, 0, 0) := rfl
theorem i251_24 : mm_cd 251 24 = some (.invokestatic 79, 3, 0, 190) := rfl
theorem i251_27 : mm_cd 251 27 = some (.ifCond .eq 35, 3, 0, 0) := rfl
theorem i251_30 : mm_cd 251 30 = some (.aload_n 0, 1, 0, 0) := rfl
theorem i251_31 : mm_cd 251 31 = some (.iload_n 3, 1, 0, 0) := rfl
theorem i251_32 : mm_cd 251 32 = some (.invokevirtual 279, 3, 0, 206) := rfl
theorem i251_35 : mm_cd 251 35 = some (.ifCond .eq 27, 3, 0, 0) := rfl
theorem i251_38 : mm_cd 251 38 = some (.iload_n 2, 1, 0, 0) := rfl
theorem i251_39 : mm_cd 251 39 = some (.ifCond .ne 12, 3, 0, 0) := rfl
theorem i251_42 : mm_cd 251 42 = some (.aload_n 0, 1, 0, 0) := rfl
theorem i251_43 : mm_cd 251 43 = some (.iload_n 3, 1, 0, 0) := rfl
theorem i251_44 : mm_cd 251 44 = some (.iconst 3, 1, 0, 0) := rfl
theorem i251_45 : mm_cd 251 45 = some (.invokevirtual 69, 3, 0, 204) := rfl
theorem i251_48 : mm_cd 251 48 = some (.goto 13, 3, 0, 0) := rfl
theorem i251_51 : mm_cd 251 51 = some (.iload_n 2, 1, 0, 0) := rfl
theorem i251_52 : mm_cd 251 52 = some (.aload_n 0, 1, 0, 0) := rfl
theorem i251_53 : mm_cd 251 53 = some (.iload_n 3, 1, 0, 0) := rfl
theorem i251_54 : mm_cd 251 54 = some (.iconst 3, 1, 0, 0) := rfl
theorem i251_55 : mm_cd 251 55 = some (.invokevirtual 69, 3, 0, 204) := rfl
theorem i251_58 : mm_cd 251 58 = some (.invokestatic 149, 3, 3, 0) := rfl
theorem i251_61 : mm_cd 251 61 = some (.istore_n 2, 1, 0, 0) := rfl
theorem i251_62 : mm_cd 251 62 = some (.iinc 3 1, 3, 0, 0) := rfl
theorem i251_65 : mm_cd 251 65 = some (.goto (-55), 3, 0, 0) := rfl
theorem i251_68 : mm_cd 251 68 = some (.iload_n 2, 1, 0, 0) := rfl
theorem i251_69 : mm_cd 251 69 = some (.ireturn, 1, 0, 0) := rfl
def q251_62 (k10 : Int32 → Int32 → Int32 → mS → Option mQ) (v1 : Int32) (v2 : Int32) (v3 : Int32) (s : mS) : Option mQ := bx (v3 + (1 : Int32)) fun x1 => k10 v1 v2 x1 s
theorem t251_62 {L : Nat} {xs : Nat → Int32} {d : Nat} {k10 : Int32 → Int32 → Int32 → mS → Option mQ} (hk10 : ∀ (v1 : Int32) (v2 : Int32) (v3 : Int32) (s : mS) (r : mQ), k10 v1 v2 v3 s = some r → Ev L xs d 251 10 [(0, .ref 512), (1, .int v1), (2, .int v2), (3, .int v3)] [] (hp s) (hr r)) (hd : 3 ≤ d) {v1 : Int32} {v2 : Int32} {v3 : Int32} {s : mS} {r : mQ} (h : q251_62 k10 v1 v2 v3 s = some r) : Ev L xs d 251 62 [(0, .ref 512), (1, .int v1), (2, .int v2), (3, .int v3)] [] (hp s) (hr r) := by
  unfold q251_62 at h
  refine Rd.iinc H251 i251_62 (Nat.le_of_ble_eq_true rfl) rfl kI_1 (lv2 := fun x1 => [(3, .int x1), (0, .ref 512), (1, .int v1), (2, .int v2)]) (fun _ => rfl) h (fun x1 h => ?_)
  refine Ev.goto H251 i251_65 (t := 10) (by decide) ?_
  exact Ev.sub (l := [(0, .ref 512), (1, .int v1), (2, .int v2), (3, .int x1)]) rfl rfl (mm_sub_c rfl (mm_sub_c rfl (mm_sub_c rfl (mm_sub_c rfl mm_sub_n)))) (hk10 _ _ _ _ _ h)
def q251_61 (k10 : Int32 → Int32 → Int32 → mS → Option mQ) (v1 : Int32) (v3 : Int32) (y0 : Int32) (s : mS) : Option mQ := q251_62 k10 v1 y0 v3 s
theorem t251_61 {L : Nat} {xs : Nat → Int32} {d : Nat} {k10 : Int32 → Int32 → Int32 → mS → Option mQ} (hk10 : ∀ (v1 : Int32) (v2 : Int32) (v3 : Int32) (s : mS) (r : mQ), k10 v1 v2 v3 s = some r → Ev L xs d 251 10 [(0, .ref 512), (1, .int v1), (2, .int v2), (3, .int v3)] [] (hp s) (hr r)) (hd : 3 ≤ d) {v1 : Int32} {v3 : Int32} {y0 : Int32} {s : mS} {r : mQ} (h : q251_61 k10 v1 v3 y0 s = some r) : Ev L xs d 251 61 [(0, .ref 512), (1, .int v1), (3, .int v3)] [.int y0] (hp s) (hr r) := by
  unfold q251_61 at h
  refine Ev.istore_n H251 i251_61 (Nat.le_of_ble_eq_true rfl) (lv2 := [(2, .int y0), (0, .ref 512), (1, .int v1), (3, .int v3)]) rfl ?_
  exact Ev.sub (l := [(0, .ref 512), (1, .int v1), (2, .int y0), (3, .int v3)]) rfl rfl (mm_sub_c rfl (mm_sub_c rfl (mm_sub_c rfl (mm_sub_c rfl mm_sub_n)))) (t251_62 (k10 := k10) hk10 hd h)
def q251_10 : Nat → Int32 → Int32 → Int32 → mS → Option mQ
  | 0, _, _, _, _ => none
  | n + 1, v1, v2, v3, s => if (8 : Int32) ≤ v3 then (rv v2 s) else (bN (q204 v1 (7 : Int32) s) fun x3 s2 => bN (q190 x3 v3 s2) fun x5 s4 => if x5 = 0 then (q251_62 (q251_10 n) v1 v2 v3 s4) else (bN (q206 v3 s4) fun x7 s6 => if x7 = 0 then (q251_62 (q251_10 n) v1 v2 v3 s6) else (if ¬ v2 = 0 then (bN (q204 v3 (3 : Int32) s6) fun x9 s8 => q251_61 (q251_10 n) v1 v3 (mnI v2 x9) s8) else (bN (q204 v3 (3 : Int32) s6) fun x11 s10 => q251_61 (q251_10 n) v1 v3 x11 s10))))
theorem t251_10 {L : Nat} {xs : Nat → Int32} {d : Nat} (hd : 3 ≤ d) : ∀ (n : Nat) (v1 : Int32) (v2 : Int32) (v3 : Int32) (s : mS) (r : mQ), q251_10 n v1 v2 v3 s = some r → Ev L xs d 251 10 [(0, .ref 512), (1, .int v1), (2, .int v2), (3, .int v3)] [] (hp s) (hr r) := by
  intro n
  induction n with
  | zero => intro v1 v2 v3 s r h; rw [q251_10] at h; cases h
  | succ n ih =>
    intro v1 v2 v3 s r h
    rw [q251_10] at h
    refine Ev.iload_n H251 i251_10 rfl ?_
    refine Ev.bipush H251 i251_11 kB_8 ?_
    refine Rd.ic_ge H251 i251_13 (t := 68) (by decide) h (fun hc h => ?_) (fun hc h => ?_)
    · refine Ev.iload_n H251 i251_68 rfl ?_
      exact Rd.ireturn H251 i251_69 rfl h
    · refine Ev.aload_n H251 i251_16 rfl ?_
      refine Ev.iload_n H251 i251_17 rfl ?_
      refine Ev.bipush H251 i251_18 kB_7 ?_
      refine Rd.cV2vN H251 i251_20 cal204 ob11 (Nat.le_of_ble_eq_true rfl) (Nat.le_of_ble_eq_true rfl) (Nat.lt_of_lt_of_le (by decide) hd) (fun q hq => c204 hq) h (fun x3 s2 h => ?_)
      refine Ev.iload_n H251 i251_23 rfl ?_
      refine Rd.cS2vN H251 i251_24 cal190 (Nat.le_of_ble_eq_true rfl) (Nat.le_of_ble_eq_true rfl) (Nat.lt_of_lt_of_le (by decide) hd) (fun q hq => c190 hq) h (fun x5 s4 h => ?_)
      refine Rd.if_eq H251 i251_27 (t := 62) (by decide) h (fun hc h => ?_) (fun hc h => ?_)
      · exact Ev.sub (l := [(0, .ref 512), (1, .int v1), (2, .int v2), (3, .int v3)]) rfl rfl (mm_sub_c rfl (mm_sub_c rfl (mm_sub_c rfl (mm_sub_c rfl mm_sub_n)))) (t251_62 (k10 := (q251_10 n)) (fun _ _ _ _ _ h => ih _ _ _ _ _ h) hd h)
      · refine Ev.aload_n H251 i251_30 rfl ?_
        refine Ev.iload_n H251 i251_31 rfl ?_
        refine Rd.cV1vN H251 i251_32 cal206 ob11 (Nat.le_of_ble_eq_true rfl) (Nat.le_of_ble_eq_true rfl) (Nat.lt_of_lt_of_le (by decide) hd) (fun q hq => c206 hq) h (fun x7 s6 h => ?_)
        refine Rd.if_eq H251 i251_35 (t := 62) (by decide) h (fun hc h => ?_) (fun hc h => ?_)
        · exact Ev.sub (l := [(0, .ref 512), (1, .int v1), (2, .int v2), (3, .int v3)]) rfl rfl (mm_sub_c rfl (mm_sub_c rfl (mm_sub_c rfl (mm_sub_c rfl mm_sub_n)))) (t251_62 (k10 := (q251_10 n)) (fun _ _ _ _ _ h => ih _ _ _ _ _ h) hd h)
        · refine Ev.iload_n H251 i251_38 rfl ?_
          refine Rd.if_ne H251 i251_39 (t := 51) (by decide) h (fun hc h => ?_) (fun hc h => ?_)
          · refine Ev.iload_n H251 i251_51 rfl ?_
            refine Ev.aload_n H251 i251_52 rfl ?_
            refine Ev.iload_n H251 i251_53 rfl ?_
            refine Ev.iconst H251 i251_54 kI_3 ?_
            refine Rd.cV2vN H251 i251_55 cal204 ob11 (Nat.le_of_ble_eq_true rfl) (Nat.le_of_ble_eq_true rfl) (Nat.lt_of_lt_of_le (by decide) hd) (fun q hq => c204 hq) h (fun x9 s8 h => ?_)
            refine Rd.min H251 i251_58 (Nat.le_of_ble_eq_true rfl) ?_
            exact Ev.sub (l := [(0, .ref 512), (1, .int v1), (3, .int v3)]) rfl rfl (mm_sub_c rfl (mm_sub_c rfl (mm_sub_c rfl mm_sub_n))) (t251_61 (k10 := (q251_10 n)) (fun _ _ _ _ _ h => ih _ _ _ _ _ h) hd h)
          · refine Ev.aload_n H251 i251_42 rfl ?_
            refine Ev.iload_n H251 i251_43 rfl ?_
            refine Ev.iconst H251 i251_44 kI_3 ?_
            refine Rd.cV2vN H251 i251_45 cal204 ob11 (Nat.le_of_ble_eq_true rfl) (Nat.le_of_ble_eq_true rfl) (Nat.lt_of_lt_of_le (by decide) hd) (fun q hq => c204 hq) h (fun x11 s10 h => ?_)
            refine Ev.goto H251 i251_48 (t := 61) (by decide) ?_
            exact Ev.sub (l := [(0, .ref 512), (1, .int v1), (3, .int v3)]) rfl rfl (mm_sub_c rfl (mm_sub_c rfl (mm_sub_c rfl mm_sub_n))) (t251_61 (k10 := (q251_10 n)) (fun _ _ _ _ _ h => ih _ _ _ _ _ h) hd h)
/-- SerialGateModel.firstOut(I)I -/
def q251 (v1 : Int32) (s : mS) : Option mQ := bN (q204 v1 (8 : Int32) s) fun x13 s12 => q251_10 10000 v1 x13 (0 : Int32) s12
theorem c251 {L : Nat} {xs : Nat → Int32} {v1 : Int32} {s : mS} {r : mQ} (h : q251 v1 s = some r) : ∀ d, 3 ≤ d → Cl L xs d 251 [.ref 512, .int v1] (hp s) (hr r) := by
  intro d hd
  show Ev L xs d 251 0 [(0, .ref 512), (1, .int v1)] [] (hp s) (hr r)
  unfold q251 at h
  refine Ev.aload_n H251 i251_0 rfl ?_
  refine Ev.iload_n H251 i251_1 rfl ?_
  refine Ev.bipush H251 i251_2 kB_8 ?_
  refine Rd.cV2vN H251 i251_4 cal204 ob11 (Nat.le_of_ble_eq_true rfl) (Nat.le_of_ble_eq_true rfl) (Nat.lt_of_lt_of_le (by decide) hd) (fun q hq => c204 hq) h (fun x13 s12 h => ?_)
  refine Ev.istore_n H251 i251_7 (Nat.le_of_ble_eq_true rfl) (lv2 := [(2, .int x13), (0, .ref 512), (1, .int v1)]) rfl ?_
  refine Ev.iconst H251 i251_8 kI_0 ?_
  refine Ev.istore_n H251 i251_9 (Nat.le_of_ble_eq_true rfl) (lv2 := [(3, .int (0 : Int32)), (2, .int x13), (0, .ref 512), (1, .int v1)]) rfl ?_
  exact Ev.sub (l := [(0, .ref 512), (1, .int v1), (2, .int x13), (3, .int (0 : Int32))]) rfl rfl (mm_sub_c rfl (mm_sub_c rfl (mm_sub_c rfl (mm_sub_c rfl mm_sub_n)))) (t251_10 hd 10000 _ _ _ _ _ h)
theorem i260_0 : mm_cd 260 0 = some (.aload_n 0, 1, 0, 0) := rfl
theorem i260_1 : mm_cd 260 1 = some (.iload_n 1, 1, 0, 0) := rfl
theorem i260_2 : mm_cd 260 2 = some (.iconst 3, 1, 0, 0) := rfl
theorem i260_3 : mm_cd 260 3 = some (.invokevirtual 69, 3, 0, 204) := rfl
theorem i260_6 : mm_cd 260 6 = some (.istore_n 2, 1, 0, 0) := rfl
theorem i260_7 : mm_cd 260 7 = some (.aload_n 0, 1, 0, 0) := rfl
theorem i260_8 : mm_cd 260 8 = some (.iload_n 1, 1, 0, 0) := rfl
theorem i260_9 : mm_cd 260 9 = some (.invokevirtual 295, 3, 0, 251) := rfl
theorem i260_12 : mm_cd 260 12 = some (.istore_n 3, 1, 0, 0) := rfl
theorem i260_13 : mm_cd 260 13 = some (.iconst 0, 1, 0, 0) := rfl
theorem i260_14 : mm_cd 260 14 = some (.istore 4, 2, 0, 0) := rfl
theorem i260_16 : mm_cd 260 16 = some (.iload 4, 2, 0, 0) := rfl
theorem i260_18 : mm_cd 260 18 = some (.bipush 10, 2, 0, 0) := rfl
theorem i260_20 : mm_cd 260 20 = some (.if_icmp .ge 129, 3, 0, 0) := rfl
theorem i260_23 : mm_cd 260 23 = some (.aload_n 0, 1, 0, 0) := rfl
theorem i260_24 : mm_cd 260 24 = some (.iload_n 1, 1, 0, 0) := rfl
theorem i260_25 : mm_cd 260 25 = some (.iconst 5, 1, 0, 0) := rfl
theorem i260_26 : mm_cd 260 26 = some (.invokevirtual 69, 3, 0, 204) := rfl
theorem i260_29 : mm_cd 260 29 = some (.iload 4, 2, 0, 0) := rfl
theorem i260_31 : mm_cd 260 31 = some (.invokestatic 79, 3, 0, 190) := rfl
theorem i260_34 : mm_cd 260 34 = some (.ifCond .eq 25, 3, 0, 0) := rfl
theorem i260_37 : mm_cd 260 37 = some (.aload_n 0, 1, 0, 0) := rfl
theorem i260_38 : mm_cd 260 38 = some (.getfield 13, 3, ((11 : Nat) : Int), 1) := rfl
theorem i260_41 : mm_cd 260 41 = some (.iload 4, 2, 0, 0) := rfl
theorem i260_43 : mm_cd 260 43 = some (.iconst 1, 1, 0, 0) := rfl
theorem i260_44 : mm_cd 260 44 = some (.invokestatic 59, 3, 0, 199) := rfl
theorem i260_47 : mm_cd 260 47 = some (.aload_n 0, 1, 0, 0) := rfl
theorem i260_48 : mm_cd 260 48 = some (.iload 4, 2, 0, 0) := rfl
theorem i260_50 : mm_cd 260 50 = some (.iconst 1, 1, 0, 0) := rfl
theorem i260_51 : mm_cd 260 51 = some (.invokevirtual 146, 3, 0, 200) := rfl
theorem i260_54 : mm_cd 260 54 = some (.iload_n 2, 1, 0, 0) := rfl
theorem i260_55 : mm_cd 260 55 = some (.invokestatic 276, 3, 2, 0) := rfl
theorem i260_58 : mm_cd 260 58 = some (.iastore, 1, 0, 0) := rfl
theorem i260_59 : mm_cd 260 59 = some (.aload_n 0, 1, 0, 0) := rfl
theorem i260_60 : mm_cd 260 60 = some (.iload_n 1, 1, 0, 0) := rfl
theorem i260_61 : mm_cd 260 61 = some (.bipush 6, 2, 0, 0) := rfl
theorem i260_63 : mm_cd 260 63 = some (.invokevirtual 69, 3, 0, 204) := rfl
theorem i260_66 : mm_cd 260 66 = some (.iload 4, 2, 0, 0) := rfl
theorem i260_68 : mm_cd 260 68 = some (.invokestatic 79, 3, 0, 190) := rfl
theorem i260_71 : mm_cd 260 71 = some (.ifCond .ne 6, 3, 0, 0) := rfl
theorem i260_74 : mm_cd 260 74 = some (.goto 69, 3, 0, 0) := rfl
theorem i260_77 : mm_cd 260 77 = some (.aload_n 0, 1, 0, 0) := rfl
theorem i260_78 : mm_cd 260 78 = some (.getfield 13, 3, ((11 : Nat) : Int), 1) := rfl
theorem i260_81 : mm_cd 260 81 = some (.iload 4, 2, 0, 0) := rfl
theorem i260_83 : mm_cd 260 83 = some (.iconst 2, 1, 0, 0) := rfl
theorem i260_84 : mm_cd 260 84 = some (.invokestatic 59, 3, 0, 199) := rfl
theorem i260_87 : mm_cd 260 87 = some (.aload_n 0, 1, 0, 0) := rfl
theorem i260_88 : mm_cd 260 88 = some (.iload 4, 2, 0, 0) := rfl
theorem i260_90 : mm_cd 260 90 = some (.iconst 2, 1, 0, 0) := rfl
theorem i260_91 : mm_cd 260 91 = some (.invokevirtual 146, 3, 0, 200) := rfl
theorem i260_94 : mm_cd 260 94 = some (.iload_n 2, 1, 0, 0) := rfl
theorem i260_95 : mm_cd 260 95 = some (.invokestatic 276, 3, 2, 0) := rfl
theorem i260_98 : mm_cd 260 98 = some (.iastore, 1, 0, 0) := rfl
theorem i260_99 : mm_cd 260 99 = some (.aload_n 0, 1, 0, 0) := rfl
theorem i260_100 : mm_cd 260 100 = some (.iload 4, 2, 0, 0) := rfl
theorem i260_102 : mm_cd 260 102 = some (.iconst 3, 1, 0, 0) := rfl
theorem i260_103 : mm_cd 260 103 = some (.invokevirtual 146, 3, 0, 200) := rfl
theorem i260_106 : mm_cd 260 106 = some (.istore 5, 2, 0, 0) := rfl
theorem i260_108 : mm_cd 260 108 = some (.iload_n 3, 1, 0, 0) := rfl
theorem i260_109 : mm_cd 260 109 = some (.ifCond .le 34, 3, 0, 0) := rfl
theorem i260_112 : mm_cd 260 112 = some (.iload_n 3, 1, 0, 0) := rfl
theorem i260_113 : mm_cd 260 113 = some (.iload_n 2, 1, 0, 0) := rfl
theorem i260_114 : mm_cd 260 114 = some (.if_icmp .ge 29, 3, 0, 0) := rfl
theorem i260_117 : mm_cd 260 117 = some (.aload_n 0, 1, 0, 0) := rfl
theorem i260_118 : mm_cd 260 118 = some (.getfield 13, 3, ((11 : Nat) : Int), 1) := rfl
theorem i260_121 : mm_cd 260 121 = some (.iload 4, 2, 0, 0) := rfl
theorem i260_123 : mm_cd 260 123 = some (.iconst 3, 1, 0, 0) := rfl
theorem i260_124 : mm_cd 260 124 = some (.invokestatic 59, 3, 0, 199) := rfl
theorem i260_127 : mm_cd 260 127 = some (.iload 5, 2, 0, 0) := rfl
theorem i260_129 : mm_cd 260 129 = some (.ifCond .ne 7, 3, 0, 0) := rfl
theorem i260_132 : mm_cd 260 132 = some (.iload_n 3, 1, 0, 0) := rfl
theorem i260_133 : mm_cd 260 133 = some (.goto 9, 3, 0, 0) := rfl
theorem i260_136 : mm_cd 260 136 = some (.iload 5, 2, 0, 0) := rfl
theorem i260_138 : mm_cd 260 138 = some (.iload_n 3, 1, 0, 0) := rfl
theorem i260_139 : mm_cd 260 139 = some (.invokestatic 149, 3, 3, 0) := rfl
theorem i260_142 : mm_cd 260 142 = some (.iastore, 1, 0, 0) := rfl
theorem i260_143 : mm_cd 260 143 = some (.iinc 4 1, 3, 0, 0) := rfl
theorem i260_146 : mm_cd 260 146 = some (.goto (-130), 3, 0, 0) := rfl
theorem i260_149 : mm_cd 260 149 = some (.aload_n 0, 1, 0, 0) := rfl
theorem i260_150 : mm_cd 260 150 = some (.iload_n 1, 1, 0, 0) := rfl
theorem i260_151 : mm_cd 260 151 = some (.iconst 5, 1, 0, 0) := rfl
theorem i260_152 : mm_cd 260 152 = some (.invokevirtual 310, 3, 0, 259) := rfl
theorem i260_155 : mm_cd 260 155 = some (.return_, 1, 0, 0) := rfl
def q260_143 (k16 : Int32 → Int32 → Int32 → Int32 → mS → Option mQ) (v1 : Int32) (v2 : Int32) (v3 : Int32) (v4 : Int32) (s : mS) : Option mQ := bx (v4 + (1 : Int32)) fun x1 => k16 v1 v2 v3 x1 s
theorem t260_143 {L : Nat} {xs : Nat → Int32} {d : Nat} {k16 : Int32 → Int32 → Int32 → Int32 → mS → Option mQ} (hk16 : ∀ (v1 : Int32) (v2 : Int32) (v3 : Int32) (v4 : Int32) (s : mS) (r : mQ), k16 v1 v2 v3 v4 s = some r → Ev L xs d 260 16 [(0, .ref 512), (1, .int v1), (2, .int v2), (3, .int v3), (4, .int v4)] [] (hp s) (hr r)) (hd : 4 ≤ d) {v1 : Int32} {v2 : Int32} {v3 : Int32} {v4 : Int32} {s : mS} {r : mQ} (h : q260_143 k16 v1 v2 v3 v4 s = some r) : Ev L xs d 260 143 [(0, .ref 512), (1, .int v1), (2, .int v2), (3, .int v3), (4, .int v4)] [] (hp s) (hr r) := by
  unfold q260_143 at h
  refine Rd.iinc H260 i260_143 (Nat.le_of_ble_eq_true rfl) rfl kI_1 (lv2 := fun x1 => [(4, .int x1), (0, .ref 512), (1, .int v1), (2, .int v2), (3, .int v3)]) (fun _ => rfl) h (fun x1 h => ?_)
  refine Ev.goto H260 i260_146 (t := 16) (by decide) ?_
  exact Ev.sub (l := [(0, .ref 512), (1, .int v1), (2, .int v2), (3, .int v3), (4, .int x1)]) rfl rfl (mm_sub_c rfl (mm_sub_c rfl (mm_sub_c rfl (mm_sub_c rfl (mm_sub_c rfl mm_sub_n))))) (hk16 _ _ _ _ _ _ h)
def q260_142 (k16 : Int32 → Int32 → Int32 → Int32 → mS → Option mQ) (v1 : Int32) (v2 : Int32) (v3 : Int32) (v4 : Int32) (y1 : Int32) (y2 : Int32) (s : mS) : Option mQ := gA 2468 y1 <| sp (sI s 513 y1.toNatClampNeg y2) fun s2 => q260_143 k16 v1 v2 v3 v4 s2
theorem t260_142 {L : Nat} {xs : Nat → Int32} {d : Nat} {k16 : Int32 → Int32 → Int32 → Int32 → mS → Option mQ} (hk16 : ∀ (v1 : Int32) (v2 : Int32) (v3 : Int32) (v4 : Int32) (s : mS) (r : mQ), k16 v1 v2 v3 v4 s = some r → Ev L xs d 260 16 [(0, .ref 512), (1, .int v1), (2, .int v2), (3, .int v3), (4, .int v4)] [] (hp s) (hr r)) (hd : 4 ≤ d) {v1 : Int32} {v2 : Int32} {v3 : Int32} {v4 : Int32} {y1 : Int32} {y2 : Int32} {s : mS} {r : mQ} (h : q260_142 k16 v1 v2 v3 v4 y1 y2 s = some r) : Ev L xs d 260 142 [(0, .ref 512), (1, .int v1), (2, .int v2), (3, .int v3), (4, .int v4)] [.int y2, .int y1, .ref 513] (hp s) (hr r) := by
  unfold q260_142 at h
  refine Rd.iastore H260 i260_142 ar_513 h (fun s2 h => ?_)
  exact Ev.sub (l := [(0, .ref 512), (1, .int v1), (2, .int v2), (3, .int v3), (4, .int v4)]) rfl rfl (mm_sub_c rfl (mm_sub_c rfl (mm_sub_c rfl (mm_sub_c rfl (mm_sub_c rfl mm_sub_n))))) (t260_143 (k16 := k16) hk16 hd h)
def q260_59 (k16 : Int32 → Int32 → Int32 → Int32 → mS → Option mQ) (v1 : Int32) (v2 : Int32) (v3 : Int32) (v4 : Int32) (s : mS) : Option mQ := bN (q204 v1 (6 : Int32) s) fun x4 s3 => bN (q190 x4 v4 s3) fun x6 s5 => if ¬ x6 = 0 then (bN (q199 v4 (2 : Int32) s5) fun x8 s7 => bN (q200 v4 (2 : Int32) s7) fun x10 s9 => gA 2468 x8 <| sp (sI s9 513 x8.toNatClampNeg (mxI x10 v2)) fun s11 => bN (q200 v4 (3 : Int32) s11) fun x13 s12 => if v3 ≤ 0 then (q260_143 k16 v1 v2 v3 v4 s12) else (if v2 ≤ v3 then (q260_143 k16 v1 v2 v3 v4 s12) else (bN (q199 v4 (3 : Int32) s12) fun x15 s14 => if ¬ x13 = 0 then (q260_142 k16 v1 v2 v3 v4 x15 (mnI x13 v3) s14) else (q260_142 k16 v1 v2 v3 v4 x15 v3 s14)))) else (q260_143 k16 v1 v2 v3 v4 s5)
theorem t260_59 {L : Nat} {xs : Nat → Int32} {d : Nat} {k16 : Int32 → Int32 → Int32 → Int32 → mS → Option mQ} (hk16 : ∀ (v1 : Int32) (v2 : Int32) (v3 : Int32) (v4 : Int32) (s : mS) (r : mQ), k16 v1 v2 v3 v4 s = some r → Ev L xs d 260 16 [(0, .ref 512), (1, .int v1), (2, .int v2), (3, .int v3), (4, .int v4)] [] (hp s) (hr r)) (hd : 4 ≤ d) {v1 : Int32} {v2 : Int32} {v3 : Int32} {v4 : Int32} {s : mS} {r : mQ} (h : q260_59 k16 v1 v2 v3 v4 s = some r) : Ev L xs d 260 59 [(0, .ref 512), (1, .int v1), (2, .int v2), (3, .int v3), (4, .int v4)] [] (hp s) (hr r) := by
  unfold q260_59 at h
  refine Ev.aload_n H260 i260_59 rfl ?_
  refine Ev.iload_n H260 i260_60 rfl ?_
  refine Ev.bipush H260 i260_61 kB_6 ?_
  refine Rd.cV2vN H260 i260_63 cal204 ob11 (Nat.le_of_ble_eq_true rfl) (Nat.le_of_ble_eq_true rfl) (Nat.lt_of_lt_of_le (by decide) hd) (fun q hq => c204 hq) h (fun x4 s3 h => ?_)
  refine Ev.iload H260 i260_66 rfl ?_
  refine Rd.cS2vN H260 i260_68 cal190 (Nat.le_of_ble_eq_true rfl) (Nat.le_of_ble_eq_true rfl) (Nat.lt_of_lt_of_le (by decide) hd) (fun q hq => c190 hq) h (fun x6 s5 h => ?_)
  refine Rd.if_ne H260 i260_71 (t := 77) (by decide) h (fun hc h => ?_) (fun hc h => ?_)
  · refine Ev.aload_n H260 i260_77 rfl ?_
    refine Rd.getR H260 i260_78 ob11 rfl ?_
    refine Ev.iload H260 i260_81 rfl ?_
    refine Ev.iconst H260 i260_83 kI_2 ?_
    refine Rd.cS2vN H260 i260_84 cal199 (Nat.le_of_ble_eq_true rfl) (Nat.le_of_ble_eq_true rfl) (Nat.lt_of_lt_of_le (by decide) hd) (fun q hq => c199 hq) h (fun x8 s7 h => ?_)
    refine Ev.aload_n H260 i260_87 rfl ?_
    refine Ev.iload H260 i260_88 rfl ?_
    refine Ev.iconst H260 i260_90 kI_2 ?_
    refine Rd.cV2vN H260 i260_91 cal200 ob11 (Nat.le_of_ble_eq_true rfl) (Nat.le_of_ble_eq_true rfl) (Nat.lt_of_lt_of_le (by decide) hd) (fun q hq => c200 hq) h (fun x10 s9 h => ?_)
    refine Ev.iload_n H260 i260_94 rfl ?_
    refine Rd.max H260 i260_95 (Nat.le_of_ble_eq_true rfl) ?_
    refine Rd.iastore H260 i260_98 ar_513 h (fun s11 h => ?_)
    refine Ev.aload_n H260 i260_99 rfl ?_
    refine Ev.iload H260 i260_100 rfl ?_
    refine Ev.iconst H260 i260_102 kI_3 ?_
    refine Rd.cV2vN H260 i260_103 cal200 ob11 (Nat.le_of_ble_eq_true rfl) (Nat.le_of_ble_eq_true rfl) (Nat.lt_of_lt_of_le (by decide) hd) (fun q hq => c200 hq) h (fun x13 s12 h => ?_)
    refine Ev.istore H260 i260_106 (Nat.le_of_ble_eq_true rfl) (lv2 := [(5, .int x13), (0, .ref 512), (1, .int v1), (2, .int v2), (3, .int v3), (4, .int v4)]) rfl ?_
    refine Ev.iload_n H260 i260_108 rfl ?_
    refine Rd.if_le H260 i260_109 (t := 143) (by decide) h (fun hc h => ?_) (fun hc h => ?_)
    · exact Ev.sub (l := [(0, .ref 512), (1, .int v1), (2, .int v2), (3, .int v3), (4, .int v4)]) rfl rfl (mm_sub_c rfl (mm_sub_c rfl (mm_sub_c rfl (mm_sub_c rfl (mm_sub_c rfl mm_sub_n))))) (t260_143 (k16 := k16) hk16 hd h)
    · refine Ev.iload_n H260 i260_112 rfl ?_
      refine Ev.iload_n H260 i260_113 rfl ?_
      refine Rd.ic_ge H260 i260_114 (t := 143) (by decide) h (fun hc h => ?_) (fun hc h => ?_)
      · exact Ev.sub (l := [(0, .ref 512), (1, .int v1), (2, .int v2), (3, .int v3), (4, .int v4)]) rfl rfl (mm_sub_c rfl (mm_sub_c rfl (mm_sub_c rfl (mm_sub_c rfl (mm_sub_c rfl mm_sub_n))))) (t260_143 (k16 := k16) hk16 hd h)
      · refine Ev.aload_n H260 i260_117 rfl ?_
        refine Rd.getR H260 i260_118 ob11 rfl ?_
        refine Ev.iload H260 i260_121 rfl ?_
        refine Ev.iconst H260 i260_123 kI_3 ?_
        refine Rd.cS2vN H260 i260_124 cal199 (Nat.le_of_ble_eq_true rfl) (Nat.le_of_ble_eq_true rfl) (Nat.lt_of_lt_of_le (by decide) hd) (fun q hq => c199 hq) h (fun x15 s14 h => ?_)
        refine Ev.iload H260 i260_127 rfl ?_
        refine Rd.if_ne H260 i260_129 (t := 136) (by decide) h (fun hc h => ?_) (fun hc h => ?_)
        · refine Ev.iload H260 i260_136 rfl ?_
          refine Ev.iload_n H260 i260_138 rfl ?_
          refine Rd.min H260 i260_139 (Nat.le_of_ble_eq_true rfl) ?_
          exact Ev.sub (l := [(0, .ref 512), (1, .int v1), (2, .int v2), (3, .int v3), (4, .int v4)]) rfl rfl (mm_sub_c rfl (mm_sub_c rfl (mm_sub_c rfl (mm_sub_c rfl (mm_sub_c rfl mm_sub_n))))) (t260_142 (k16 := k16) hk16 hd h)
        · refine Ev.iload_n H260 i260_132 rfl ?_
          refine Ev.goto H260 i260_133 (t := 142) (by decide) ?_
          exact Ev.sub (l := [(0, .ref 512), (1, .int v1), (2, .int v2), (3, .int v3), (4, .int v4)]) rfl rfl (mm_sub_c rfl (mm_sub_c rfl (mm_sub_c rfl (mm_sub_c rfl (mm_sub_c rfl mm_sub_n))))) (t260_142 (k16 := k16) hk16 hd h)
  · refine Ev.goto H260 i260_74 (t := 143) (by decide) ?_
    exact Ev.sub (l := [(0, .ref 512), (1, .int v1), (2, .int v2), (3, .int v3), (4, .int v4)]) rfl rfl (mm_sub_c rfl (mm_sub_c rfl (mm_sub_c rfl (mm_sub_c rfl (mm_sub_c rfl mm_sub_n))))) (t260_143 (k16 := k16) hk16 hd h)
def q260_16 (k149 : Int32 → mS → Option mQ) : Nat → Int32 → Int32 → Int32 → Int32 → mS → Option mQ
  | 0, _, _, _, _, _ => none
  | n + 1, v1, v2, v3, v4, s => if (10 : Int32) ≤ v4 then (k149 v1 s) else (bN (q204 v1 (5 : Int32) s) fun x17 s16 => bN (q190 x17 v4 s16) fun x19 s18 => if x19 = 0 then (q260_59 (q260_16 k149 n) v1 v2 v3 v4 s18) else (bN (q199 v4 (1 : Int32) s18) fun x21 s20 => bN (q200 v4 (1 : Int32) s20) fun x23 s22 => gA 2468 x21 <| sp (sI s22 513 x21.toNatClampNeg (mxI x23 v2)) fun s24 => q260_59 (q260_16 k149 n) v1 v2 v3 v4 s24))
theorem t260_16 {L : Nat} {xs : Nat → Int32} {d : Nat} {k149 : Int32 → mS → Option mQ} (hk149 : ∀ (v1 : Int32) (s : mS) (r : mQ), k149 v1 s = some r → Ev L xs d 260 149 [(0, .ref 512), (1, .int v1)] [] (hp s) (hr r)) (hd : 4 ≤ d) : ∀ (n : Nat) (v1 : Int32) (v2 : Int32) (v3 : Int32) (v4 : Int32) (s : mS) (r : mQ), q260_16 k149 n v1 v2 v3 v4 s = some r → Ev L xs d 260 16 [(0, .ref 512), (1, .int v1), (2, .int v2), (3, .int v3), (4, .int v4)] [] (hp s) (hr r) := by
  intro n
  induction n with
  | zero => intro v1 v2 v3 v4 s r h; rw [q260_16] at h; cases h
  | succ n ih =>
    intro v1 v2 v3 v4 s r h
    rw [q260_16] at h
    refine Ev.iload H260 i260_16 rfl ?_
    refine Ev.bipush H260 i260_18 kB_10 ?_
    refine Rd.ic_ge H260 i260_20 (t := 149) (by decide) h (fun hc h => ?_) (fun hc h => ?_)
    · exact Ev.sub (l := [(0, .ref 512), (1, .int v1)]) rfl rfl (mm_sub_c rfl (mm_sub_c rfl mm_sub_n)) (hk149 _ _ _ h)
    · refine Ev.aload_n H260 i260_23 rfl ?_
      refine Ev.iload_n H260 i260_24 rfl ?_
      refine Ev.iconst H260 i260_25 kI_5 ?_
      refine Rd.cV2vN H260 i260_26 cal204 ob11 (Nat.le_of_ble_eq_true rfl) (Nat.le_of_ble_eq_true rfl) (Nat.lt_of_lt_of_le (by decide) hd) (fun q hq => c204 hq) h (fun x17 s16 h => ?_)
      refine Ev.iload H260 i260_29 rfl ?_
      refine Rd.cS2vN H260 i260_31 cal190 (Nat.le_of_ble_eq_true rfl) (Nat.le_of_ble_eq_true rfl) (Nat.lt_of_lt_of_le (by decide) hd) (fun q hq => c190 hq) h (fun x19 s18 h => ?_)
      refine Rd.if_eq H260 i260_34 (t := 59) (by decide) h (fun hc h => ?_) (fun hc h => ?_)
      · exact Ev.sub (l := [(0, .ref 512), (1, .int v1), (2, .int v2), (3, .int v3), (4, .int v4)]) rfl rfl (mm_sub_c rfl (mm_sub_c rfl (mm_sub_c rfl (mm_sub_c rfl (mm_sub_c rfl mm_sub_n))))) (t260_59 (k16 := (q260_16 k149 n)) (fun _ _ _ _ _ _ h => ih _ _ _ _ _ _ h) hd h)
      · refine Ev.aload_n H260 i260_37 rfl ?_
        refine Rd.getR H260 i260_38 ob11 rfl ?_
        refine Ev.iload H260 i260_41 rfl ?_
        refine Ev.iconst H260 i260_43 kI_1 ?_
        refine Rd.cS2vN H260 i260_44 cal199 (Nat.le_of_ble_eq_true rfl) (Nat.le_of_ble_eq_true rfl) (Nat.lt_of_lt_of_le (by decide) hd) (fun q hq => c199 hq) h (fun x21 s20 h => ?_)
        refine Ev.aload_n H260 i260_47 rfl ?_
        refine Ev.iload H260 i260_48 rfl ?_
        refine Ev.iconst H260 i260_50 kI_1 ?_
        refine Rd.cV2vN H260 i260_51 cal200 ob11 (Nat.le_of_ble_eq_true rfl) (Nat.le_of_ble_eq_true rfl) (Nat.lt_of_lt_of_le (by decide) hd) (fun q hq => c200 hq) h (fun x23 s22 h => ?_)
        refine Ev.iload_n H260 i260_54 rfl ?_
        refine Rd.max H260 i260_55 (Nat.le_of_ble_eq_true rfl) ?_
        refine Rd.iastore H260 i260_58 ar_513 h (fun s24 h => ?_)
        exact Ev.sub (l := [(0, .ref 512), (1, .int v1), (2, .int v2), (3, .int v3), (4, .int v4)]) rfl rfl (mm_sub_c rfl (mm_sub_c rfl (mm_sub_c rfl (mm_sub_c rfl (mm_sub_c rfl mm_sub_n))))) (t260_59 (k16 := (q260_16 k149 n)) (fun _ _ _ _ _ _ h => ih _ _ _ _ _ _ h) hd h)
def q260_149 (v1 : Int32) (s : mS) : Option mQ := bM (q259 v1 (5 : Int32) s) fun s25 => ru s25
theorem t260_149 {L : Nat} {xs : Nat → Int32} {d : Nat} (hd : 4 ≤ d) {v1 : Int32} {s : mS} {r : mQ} (h : q260_149 v1 s = some r) : Ev L xs d 260 149 [(0, .ref 512), (1, .int v1)] [] (hp s) (hr r) := by
  unfold q260_149 at h
  refine Ev.aload_n H260 i260_149 rfl ?_
  refine Ev.iload_n H260 i260_150 rfl ?_
  refine Ev.iconst H260 i260_151 kI_5 ?_
  refine Rd.cV2uN H260 i260_152 cal259 ob11 (Nat.le_of_ble_eq_true rfl) (Nat.le_of_ble_eq_true rfl) (Nat.lt_of_lt_of_le (by decide) hd) (fun q hq => c259 hq) h (fun s25 h => ?_)
  exact Rd.return_ H260 i260_155 rfl h
/-- SerialGateModel.isSummed(I)V -/
def q260 (v1 : Int32) (s : mS) : Option mQ := bN (q204 v1 (3 : Int32) s) fun x27 s26 => bN (q251 v1 s26) fun x29 s28 => q260_16 (q260_149) 10000 v1 x27 x29 (0 : Int32) s28
theorem c260 {L : Nat} {xs : Nat → Int32} {v1 : Int32} {s : mS} {r : mQ} (h : q260 v1 s = some r) : ∀ d, 4 ≤ d → Cl L xs d 260 [.ref 512, .int v1] (hp s) (hr r) := by
  intro d hd
  show Ev L xs d 260 0 [(0, .ref 512), (1, .int v1)] [] (hp s) (hr r)
  unfold q260 at h
  refine Ev.aload_n H260 i260_0 rfl ?_
  refine Ev.iload_n H260 i260_1 rfl ?_
  refine Ev.iconst H260 i260_2 kI_3 ?_
  refine Rd.cV2vN H260 i260_3 cal204 ob11 (Nat.le_of_ble_eq_true rfl) (Nat.le_of_ble_eq_true rfl) (Nat.lt_of_lt_of_le (by decide) hd) (fun q hq => c204 hq) h (fun x27 s26 h => ?_)
  refine Ev.istore_n H260 i260_6 (Nat.le_of_ble_eq_true rfl) (lv2 := [(2, .int x27), (0, .ref 512), (1, .int v1)]) rfl ?_
  refine Ev.aload_n H260 i260_7 rfl ?_
  refine Ev.iload_n H260 i260_8 rfl ?_
  refine Rd.cV1vN H260 i260_9 cal251 ob11 (Nat.le_of_ble_eq_true rfl) (Nat.le_of_ble_eq_true rfl) (Nat.lt_of_lt_of_le (by decide) hd) (fun q hq => c251 hq) h (fun x29 s28 h => ?_)
  refine Ev.istore_n H260 i260_12 (Nat.le_of_ble_eq_true rfl) (lv2 := [(3, .int x29), (2, .int x27), (0, .ref 512), (1, .int v1)]) rfl ?_
  refine Ev.iconst H260 i260_13 kI_0 ?_
  refine Ev.istore H260 i260_14 (Nat.le_of_ble_eq_true rfl) (lv2 := [(4, .int (0 : Int32)), (3, .int x29), (2, .int x27), (0, .ref 512), (1, .int v1)]) rfl ?_
  exact Ev.sub (l := [(0, .ref 512), (1, .int v1), (2, .int x27), (3, .int x29), (4, .int (0 : Int32))]) rfl rfl (mm_sub_c rfl (mm_sub_c rfl (mm_sub_c rfl (mm_sub_c rfl (mm_sub_c rfl mm_sub_n))))) (t260_16 (k149 := (q260_149)) (fun _ _ _ h => t260_149 hd h) hd 10000 _ _ _ _ _ _ h)
theorem i261_0 : mm_cd 261 0 = some (.aload_n 0, 1, 0, 0) := rfl
theorem i261_1 : mm_cd 261 1 = some (.iconst 2, 1, 0, 0) := rfl
theorem i261_2 : mm_cd 261 2 = some (.invokevirtual 313, 3, 0, 208) := rfl
theorem i261_5 : mm_cd 261 5 = some (.istore_n 1, 1, 0, 0) := rfl
theorem i261_6 : mm_cd 261 6 = some (.iconst 0, 1, 0, 0) := rfl
theorem i261_7 : mm_cd 261 7 = some (.istore_n 2, 1, 0, 0) := rfl
theorem i261_8 : mm_cd 261 8 = some (.iload_n 2, 1, 0, 0) := rfl
theorem i261_9 : mm_cd 261 9 = some (.bipush 8, 2, 0, 0) := rfl
theorem i261_11 : mm_cd 261 11 = some (.if_icmp .ge 54, 3, 0, 0) := rfl
theorem i261_14 : mm_cd 261 14 = some (.iconst 0, 1, 0, 0) := rfl
theorem i261_15 : mm_cd 261 15 = some (.istore_n 3, 1, 0, 0) := rfl
theorem i261_16 : mm_cd 261 16 = some (.iload_n 3, 1, 0, 0) := rfl
theorem i261_17 : mm_cd 261 17 = some (.bipush 8, 2, 0, 0) := rfl
theorem i261_19 : mm_cd 261 19 = some (.if_icmp .ge 40, 3, 0, 0) := rfl
theorem i261_22 : mm_cd 261 22 = some (.aload_n 0, 1, 0, 0) := rfl
theorem i261_23 : mm_cd 261 23 = some (.iload_n 3, 1, 0, 0) := rfl
theorem i261_24 : mm_cd 261 24 = some (.invokevirtual 75, 3, 0, 205) := rfl
theorem i261_27 : mm_cd 261 27 = some (.ifCond .eq 26, 3, 0, 0) := rfl
theorem i261_30 : mm_cd 261 30 = some (.aload_n 0, 1, 0, 0) := rfl
theorem i261_31 : mm_cd 261 31 = some (.iload_n 2, 1, 0, 0) := rfl
theorem i261_32 : mm_cd 261 32 = some (.iconst 3, 1, 0, 0) := rfl
theorem i261_33 : mm_cd 261 33 = some (.invokevirtual 69, 3, 0, 204) := rfl
theorem i261_36 : mm_cd 261 36 = some (.aload_n 0, 1, 0, 0) := rfl
theorem i261_37 : mm_cd 261 37 = some (.iload_n 3, 1, 0, 0) := rfl
theorem i261_38 : mm_cd 261 38 = some (.iconst 2, 1, 0, 0) := rfl
theorem i261_39 : mm_cd 261 39 = some (.invokevirtual 69, 3, 0, 204) := rfl
theorem i261_42 : mm_cd 261 42 = some (.if_icmp .lt 11, 3, 0, 0) := rfl
theorem i261_45 : mm_cd 261 45 = some (.iload_n 1, 1, 0, 0) := rfl
theorem i261_46 : mm_cd 261 46 = some (.iconst 1, 1, 0, 0) := rfl
theorem i261_47 : mm_cd 261 47 = some (.iload_n 2, 1, 0, 0) := rfl
theorem i261_48 : mm_cd 261 48 = some (.ishl, 1, 0, 0) := rfl
theorem i261_49 : mm_cd 261 49 = some (.iconst (-1), 1, 0, 0) := rfl
theorem i261_50 : mm_cd 261 50 = some (.ixor, 1, 0, 0) := rfl
theorem i261_51 : mm_cd 261 51 = some (.iand, 1, 0, 0) := rfl
theorem i261_52 : mm_cd 261 52 = some (.istore_n 1, 1, 0, 0) := rfl
theorem i261_53 : mm_cd 261 53 = some (.iinc 3 1, 3, 0, 0) := rfl
theorem i261_56 : mm_cd 261 56 = some (.goto (-40), 3, 0, 0) := rfl
theorem i261_59 : mm_cd 261 59 = some (.iinc 2 1, 3, 0, 0) := rfl
theorem i261_62 : mm_cd 261 62 = some (.goto (-54), 3, 0, 0) := rfl
theorem i261_65 : mm_cd 261 65 = some (.iload_n 1, 1, 0, 0) := rfl
theorem i261_66 : mm_cd 261 66 = some (.ifCond .eq 27, 3, 0, 0) := rfl
theorem i261_69 : mm_cd 261 69 = some (.aload_n 0, 1, 0, 0) := rfl
theorem i261_70 : mm_cd 261 70 = some (.iload_n 1, 1, 0, 0) := rfl
theorem i261_71 : mm_cd 261 71 = some (.invokevirtual 316, 3, 0, 258) := rfl
theorem i261_74 : mm_cd 261 74 = some (.istore_n 2, 1, 0, 0) := rfl
theorem i261_75 : mm_cd 261 75 = some (.iload_n 1, 1, 0, 0) := rfl
theorem i261_76 : mm_cd 261 76 = some (.iconst 1, 1, 0, 0) := rfl
theorem i261_77 : mm_cd 261 77 = some (.iload_n 2, 1, 0, 0) := rfl
theorem i261_78 : mm_cd 261 78 = some (.ishl, 1, 0, 0) := rfl
theorem i261_79 : mm_cd 261 79 = some (.iconst (-1), 1, 0, 0) := rfl
theorem i261_80 : mm_cd 261 80 = some (.ixor, 1, 0, 0) := rfl
theorem i261_81 : mm_cd 261 81 = some (.iand, 1, 0, 0) := rfl
theorem i261_82 : mm_cd 261 82 = some (.istore_n 1, 1, 0, 0) := rfl
theorem i261_83 : mm_cd 261 83 = some (.aload_n 0, 1, 0, 0) := rfl
theorem i261_84 : mm_cd 261 84 = some (.iload_n 2, 1, 0, 0) := rfl
theorem i261_85 : mm_cd 261 85 = some (.bipush 6, 2, 0, 0) := rfl
theorem i261_87 : mm_cd 261 87 = some (.invokevirtual 310, 3, 0, 259) := rfl
theorem i261_90 : mm_cd 261 90 = some (.goto (-25), 3, 0, 0) := rfl
theorem i261_93 : mm_cd 261 93 = some (.aload_n 0, 1, 0, 0) := rfl
theorem i261_94 : mm_cd 261 94 = some (.iconst 2, 1, 0, 0) := rfl
theorem i261_95 : mm_cd 261 95 = some (.invokevirtual 313, 3, 0, 208) := rfl
theorem i261_98 : mm_cd 261 98 = some (.invokestatic 258, 3, 0, 343) := rfl
theorem i261_101 : mm_cd 261 101 = some (.aload_n 0, 1, 0, 0) := rfl
theorem i261_102 : mm_cd 261 102 = some (.getfield 13, 3, ((11 : Nat) : Int), 1) := rfl
theorem i261_105 : mm_cd 261 105 = some (.iconst 4, 1, 0, 0) := rfl
theorem i261_106 : mm_cd 261 106 = some (.iaload, 1, 0, 0) := rfl
theorem i261_107 : mm_cd 261 107 = some (.if_icmp .le 19, 3, 0, 0) := rfl
theorem i261_110 : mm_cd 261 110 = some (.aload_n 0, 1, 0, 0) := rfl
theorem i261_111 : mm_cd 261 111 = some (.aload_n 0, 1, 0, 0) := rfl
theorem i261_112 : mm_cd 261 112 = some (.aload_n 0, 1, 0, 0) := rfl
theorem i261_113 : mm_cd 261 113 = some (.iconst 2, 1, 0, 0) := rfl
theorem i261_114 : mm_cd 261 114 = some (.invokevirtual 313, 3, 0, 208) := rfl
theorem i261_117 : mm_cd 261 117 = some (.invokevirtual 316, 3, 0, 258) := rfl
theorem i261_120 : mm_cd 261 120 = some (.invokevirtual 319, 3, 0, 260) := rfl
theorem i261_123 : mm_cd 261 123 = some (.goto (-30), 3, 0, 0) := rfl
theorem i261_126 : mm_cd 261 126 = some (.return_, 1, 0, 0) := rfl
def q261_53 (k16 : Int32 → Int32 → Int32 → mS → Option mQ) (v1 : Int32) (v2 : Int32) (v3 : Int32) (s : mS) : Option mQ := bx (v3 + (1 : Int32)) fun x1 => k16 v1 v2 x1 s
theorem t261_53 {L : Nat} {xs : Nat → Int32} {d : Nat} {k16 : Int32 → Int32 → Int32 → mS → Option mQ} (hk16 : ∀ (v1 : Int32) (v2 : Int32) (v3 : Int32) (s : mS) (r : mQ), k16 v1 v2 v3 s = some r → Ev L xs d 261 16 [(0, .ref 512), (1, .int v1), (2, .int v2), (3, .int v3)] [] (hp s) (hr r)) (hd : 5 ≤ d) {v1 : Int32} {v2 : Int32} {v3 : Int32} {s : mS} {r : mQ} (h : q261_53 k16 v1 v2 v3 s = some r) : Ev L xs d 261 53 [(0, .ref 512), (1, .int v1), (2, .int v2), (3, .int v3)] [] (hp s) (hr r) := by
  unfold q261_53 at h
  refine Rd.iinc H261 i261_53 (Nat.le_of_ble_eq_true rfl) rfl kI_1 (lv2 := fun x1 => [(3, .int x1), (0, .ref 512), (1, .int v1), (2, .int v2)]) (fun _ => rfl) h (fun x1 h => ?_)
  refine Ev.goto H261 i261_56 (t := 16) (by decide) ?_
  exact Ev.sub (l := [(0, .ref 512), (1, .int v1), (2, .int v2), (3, .int x1)]) rfl rfl (mm_sub_c rfl (mm_sub_c rfl (mm_sub_c rfl (mm_sub_c rfl mm_sub_n)))) (hk16 _ _ _ _ _ h)
def q261_16 (k59 : Int32 → Int32 → mS → Option mQ) : Nat → Int32 → Int32 → Int32 → mS → Option mQ
  | 0, _, _, _, _ => none
  | n + 1, v1, v2, v3, s => if (8 : Int32) ≤ v3 then (k59 v1 v2 s) else (bN (q205 v3 s) fun x3 s2 => if x3 = 0 then (q261_53 (q261_16 k59 n) v1 v2 v3 s2) else (bN (q204 v2 (3 : Int32) s2) fun x5 s4 => bN (q204 v3 (2 : Int32) s4) fun x7 s6 => if x5 < x7 then (q261_53 (q261_16 k59 n) v1 v2 v3 s6) else (bx (v1 &&& ((shlI (1 : Int32) v2) ^^^ (-1 : Int32))) fun x8 => q261_53 (q261_16 k59 n) x8 v2 v3 s6)))
theorem t261_16 {L : Nat} {xs : Nat → Int32} {d : Nat} {k59 : Int32 → Int32 → mS → Option mQ} (hk59 : ∀ (v1 : Int32) (v2 : Int32) (s : mS) (r : mQ), k59 v1 v2 s = some r → Ev L xs d 261 59 [(0, .ref 512), (1, .int v1), (2, .int v2)] [] (hp s) (hr r)) (hd : 5 ≤ d) : ∀ (n : Nat) (v1 : Int32) (v2 : Int32) (v3 : Int32) (s : mS) (r : mQ), q261_16 k59 n v1 v2 v3 s = some r → Ev L xs d 261 16 [(0, .ref 512), (1, .int v1), (2, .int v2), (3, .int v3)] [] (hp s) (hr r) := by
  intro n
  induction n with
  | zero => intro v1 v2 v3 s r h; rw [q261_16] at h; cases h
  | succ n ih =>
    intro v1 v2 v3 s r h
    rw [q261_16] at h
    refine Ev.iload_n H261 i261_16 rfl ?_
    refine Ev.bipush H261 i261_17 kB_8 ?_
    refine Rd.ic_ge H261 i261_19 (t := 59) (by decide) h (fun hc h => ?_) (fun hc h => ?_)
    · exact Ev.sub (l := [(0, .ref 512), (1, .int v1), (2, .int v2)]) rfl rfl (mm_sub_c rfl (mm_sub_c rfl (mm_sub_c rfl mm_sub_n))) (hk59 _ _ _ _ h)
    · refine Ev.aload_n H261 i261_22 rfl ?_
      refine Ev.iload_n H261 i261_23 rfl ?_
      refine Rd.cV1vN H261 i261_24 cal205 ob11 (Nat.le_of_ble_eq_true rfl) (Nat.le_of_ble_eq_true rfl) (Nat.lt_of_lt_of_le (by decide) hd) (fun q hq => c205 hq) h (fun x3 s2 h => ?_)
      refine Rd.if_eq H261 i261_27 (t := 53) (by decide) h (fun hc h => ?_) (fun hc h => ?_)
      · exact Ev.sub (l := [(0, .ref 512), (1, .int v1), (2, .int v2), (3, .int v3)]) rfl rfl (mm_sub_c rfl (mm_sub_c rfl (mm_sub_c rfl (mm_sub_c rfl mm_sub_n)))) (t261_53 (k16 := (q261_16 k59 n)) (fun _ _ _ _ _ h => ih _ _ _ _ _ h) hd h)
      · refine Ev.aload_n H261 i261_30 rfl ?_
        refine Ev.iload_n H261 i261_31 rfl ?_
        refine Ev.iconst H261 i261_32 kI_3 ?_
        refine Rd.cV2vN H261 i261_33 cal204 ob11 (Nat.le_of_ble_eq_true rfl) (Nat.le_of_ble_eq_true rfl) (Nat.lt_of_lt_of_le (by decide) hd) (fun q hq => c204 hq) h (fun x5 s4 h => ?_)
        refine Ev.aload_n H261 i261_36 rfl ?_
        refine Ev.iload_n H261 i261_37 rfl ?_
        refine Ev.iconst H261 i261_38 kI_2 ?_
        refine Rd.cV2vN H261 i261_39 cal204 ob11 (Nat.le_of_ble_eq_true rfl) (Nat.le_of_ble_eq_true rfl) (Nat.lt_of_lt_of_le (by decide) hd) (fun q hq => c204 hq) h (fun x7 s6 h => ?_)
        refine Rd.ic_lt H261 i261_42 (t := 53) (by decide) h (fun hc h => ?_) (fun hc h => ?_)
        · exact Ev.sub (l := [(0, .ref 512), (1, .int v1), (2, .int v2), (3, .int v3)]) rfl rfl (mm_sub_c rfl (mm_sub_c rfl (mm_sub_c rfl (mm_sub_c rfl mm_sub_n)))) (t261_53 (k16 := (q261_16 k59 n)) (fun _ _ _ _ _ h => ih _ _ _ _ _ h) hd h)
        · refine Ev.iload_n H261 i261_45 rfl ?_
          refine Ev.iconst H261 i261_46 kI_1 ?_
          refine Ev.iload_n H261 i261_47 rfl ?_
          refine Rd.ishl H261 i261_48 ?_
          refine Ev.iconst H261 i261_49 kI_m1 ?_
          refine Ev.ixor H261 i261_50 ?_
          refine Ev.iand H261 i261_51 ?_
          refine Rd.istore_n H261 i261_52 (Nat.le_of_ble_eq_true rfl) (lv2 := fun x8 => [(1, .int x8), (0, .ref 512), (2, .int v2), (3, .int v3)]) (fun _ => rfl) h (fun x8 h => ?_)
          exact Ev.sub (l := [(0, .ref 512), (1, .int x8), (2, .int v2), (3, .int v3)]) rfl rfl (mm_sub_c rfl (mm_sub_c rfl (mm_sub_c rfl (mm_sub_c rfl mm_sub_n)))) (t261_53 (k16 := (q261_16 k59 n)) (fun _ _ _ _ _ h => ih _ _ _ _ _ h) hd h)
def q261_59 (k8 : Int32 → Int32 → mS → Option mQ) (v1 : Int32) (v2 : Int32) (s : mS) : Option mQ := bx (v2 + (1 : Int32)) fun x9 => k8 v1 x9 s
theorem t261_59 {L : Nat} {xs : Nat → Int32} {d : Nat} {k8 : Int32 → Int32 → mS → Option mQ} (hk8 : ∀ (v1 : Int32) (v2 : Int32) (s : mS) (r : mQ), k8 v1 v2 s = some r → Ev L xs d 261 8 [(0, .ref 512), (1, .int v1), (2, .int v2)] [] (hp s) (hr r)) (hd : 5 ≤ d) {v1 : Int32} {v2 : Int32} {s : mS} {r : mQ} (h : q261_59 k8 v1 v2 s = some r) : Ev L xs d 261 59 [(0, .ref 512), (1, .int v1), (2, .int v2)] [] (hp s) (hr r) := by
  unfold q261_59 at h
  refine Rd.iinc H261 i261_59 (Nat.le_of_ble_eq_true rfl) rfl kI_1 (lv2 := fun x9 => [(2, .int x9), (0, .ref 512), (1, .int v1)]) (fun _ => rfl) h (fun x9 h => ?_)
  refine Ev.goto H261 i261_62 (t := 8) (by decide) ?_
  exact Ev.sub (l := [(0, .ref 512), (1, .int v1), (2, .int x9)]) rfl rfl (mm_sub_c rfl (mm_sub_c rfl (mm_sub_c rfl mm_sub_n))) (hk8 _ _ _ _ h)
def q261_8 (k65 : Int32 → mS → Option mQ) : Nat → Int32 → Int32 → mS → Option mQ
  | 0, _, _, _ => none
  | n + 1, v1, v2, s => if (8 : Int32) ≤ v2 then (k65 v1 s) else (q261_16 (q261_59 (q261_8 k65 n)) 10000 v1 v2 (0 : Int32) s)
theorem t261_8 {L : Nat} {xs : Nat → Int32} {d : Nat} {k65 : Int32 → mS → Option mQ} (hk65 : ∀ (v1 : Int32) (s : mS) (r : mQ), k65 v1 s = some r → Ev L xs d 261 65 [(0, .ref 512), (1, .int v1)] [] (hp s) (hr r)) (hd : 5 ≤ d) : ∀ (n : Nat) (v1 : Int32) (v2 : Int32) (s : mS) (r : mQ), q261_8 k65 n v1 v2 s = some r → Ev L xs d 261 8 [(0, .ref 512), (1, .int v1), (2, .int v2)] [] (hp s) (hr r) := by
  intro n
  induction n with
  | zero => intro v1 v2 s r h; rw [q261_8] at h; cases h
  | succ n ih =>
    intro v1 v2 s r h
    rw [q261_8] at h
    refine Ev.iload_n H261 i261_8 rfl ?_
    refine Ev.bipush H261 i261_9 kB_8 ?_
    refine Rd.ic_ge H261 i261_11 (t := 65) (by decide) h (fun hc h => ?_) (fun hc h => ?_)
    · exact Ev.sub (l := [(0, .ref 512), (1, .int v1)]) rfl rfl (mm_sub_c rfl (mm_sub_c rfl mm_sub_n)) (hk65 _ _ _ h)
    · refine Ev.iconst H261 i261_14 kI_0 ?_
      refine Ev.istore_n H261 i261_15 (Nat.le_of_ble_eq_true rfl) (lv2 := [(3, .int (0 : Int32)), (0, .ref 512), (1, .int v1), (2, .int v2)]) rfl ?_
      exact Ev.sub (l := [(0, .ref 512), (1, .int v1), (2, .int v2), (3, .int (0 : Int32))]) rfl rfl (mm_sub_c rfl (mm_sub_c rfl (mm_sub_c rfl (mm_sub_c rfl mm_sub_n)))) (t261_16 (k59 := (q261_59 (q261_8 k65 n))) (fun _ _ _ _ h => t261_59 (k8 := (q261_8 k65 n)) (fun _ _ _ _ h => ih _ _ _ _ h) hd h) hd 10000 _ _ _ _ _ h)
def q261_65 (k93 : mS → Option mQ) : Nat → Int32 → mS → Option mQ
  | 0, _, _ => none
  | n + 1, v1, s => if v1 = 0 then (k93 s) else (bN (q258 v1 s) fun x11 s10 => bx (v1 &&& ((shlI (1 : Int32) x11) ^^^ (-1 : Int32))) fun x12 => bM (q259 x11 (6 : Int32) s10) fun s13 => q261_65 k93 n x12 s13)
theorem t261_65 {L : Nat} {xs : Nat → Int32} {d : Nat} {k93 : mS → Option mQ} (hk93 : ∀ (s : mS) (r : mQ), k93 s = some r → Ev L xs d 261 93 [(0, .ref 512)] [] (hp s) (hr r)) (hd : 5 ≤ d) : ∀ (n : Nat) (v1 : Int32) (s : mS) (r : mQ), q261_65 k93 n v1 s = some r → Ev L xs d 261 65 [(0, .ref 512), (1, .int v1)] [] (hp s) (hr r) := by
  intro n
  induction n with
  | zero => intro v1 s r h; rw [q261_65] at h; cases h
  | succ n ih =>
    intro v1 s r h
    rw [q261_65] at h
    refine Ev.iload_n H261 i261_65 rfl ?_
    refine Rd.if_eq H261 i261_66 (t := 93) (by decide) h (fun hc h => ?_) (fun hc h => ?_)
    · exact Ev.sub (l := [(0, .ref 512)]) rfl rfl (mm_sub_c rfl mm_sub_n) (hk93 _ _ h)
    · refine Ev.aload_n H261 i261_69 rfl ?_
      refine Ev.iload_n H261 i261_70 rfl ?_
      refine Rd.cV1vN H261 i261_71 cal258 ob11 (Nat.le_of_ble_eq_true rfl) (Nat.le_of_ble_eq_true rfl) (Nat.lt_of_lt_of_le (by decide) hd) (fun q hq => c258 hq) h (fun x11 s10 h => ?_)
      refine Ev.istore_n H261 i261_74 (Nat.le_of_ble_eq_true rfl) (lv2 := [(2, .int x11), (0, .ref 512), (1, .int v1)]) rfl ?_
      refine Ev.iload_n H261 i261_75 rfl ?_
      refine Ev.iconst H261 i261_76 kI_1 ?_
      refine Ev.iload_n H261 i261_77 rfl ?_
      refine Rd.ishl H261 i261_78 ?_
      refine Ev.iconst H261 i261_79 kI_m1 ?_
      refine Ev.ixor H261 i261_80 ?_
      refine Ev.iand H261 i261_81 ?_
      refine Rd.istore_n H261 i261_82 (Nat.le_of_ble_eq_true rfl) (lv2 := fun x12 => [(1, .int x12), (2, .int x11), (0, .ref 512)]) (fun _ => rfl) h (fun x12 h => ?_)
      refine Ev.aload_n H261 i261_83 rfl ?_
      refine Ev.iload_n H261 i261_84 rfl ?_
      refine Ev.bipush H261 i261_85 kB_6 ?_
      refine Rd.cV2uN H261 i261_87 cal259 ob11 (Nat.le_of_ble_eq_true rfl) (Nat.le_of_ble_eq_true rfl) (Nat.lt_of_lt_of_le (by decide) hd) (fun q hq => c259 hq) h (fun s13 h => ?_)
      refine Ev.goto H261 i261_90 (t := 65) (by decide) ?_
      exact Ev.sub (l := [(0, .ref 512), (1, .int x12)]) rfl rfl (mm_sub_c rfl (mm_sub_c rfl mm_sub_n)) (ih _ _ _ h)
def q261_93 : Nat → mS → Option mQ
  | 0, _ => none
  | n + 1, s => bN (q208 (2 : Int32) s) fun x15 s14 => bN (q343 x15 s14) fun x17 s16 => gA 2468 (4 : Int32) <| if x17 ≤ (s16.1 513 (4 : Int32).toNatClampNeg) then (ru s16) else (bN (q208 (2 : Int32) s16) fun x19 s18 => bN (q258 x19 s18) fun x21 s20 => bM (q260 x21 s20) fun s22 => q261_93 n s22)
theorem t261_93 {L : Nat} {xs : Nat → Int32} {d : Nat} (hd : 5 ≤ d) : ∀ (n : Nat) (s : mS) (r : mQ), q261_93 n s = some r → Ev L xs d 261 93 [(0, .ref 512)] [] (hp s) (hr r) := by
  intro n
  induction n with
  | zero => intro s r h; rw [q261_93] at h; cases h
  | succ n ih =>
    intro s r h
    rw [q261_93] at h
    refine Ev.aload_n H261 i261_93 rfl ?_
    refine Ev.iconst H261 i261_94 kI_2 ?_
    refine Rd.cV1vN H261 i261_95 cal208 ob11 (Nat.le_of_ble_eq_true rfl) (Nat.le_of_ble_eq_true rfl) (Nat.lt_of_lt_of_le (by decide) hd) (fun q hq => c208 hq) h (fun x15 s14 h => ?_)
    refine Rd.cS1vN H261 i261_98 cal343 (Nat.le_of_ble_eq_true rfl) (Nat.le_of_ble_eq_true rfl) (Nat.lt_of_lt_of_le (by decide) hd) (fun q hq => c343 hq) h (fun x17 s16 h => ?_)
    refine Ev.aload_n H261 i261_101 rfl ?_
    refine Rd.getR H261 i261_102 ob11 rfl ?_
    refine Ev.iconst H261 i261_105 kI_4 ?_
    refine Rd.iaload H261 i261_106 ar_513 h (fun h => ?_)
    refine Rd.ic_le H261 i261_107 (t := 126) (by decide) h (fun hc h => ?_) (fun hc h => ?_)
    · exact Rd.return_ H261 i261_126 rfl h
    · refine Ev.aload_n H261 i261_110 rfl ?_
      refine Ev.aload_n H261 i261_111 rfl ?_
      refine Ev.aload_n H261 i261_112 rfl ?_
      refine Ev.iconst H261 i261_113 kI_2 ?_
      refine Rd.cV1vN H261 i261_114 cal208 ob11 (Nat.le_of_ble_eq_true rfl) (Nat.le_of_ble_eq_true rfl) (Nat.lt_of_lt_of_le (by decide) hd) (fun q hq => c208 hq) h (fun x19 s18 h => ?_)
      refine Rd.cV1vN H261 i261_117 cal258 ob11 (Nat.le_of_ble_eq_true rfl) (Nat.le_of_ble_eq_true rfl) (Nat.lt_of_lt_of_le (by decide) hd) (fun q hq => c258 hq) h (fun x21 s20 h => ?_)
      refine Rd.cV1uN H261 i261_120 cal260 ob11 (Nat.le_of_ble_eq_true rfl) (Nat.le_of_ble_eq_true rfl) (Nat.lt_of_lt_of_le (by decide) hd) (fun q hq => c260 hq) h (fun s22 h => ?_)
      refine Ev.goto H261 i261_123 (t := 93) (by decide) ?_
      exact Ev.sub (l := [(0, .ref 512)]) rfl rfl (mm_sub_c rfl mm_sub_n) (ih _ _ h)
/-- SerialGateModel.isTidy()V -/
def q261 (s : mS) : Option mQ := bN (q208 (2 : Int32) s) fun x24 s23 => q261_8 (q261_65 (q261_93 10000) 10000) 10000 x24 (0 : Int32) s23
theorem c261 {L : Nat} {xs : Nat → Int32} {s : mS} {r : mQ} (h : q261 s = some r) : ∀ d, 5 ≤ d → Cl L xs d 261 [.ref 512] (hp s) (hr r) := by
  intro d hd
  show Ev L xs d 261 0 [(0, .ref 512)] [] (hp s) (hr r)
  unfold q261 at h
  refine Ev.aload_n H261 i261_0 rfl ?_
  refine Ev.iconst H261 i261_1 kI_2 ?_
  refine Rd.cV1vN H261 i261_2 cal208 ob11 (Nat.le_of_ble_eq_true rfl) (Nat.le_of_ble_eq_true rfl) (Nat.lt_of_lt_of_le (by decide) hd) (fun q hq => c208 hq) h (fun x24 s23 h => ?_)
  refine Ev.istore_n H261 i261_5 (Nat.le_of_ble_eq_true rfl) (lv2 := [(1, .int x24), (0, .ref 512)]) rfl ?_
  refine Ev.iconst H261 i261_6 kI_0 ?_
  refine Ev.istore_n H261 i261_7 (Nat.le_of_ble_eq_true rfl) (lv2 := [(2, .int (0 : Int32)), (1, .int x24), (0, .ref 512)]) rfl ?_
  exact Ev.sub (l := [(0, .ref 512), (1, .int x24), (2, .int (0 : Int32))]) rfl rfl (mm_sub_c rfl (mm_sub_c rfl (mm_sub_c rfl mm_sub_n))) (t261_8 (k65 := (q261_65 (q261_93 10000) 10000)) (fun _ _ _ h => t261_65 (k93 := (q261_93 10000)) (fun _ _ h => t261_93 hd 10000 _ _ h) hd 10000 _ _ _ h) hd 10000 _ _ _ _ h)
theorem i241_0 : mm_cd 241 0 = some (.iconst 0, 1, 0, 0) := rfl
theorem i241_1 : mm_cd 241 1 = some (.istore_n 1, 1, 0, 0) := rfl
theorem i241_2 : mm_cd 241 2 = some (.iload_n 1, 1, 0, 0) := rfl
theorem i241_3 : mm_cd 241 3 = some (.sipush 1619, 3, 0, 0) := rfl
theorem i241_6 : mm_cd 241 6 = some (.if_icmp .ge 21, 3, 0, 0) := rfl
theorem i241_9 : mm_cd 241 9 = some (.aload_n 0, 1, 0, 0) := rfl
theorem i241_10 : mm_cd 241 10 = some (.getfield 20, 3, ((11 : Nat) : Int), 3) := rfl
theorem i241_13 : mm_cd 241 13 = some (.iload_n 1, 1, 0, 0) := rfl
theorem i241_14 : mm_cd 241 14 = some (.aload_n 0, 1, 0, 0) := rfl
theorem i241_15 : mm_cd 241 15 = some (.getfield 13, 3, ((11 : Nat) : Int), 1) := rfl
theorem i241_18 : mm_cd 241 18 = some (.iload_n 1, 1, 0, 0) := rfl
theorem i241_19 : mm_cd 241 19 = some (.iaload, 1, 0, 0) := rfl
theorem i241_20 : mm_cd 241 20 = some (.iastore, 1, 0, 0) := rfl
theorem i241_21 : mm_cd 241 21 = some (.iinc 1 1, 3, 0, 0) := rfl
theorem i241_24 : mm_cd 241 24 = some (.goto (-22), 3, 0, 0) := rfl
theorem i241_27 : mm_cd 241 27 = some (.aload_n 0, 1, 0, 0) := rfl
theorem i241_28 : mm_cd 241 28 = some (.iconst 1, 1, 0, 0) := rfl
theorem i241_29 : mm_cd 241 29 = some (.invokevirtual 245, 3, 0, 240) := rfl
theorem i241_32 : mm_cd 241 32 = some (.istore_n 1, 1, 0, 0) := rfl
theorem i241_33 : mm_cd 241 33 = some (.aload_n 0, 1, 0, 0) := rfl
theorem i241_34 : mm_cd 241 34 = some (.iload_n 1, 1, 0, 0) := rfl
theorem i241_35 : mm_cd 241 35 = some (.ifCond .ge 10, 3, 0, 0) := rfl
theorem i241_38 : mm_cd 241 38 = some (.aload_n 0, 1, 0, 0) := rfl
theorem i241_39 : mm_cd 241 39 = some (.getfield 96, 3, ((11 : Nat) : Int), 12) := rfl
theorem i241_42 : mm_cd 241 42 = some (.goto 4, 3, 0, 0) := rfl
theorem i241_45 : mm_cd 241 45 = some (.iconst (-1), 1, 0, 0) := rfl
theorem i241_46 : mm_cd 241 46 = some (.putfield 33, 3, ((11 : Nat) : Int), 14) := rfl
theorem i241_49 : mm_cd 241 49 = some (.aload_n 0, 1, 0, 0) := rfl
theorem i241_50 : mm_cd 241 50 = some (.iload_n 1, 1, 0, 0) := rfl
theorem i241_51 : mm_cd 241 51 = some (.ifCond .ge 7, 3, 0, 0) := rfl
theorem i241_54 : mm_cd 241 54 = some (.iconst 1, 1, 0, 0) := rfl
theorem i241_55 : mm_cd 241 55 = some (.goto 4, 3, 0, 0) := rfl
theorem i241_58 : mm_cd 241 58 = some (.iconst 0, 1, 0, 0) := rfl
theorem i241_59 : mm_cd 241 59 = some (.iconst 1, 1, 0, 0) := rfl
theorem i241_60 : mm_cd 241 60 = some (.invokevirtual 249, 3, 0, 188) := rfl
theorem i241_63 : mm_cd 241 63 = some (.ifCond .ne 27, 3, 0, 0) := rfl
theorem i241_66 : mm_cd 241 66 = some (.aload_n 0, 1, 0, 0) := rfl
theorem i241_67 : mm_cd 241 67 = some (.aload_n 0, 1, 0, 0) := rfl
theorem i241_68 : mm_cd 241 68 = some (.getfield 13, 3, ((11 : Nat) : Int), 1) := rfl
theorem i241_71 : mm_cd 241 71 = some (.iconst 1, 1, 0, 0) := rfl
theorem i241_72 : mm_cd 241 72 = some (.iaload, 1, 0, 0) := rfl
theorem i241_73 : mm_cd 241 73 = some (.bipush 12, 2, 0, 0) := rfl
theorem i241_75 : mm_cd 241 75 = some (.if_icmp .ne 7, 3, 0, 0) := rfl
theorem i241_78 : mm_cd 241 78 = some (.iconst 1, 1, 0, 0) := rfl
theorem i241_79 : mm_cd 241 79 = some (.goto 4, 3, 0, 0) := rfl
theorem i241_82 : mm_cd 241 82 = some (.iconst 0, 1, 0, 0) := rfl
theorem i241_83 : mm_cd 241 83 = some (.iconst 2, 1, 0, 0) := rfl
theorem i241_84 : mm_cd 241 84 = some (.invokevirtual 249, 3, 0, 188) := rfl
theorem i241_87 : mm_cd 241 87 = some (.ifCond .eq 32, 3, 0, 0) := rfl
theorem i241_90 : mm_cd 241 90 = some (.iconst 0, 1, 0, 0) := rfl
theorem i241_91 : mm_cd 241 91 = some (.istore_n 2, 1, 0, 0) := rfl
theorem i241_92 : mm_cd 241 92 = some (.iload_n 2, 1, 0, 0) := rfl
theorem i241_93 : mm_cd 241 93 = some (.sipush 1619, 3, 0, 0) := rfl
theorem i241_96 : mm_cd 241 96 = some (.if_icmp .ge 21, 3, 0, 0) := rfl
theorem i241_99 : mm_cd 241 99 = some (.aload_n 0, 1, 0, 0) := rfl
theorem i241_100 : mm_cd 241 100 = some (.getfield 13, 3, ((11 : Nat) : Int), 1) := rfl
theorem i241_103 : mm_cd 241 103 = some (.iload_n 2, 1, 0, 0) := rfl
theorem i241_104 : mm_cd 241 104 = some (.aload_n 0, 1, 0, 0) := rfl
theorem i241_105 : mm_cd 241 105 = some (.getfield 20, 3, ((11 : Nat) : Int), 3) := rfl
theorem i241_108 : mm_cd 241 108 = some (.iload_n 2, 1, 0, 0) := rfl
theorem i241_109 : mm_cd 241 109 = some (.iaload, 1, 0, 0) := rfl
theorem i241_110 : mm_cd 241 110 = some (.iastore, 1, 0, 0) := rfl
theorem i241_111 : mm_cd 241 111 = some (.iinc 2 1, 3, 0, 0) := rfl
theorem i241_114 : mm_cd 241 114 = some (.goto (-22), 3, 0, 0) := rfl
theorem i241_117 : mm_cd 241 117 = some (.iconst 0, 1, 0, 0) := rfl
theorem i241_118 : mm_cd 241 118 = some (.ireturn, 1, 0, 0) := rfl
theorem i241_119 : mm_cd 241 119 = some (.aload_n 0, 1, 0, 0) := rfl
theorem i241_120 : mm_cd 241 120 = some (.getfield 13, 3, ((11 : Nat) : Int), 1) := rfl
theorem i241_123 : mm_cd 241 123 = some (.iconst 1, 1, 0, 0) := rfl
theorem i241_124 : mm_cd 241 124 = some (.dup2, 1, 0, 0) := rfl
theorem i241_125 : mm_cd 241 125 = some (.iaload, 1, 0, 0) := rfl
theorem i241_126 : mm_cd 241 126 = some (.iconst 1, 1, 0, 0) := rfl
theorem i241_127 : mm_cd 241 127 = some (.iadd, 1, 0, 0) := rfl
theorem i241_128 : mm_cd 241 128 = some (.iastore, 1, 0, 0) := rfl
theorem i241_129 : mm_cd 241 129 = some (.aload_n 0, 1, 0, 0) := rfl
theorem i241_130 : mm_cd 241 130 = some (.invokevirtual 252, 3, 0, 261) := rfl
theorem i241_133 : mm_cd 241 133 = some (.aload_n 0, 1, 0, 0) := rfl
theorem i241_134 : mm_cd 241 134 = some (.iconst 0, 1, 0, 0) := rfl
theorem i241_135 : mm_cd 241 135 = some (.putfield 56, 3, ((11 : Nat) : Int), 7) := rfl
theorem i241_138 : mm_cd 241 138 = some (.aload_n 0, 1, 0, 0) := rfl
theorem i241_139 : mm_cd 241 139 = some (.getfield 13, 3, ((11 : Nat) : Int), 1) := rfl
theorem i241_142 : mm_cd 241 142 = some (.iconst 1, 1, 0, 0) := rfl
theorem i241_143 : mm_cd 241 143 = some (.iaload, 1, 0, 0) := rfl
theorem i241_144 : mm_cd 241 144 = some (.ireturn, 1, 0, 0) := rfl
def q241_2 (k27 : mS → Option mQ) : Nat → Int32 → mS → Option mQ
  | 0, _, _ => none
  | n + 1, v1, s => if (1619 : Int32) ≤ v1 then (k27 s) else (gA 2468 v1 <| gA 1619 v1 <| sp (sI s 515 v1.toNatClampNeg (s.1 513 v1.toNatClampNeg)) fun s1 => bx (v1 + (1 : Int32)) fun x2 => q241_2 k27 n x2 s1)
theorem t241_2 {L : Nat} {xs : Nat → Int32} {d : Nat} {k27 : mS → Option mQ} (hk27 : ∀ (s : mS) (r : mQ), k27 s = some r → Ev L xs d 241 27 [(0, .ref 512)] [] (hp s) (hr r)) (hd : 38 ≤ d) : ∀ (n : Nat) (v1 : Int32) (s : mS) (r : mQ), q241_2 k27 n v1 s = some r → Ev L xs d 241 2 [(0, .ref 512), (1, .int v1)] [] (hp s) (hr r) := by
  intro n
  induction n with
  | zero => intro v1 s r h; rw [q241_2] at h; cases h
  | succ n ih =>
    intro v1 s r h
    rw [q241_2] at h
    refine Ev.iload_n H241 i241_2 rfl ?_
    refine Ev.sipush H241 i241_3 kS_1619 ?_
    refine Rd.ic_ge H241 i241_6 (t := 27) (by decide) h (fun hc h => ?_) (fun hc h => ?_)
    · exact Ev.sub (l := [(0, .ref 512)]) rfl rfl (mm_sub_c rfl mm_sub_n) (hk27 _ _ h)
    · refine Ev.aload_n H241 i241_9 rfl ?_
      refine Rd.getR H241 i241_10 ob11 rfl ?_
      refine Ev.iload_n H241 i241_13 rfl ?_
      refine Ev.aload_n H241 i241_14 rfl ?_
      refine Rd.getR H241 i241_15 ob11 rfl ?_
      refine Ev.iload_n H241 i241_18 rfl ?_
      refine Rd.iaload H241 i241_19 ar_513 h (fun h => ?_)
      refine Rd.iastore H241 i241_20 ar_515 h (fun s1 h => ?_)
      refine Rd.iinc H241 i241_21 (Nat.le_of_ble_eq_true rfl) rfl kI_1 (lv2 := fun x2 => [(1, .int x2), (0, .ref 512)]) (fun _ => rfl) h (fun x2 h => ?_)
      refine Ev.goto H241 i241_24 (t := 2) (by decide) ?_
      exact Ev.sub (l := [(0, .ref 512), (1, .int x2)]) rfl rfl (mm_sub_c rfl (mm_sub_c rfl mm_sub_n)) (ih _ _ _ h)
def q241_92 : Nat → Int32 → mS → Option mQ
  | 0, _, _ => none
  | n + 1, v2, s => if (1619 : Int32) ≤ v2 then (rv (0 : Int32) s) else (gA 1619 v2 <| gA 2468 v2 <| sp (sI s 513 v2.toNatClampNeg (s.1 515 v2.toNatClampNeg)) fun s3 => bx (v2 + (1 : Int32)) fun x4 => q241_92 n x4 s3)
theorem t241_92 {L : Nat} {xs : Nat → Int32} {d : Nat} (hd : 38 ≤ d) : ∀ (n : Nat) (v2 : Int32) (s : mS) (r : mQ), q241_92 n v2 s = some r → Ev L xs d 241 92 [(0, .ref 512), (2, .int v2)] [] (hp s) (hr r) := by
  intro n
  induction n with
  | zero => intro v2 s r h; rw [q241_92] at h; cases h
  | succ n ih =>
    intro v2 s r h
    rw [q241_92] at h
    refine Ev.iload_n H241 i241_92 rfl ?_
    refine Ev.sipush H241 i241_93 kS_1619 ?_
    refine Rd.ic_ge H241 i241_96 (t := 117) (by decide) h (fun hc h => ?_) (fun hc h => ?_)
    · refine Ev.iconst H241 i241_117 kI_0 ?_
      exact Rd.ireturn H241 i241_118 rfl h
    · refine Ev.aload_n H241 i241_99 rfl ?_
      refine Rd.getR H241 i241_100 ob11 rfl ?_
      refine Ev.iload_n H241 i241_103 rfl ?_
      refine Ev.aload_n H241 i241_104 rfl ?_
      refine Rd.getR H241 i241_105 ob11 rfl ?_
      refine Ev.iload_n H241 i241_108 rfl ?_
      refine Rd.iaload H241 i241_109 ar_515 h (fun h => ?_)
      refine Rd.iastore H241 i241_110 ar_513 h (fun s3 h => ?_)
      refine Rd.iinc H241 i241_111 (Nat.le_of_ble_eq_true rfl) rfl kI_1 (lv2 := fun x4 => [(2, .int x4), (0, .ref 512)]) (fun _ => rfl) h (fun x4 h => ?_)
      refine Ev.goto H241 i241_114 (t := 92) (by decide) ?_
      exact Ev.sub (l := [(0, .ref 512), (2, .int x4)]) rfl rfl (mm_sub_c rfl (mm_sub_c rfl mm_sub_n)) (ih _ _ _ h)
def q241_90 (s : mS) : Option mQ := q241_92 10000 (0 : Int32) s
theorem t241_90 {L : Nat} {xs : Nat → Int32} {d : Nat} (hd : 38 ≤ d) {s : mS} {r : mQ} (h : q241_90 s = some r) : Ev L xs d 241 90 [(0, .ref 512)] [] (hp s) (hr r) := by
  unfold q241_90 at h
  refine Ev.iconst H241 i241_90 kI_0 ?_
  refine Ev.istore_n H241 i241_91 (Nat.le_of_ble_eq_true rfl) (lv2 := [(2, .int (0 : Int32)), (0, .ref 512)]) rfl ?_
  exact Ev.sub (l := [(0, .ref 512), (2, .int (0 : Int32))]) rfl rfl (mm_sub_c rfl (mm_sub_c rfl mm_sub_n)) (t241_92 hd 10000 _ _ _ h)
def q241_83 (y1 : Int32) (s : mS) : Option mQ := bN (q188 y1 (2 : Int32) s) fun x6 s5 => if x6 = 0 then (gA 2468 (1 : Int32) <| gA 2468 (1 : Int32) <| sp (sI s5 513 (1 : Int32).toNatClampNeg ((s5.1 513 (1 : Int32).toNatClampNeg) + (1 : Int32))) fun s7 => bM (q261 s7) fun s8 => sp (sI s8 512 7 (0 : Int32)) fun s9 => gA 2468 (1 : Int32) <| rv (s9.1 513 (1 : Int32).toNatClampNeg) s9) else (q241_90 s5)
theorem t241_83 {L : Nat} {xs : Nat → Int32} {d : Nat} (hd : 38 ≤ d) {y1 : Int32} {s : mS} {r : mQ} (h : q241_83 y1 s = some r) : Ev L xs d 241 83 [(0, .ref 512)] [.int y1, .ref 512] (hp s) (hr r) := by
  unfold q241_83 at h
  refine Ev.iconst H241 i241_83 kI_2 ?_
  refine Rd.cV2vN H241 i241_84 cal188 ob11 (Nat.le_of_ble_eq_true rfl) (Nat.le_of_ble_eq_true rfl) (Nat.lt_of_lt_of_le (by decide) hd) (fun q hq => c188 hq) h (fun x6 s5 h => ?_)
  refine Rd.if_eq H241 i241_87 (t := 119) (by decide) h (fun hc h => ?_) (fun hc h => ?_)
  · refine Ev.aload_n H241 i241_119 rfl ?_
    refine Rd.getR H241 i241_120 ob11 rfl ?_
    refine Ev.iconst H241 i241_123 kI_1 ?_
    refine Ev.dup2 H241 i241_124 ⟨rfl, rfl⟩ ?_
    refine Rd.iaload H241 i241_125 ar_513 h (fun h => ?_)
    refine Ev.iconst H241 i241_126 kI_1 ?_
    refine Ev.iadd H241 i241_127 ?_
    refine Rd.iastore H241 i241_128 ar_513 h (fun s7 h => ?_)
    refine Ev.aload_n H241 i241_129 rfl ?_
    refine Rd.cV0uN H241 i241_130 cal261 ob11 (Nat.le_of_ble_eq_true rfl) (Nat.le_of_ble_eq_true rfl) (Nat.lt_of_lt_of_le (by decide) hd) (fun q hq => c261 hq) h (fun s8 h => ?_)
    refine Ev.aload_n H241 i241_133 rfl ?_
    refine Ev.iconst H241 i241_134 kI_0 ?_
    refine Rd.putI H241 i241_135 ob11 rfl ty11_7.1 ty11_7.2 h (fun s9 h => ?_)
    refine Ev.aload_n H241 i241_138 rfl ?_
    refine Rd.getR H241 i241_139 ob11 rfl ?_
    refine Ev.iconst H241 i241_142 kI_1 ?_
    refine Rd.iaload H241 i241_143 ar_513 h (fun h => ?_)
    exact Rd.ireturn H241 i241_144 rfl h
  · exact Ev.sub (l := [(0, .ref 512)]) rfl rfl (mm_sub_c rfl mm_sub_n) (t241_90 hd h)
def q241_59 (y1 : Int32) (s : mS) : Option mQ := bN (q188 y1 (1 : Int32) s) fun x11 s10 => if ¬ x11 = 0 then (q241_90 s10) else (gA 2468 (1 : Int32) <| if ¬ (s10.1 513 (1 : Int32).toNatClampNeg) = (12 : Int32) then (q241_83 (0 : Int32) s10) else (q241_83 (1 : Int32) s10))
theorem t241_59 {L : Nat} {xs : Nat → Int32} {d : Nat} (hd : 38 ≤ d) {y1 : Int32} {s : mS} {r : mQ} (h : q241_59 y1 s = some r) : Ev L xs d 241 59 [(0, .ref 512)] [.int y1, .ref 512] (hp s) (hr r) := by
  unfold q241_59 at h
  refine Ev.iconst H241 i241_59 kI_1 ?_
  refine Rd.cV2vN H241 i241_60 cal188 ob11 (Nat.le_of_ble_eq_true rfl) (Nat.le_of_ble_eq_true rfl) (Nat.lt_of_lt_of_le (by decide) hd) (fun q hq => c188 hq) h (fun x11 s10 h => ?_)
  refine Rd.if_ne H241 i241_63 (t := 90) (by decide) h (fun hc h => ?_) (fun hc h => ?_)
  · exact Ev.sub (l := [(0, .ref 512)]) rfl rfl (mm_sub_c rfl mm_sub_n) (t241_90 hd h)
  · refine Ev.aload_n H241 i241_66 rfl ?_
    refine Ev.aload_n H241 i241_67 rfl ?_
    refine Rd.getR H241 i241_68 ob11 rfl ?_
    refine Ev.iconst H241 i241_71 kI_1 ?_
    refine Rd.iaload H241 i241_72 ar_513 h (fun h => ?_)
    refine Ev.bipush H241 i241_73 kB_12 ?_
    refine Rd.ic_ne H241 i241_75 (t := 82) (by decide) h (fun hc h => ?_) (fun hc h => ?_)
    · refine Ev.iconst H241 i241_82 kI_0 ?_
      exact Ev.sub (l := [(0, .ref 512)]) rfl rfl (mm_sub_c rfl mm_sub_n) (t241_83 hd h)
    · refine Ev.iconst H241 i241_78 kI_1 ?_
      refine Ev.goto H241 i241_79 (t := 83) (by decide) ?_
      exact Ev.sub (l := [(0, .ref 512)]) rfl rfl (mm_sub_c rfl mm_sub_n) (t241_83 hd h)
def q241_46 (v1 : Int32) (y1 : Int32) (s : mS) : Option mQ := sp (sI s 512 14 y1) fun s12 => if 0 ≤ v1 then (q241_59 (0 : Int32) s12) else (q241_59 (1 : Int32) s12)
theorem t241_46 {L : Nat} {xs : Nat → Int32} {d : Nat} (hd : 38 ≤ d) {v1 : Int32} {y1 : Int32} {s : mS} {r : mQ} (h : q241_46 v1 y1 s = some r) : Ev L xs d 241 46 [(0, .ref 512), (1, .int v1)] [.int y1, .ref 512] (hp s) (hr r) := by
  unfold q241_46 at h
  refine Rd.putI H241 i241_46 ob11 rfl ty11_14.1 ty11_14.2 h (fun s12 h => ?_)
  refine Ev.aload_n H241 i241_49 rfl ?_
  refine Ev.iload_n H241 i241_50 rfl ?_
  refine Rd.if_ge H241 i241_51 (t := 58) (by decide) h (fun hc h => ?_) (fun hc h => ?_)
  · refine Ev.iconst H241 i241_58 kI_0 ?_
    exact Ev.sub (l := [(0, .ref 512)]) rfl rfl (mm_sub_c rfl mm_sub_n) (t241_59 hd h)
  · refine Ev.iconst H241 i241_54 kI_1 ?_
    refine Ev.goto H241 i241_55 (t := 59) (by decide) ?_
    exact Ev.sub (l := [(0, .ref 512)]) rfl rfl (mm_sub_c rfl mm_sub_n) (t241_59 hd h)
def q241_27 (s : mS) : Option mQ := bN (q240 (1 : Int32) s) fun x14 s13 => if 0 ≤ x14 then (q241_46 x14 (-1 : Int32) s13) else (q241_46 x14 (s13.1 512 12) s13)
theorem t241_27 {L : Nat} {xs : Nat → Int32} {d : Nat} (hd : 38 ≤ d) {s : mS} {r : mQ} (h : q241_27 s = some r) : Ev L xs d 241 27 [(0, .ref 512)] [] (hp s) (hr r) := by
  unfold q241_27 at h
  refine Ev.aload_n H241 i241_27 rfl ?_
  refine Ev.iconst H241 i241_28 kI_1 ?_
  refine Rd.cV1vN H241 i241_29 cal240 ob11 (Nat.le_of_ble_eq_true rfl) (Nat.le_of_ble_eq_true rfl) (Nat.lt_of_lt_of_le (by decide) hd) (fun q hq => c240 hq) h (fun x14 s13 h => ?_)
  refine Ev.istore_n H241 i241_32 (Nat.le_of_ble_eq_true rfl) (lv2 := [(1, .int x14), (0, .ref 512)]) rfl ?_
  refine Ev.aload_n H241 i241_33 rfl ?_
  refine Ev.iload_n H241 i241_34 rfl ?_
  refine Rd.if_ge H241 i241_35 (t := 45) (by decide) h (fun hc h => ?_) (fun hc h => ?_)
  · refine Ev.iconst H241 i241_45 kI_m1 ?_
    exact Ev.sub (l := [(0, .ref 512), (1, .int x14)]) rfl rfl (mm_sub_c rfl (mm_sub_c rfl mm_sub_n)) (t241_46 hd h)
  · refine Ev.aload_n H241 i241_38 rfl ?_
    refine Rd.getI H241 i241_39 ob11 rfl ?_
    refine Ev.goto H241 i241_42 (t := 46) (by decide) ?_
    exact Ev.sub (l := [(0, .ref 512), (1, .int x14)]) rfl rfl (mm_sub_c rfl (mm_sub_c rfl mm_sub_n)) (t241_46 hd h)
/-- SerialGateModel.store()I -/
def q241 (s : mS) : Option mQ := q241_2 (q241_27) 10000 (0 : Int32) s
theorem c241 {L : Nat} {xs : Nat → Int32} {s : mS} {r : mQ} (h : q241 s = some r) : ∀ d, 38 ≤ d → Cl L xs d 241 [.ref 512] (hp s) (hr r) := by
  intro d hd
  show Ev L xs d 241 0 [(0, .ref 512)] [] (hp s) (hr r)
  unfold q241 at h
  refine Ev.iconst H241 i241_0 kI_0 ?_
  refine Ev.istore_n H241 i241_1 (Nat.le_of_ble_eq_true rfl) (lv2 := [(1, .int (0 : Int32)), (0, .ref 512)]) rfl ?_
  exact Ev.sub (l := [(0, .ref 512), (1, .int (0 : Int32))]) rfl rfl (mm_sub_c rfl (mm_sub_c rfl mm_sub_n)) (t241_2 (k27 := (q241_27)) (fun _ _ h => t241_27 hd h) hd 10000 _ _ _ h)
theorem i242_0 : mm_cd 242 0 = some (.aload_n 0, 1, 0, 0) := rfl
theorem i242_1 : mm_cd 242 1 = some (.iconst 0, 1, 0, 0) := rfl
theorem i242_2 : mm_cd 242 2 = some (.invokevirtual 245, 3, 0, 240) := rfl
theorem i242_5 : mm_cd 242 5 = some (.istore_n 1, 1, 0, 0) := rfl
theorem i242_6 : mm_cd 242 6 = some (.aload_n 0, 1, 0, 0) := rfl
theorem i242_7 : mm_cd 242 7 = some (.iload_n 1, 1, 0, 0) := rfl
theorem i242_8 : mm_cd 242 8 = some (.ifCond .ge 10, 3, 0, 0) := rfl
theorem i242_11 : mm_cd 242 11 = some (.aload_n 0, 1, 0, 0) := rfl
theorem i242_12 : mm_cd 242 12 = some (.getfield 96, 3, ((11 : Nat) : Int), 12) := rfl
theorem i242_15 : mm_cd 242 15 = some (.goto 4, 3, 0, 0) := rfl
theorem i242_18 : mm_cd 242 18 = some (.iconst (-1), 1, 0, 0) := rfl
theorem i242_19 : mm_cd 242 19 = some (.putfield 33, 3, ((11 : Nat) : Int), 14) := rfl
theorem i242_22 : mm_cd 242 22 = some (.aload_n 0, 1, 0, 0) := rfl
theorem i242_23 : mm_cd 242 23 = some (.iload_n 1, 1, 0, 0) := rfl
theorem i242_24 : mm_cd 242 24 = some (.ifCond .ge 7, 3, 0, 0) := rfl
theorem i242_27 : mm_cd 242 27 = some (.iconst 1, 1, 0, 0) := rfl
theorem i242_28 : mm_cd 242 28 = some (.goto 4, 3, 0, 0) := rfl
theorem i242_31 : mm_cd 242 31 = some (.iconst 0, 1, 0, 0) := rfl
theorem i242_32 : mm_cd 242 32 = some (.iconst 1, 1, 0, 0) := rfl
theorem i242_33 : mm_cd 242 33 = some (.invokevirtual 249, 3, 0, 188) := rfl
theorem i242_36 : mm_cd 242 36 = some (.ifCond .eq 5, 3, 0, 0) := rfl
theorem i242_39 : mm_cd 242 39 = some (.iconst 0, 1, 0, 0) := rfl
theorem i242_40 : mm_cd 242 40 = some (.ireturn, 1, 0, 0) := rfl
theorem i242_41 : mm_cd 242 41 = some (.aload_n 0, 1, 0, 0) := rfl
theorem i242_42 : mm_cd 242 42 = some (.getfield 13, 3, ((11 : Nat) : Int), 1) := rfl
theorem i242_45 : mm_cd 242 45 = some (.sipush 1619, 3, 0, 0) := rfl
theorem i242_48 : mm_cd 242 48 = some (.iload_n 1, 1, 0, 0) := rfl
theorem i242_49 : mm_cd 242 49 = some (.iastore, 1, 0, 0) := rfl
theorem i242_50 : mm_cd 242 50 = some (.iconst 0, 1, 0, 0) := rfl
theorem i242_51 : mm_cd 242 51 = some (.istore_n 2, 1, 0, 0) := rfl
theorem i242_52 : mm_cd 242 52 = some (.iload_n 2, 1, 0, 0) := rfl
theorem i242_53 : mm_cd 242 53 = some (.sipush 849, 3, 0, 0) := rfl
theorem i242_56 : mm_cd 242 56 = some (.if_icmp .ge 29, 3, 0, 0) := rfl
theorem i242_59 : mm_cd 242 59 = some (.aload_n 0, 1, 0, 0) := rfl
theorem i242_60 : mm_cd 242 60 = some (.getfield 13, 3, ((11 : Nat) : Int), 1) := rfl
theorem i242_63 : mm_cd 242 63 = some (.sipush 770, 3, 0, 0) := rfl
theorem i242_66 : mm_cd 242 66 = some (.iload_n 2, 1, 0, 0) := rfl
theorem i242_67 : mm_cd 242 67 = some (.iadd, 1, 0, 0) := rfl
theorem i242_68 : mm_cd 242 68 = some (.aload_n 0, 1, 0, 0) := rfl
theorem i242_69 : mm_cd 242 69 = some (.getfield 13, 3, ((11 : Nat) : Int), 1) := rfl
theorem i242_72 : mm_cd 242 72 = some (.sipush 1619, 3, 0, 0) := rfl
theorem i242_75 : mm_cd 242 75 = some (.iload_n 2, 1, 0, 0) := rfl
theorem i242_76 : mm_cd 242 76 = some (.iadd, 1, 0, 0) := rfl
theorem i242_77 : mm_cd 242 77 = some (.iaload, 1, 0, 0) := rfl
theorem i242_78 : mm_cd 242 78 = some (.iastore, 1, 0, 0) := rfl
theorem i242_79 : mm_cd 242 79 = some (.iinc 2 1, 3, 0, 0) := rfl
theorem i242_82 : mm_cd 242 82 = some (.goto (-30), 3, 0, 0) := rfl
theorem i242_85 : mm_cd 242 85 = some (.aload_n 0, 1, 0, 0) := rfl
theorem i242_86 : mm_cd 242 86 = some (.getfield 13, 3, ((11 : Nat) : Int), 1) := rfl
theorem i242_89 : mm_cd 242 89 = some (.iconst 2, 1, 0, 0) := rfl
theorem i242_90 : mm_cd 242 90 = some (.iconst 1, 1, 0, 0) := rfl
theorem i242_91 : mm_cd 242 91 = some (.iastore, 1, 0, 0) := rfl
theorem i242_92 : mm_cd 242 92 = some (.aload_n 0, 1, 0, 0) := rfl
theorem i242_93 : mm_cd 242 93 = some (.iconst 0, 1, 0, 0) := rfl
theorem i242_94 : mm_cd 242 94 = some (.putfield 56, 3, ((11 : Nat) : Int), 7) := rfl
theorem i242_97 : mm_cd 242 97 = some (.iload_n 1, 1, 0, 0) := rfl
theorem i242_98 : mm_cd 242 98 = some (.ireturn, 1, 0, 0) := rfl
def q242_52 (k85 : Int32 → mS → Option mQ) : Nat → Int32 → Int32 → mS → Option mQ
  | 0, _, _, _ => none
  | n + 1, v1, v2, s => if (849 : Int32) ≤ v2 then (k85 v1 s) else (gA 2468 ((1619 : Int32) + v2) <| gA 2468 ((770 : Int32) + v2) <| sp (sI s 513 ((770 : Int32) + v2).toNatClampNeg (s.1 513 ((1619 : Int32) + v2).toNatClampNeg)) fun s1 => bx (v2 + (1 : Int32)) fun x2 => q242_52 k85 n v1 x2 s1)
theorem t242_52 {L : Nat} {xs : Nat → Int32} {d : Nat} {k85 : Int32 → mS → Option mQ} (hk85 : ∀ (v1 : Int32) (s : mS) (r : mQ), k85 v1 s = some r → Ev L xs d 242 85 [(0, .ref 512), (1, .int v1)] [] (hp s) (hr r)) (hd : 38 ≤ d) : ∀ (n : Nat) (v1 : Int32) (v2 : Int32) (s : mS) (r : mQ), q242_52 k85 n v1 v2 s = some r → Ev L xs d 242 52 [(0, .ref 512), (1, .int v1), (2, .int v2)] [] (hp s) (hr r) := by
  intro n
  induction n with
  | zero => intro v1 v2 s r h; rw [q242_52] at h; cases h
  | succ n ih =>
    intro v1 v2 s r h
    rw [q242_52] at h
    refine Ev.iload_n H242 i242_52 rfl ?_
    refine Ev.sipush H242 i242_53 kS_849 ?_
    refine Rd.ic_ge H242 i242_56 (t := 85) (by decide) h (fun hc h => ?_) (fun hc h => ?_)
    · exact Ev.sub (l := [(0, .ref 512), (1, .int v1)]) rfl rfl (mm_sub_c rfl (mm_sub_c rfl mm_sub_n)) (hk85 _ _ _ h)
    · refine Ev.aload_n H242 i242_59 rfl ?_
      refine Rd.getR H242 i242_60 ob11 rfl ?_
      refine Ev.sipush H242 i242_63 kS_770 ?_
      refine Ev.iload_n H242 i242_66 rfl ?_
      refine Ev.iadd H242 i242_67 ?_
      refine Ev.aload_n H242 i242_68 rfl ?_
      refine Rd.getR H242 i242_69 ob11 rfl ?_
      refine Ev.sipush H242 i242_72 kS_1619 ?_
      refine Ev.iload_n H242 i242_75 rfl ?_
      refine Ev.iadd H242 i242_76 ?_
      refine Rd.iaload H242 i242_77 ar_513 h (fun h => ?_)
      refine Rd.iastore H242 i242_78 ar_513 h (fun s1 h => ?_)
      refine Rd.iinc H242 i242_79 (Nat.le_of_ble_eq_true rfl) rfl kI_1 (lv2 := fun x2 => [(2, .int x2), (0, .ref 512), (1, .int v1)]) (fun _ => rfl) h (fun x2 h => ?_)
      refine Ev.goto H242 i242_82 (t := 52) (by decide) ?_
      exact Ev.sub (l := [(0, .ref 512), (1, .int v1), (2, .int x2)]) rfl rfl (mm_sub_c rfl (mm_sub_c rfl (mm_sub_c rfl mm_sub_n))) (ih _ _ _ _ h)
def q242_85 (v1 : Int32) (s : mS) : Option mQ := gA 2468 (2 : Int32) <| sp (sI s 513 (2 : Int32).toNatClampNeg (1 : Int32)) fun s3 => sp (sI s3 512 7 (0 : Int32)) fun s4 => rv v1 s4
theorem t242_85 {L : Nat} {xs : Nat → Int32} {d : Nat} (hd : 38 ≤ d) {v1 : Int32} {s : mS} {r : mQ} (h : q242_85 v1 s = some r) : Ev L xs d 242 85 [(0, .ref 512), (1, .int v1)] [] (hp s) (hr r) := by
  unfold q242_85 at h
  refine Ev.aload_n H242 i242_85 rfl ?_
  refine Rd.getR H242 i242_86 ob11 rfl ?_
  refine Ev.iconst H242 i242_89 kI_2 ?_
  refine Ev.iconst H242 i242_90 kI_1 ?_
  refine Rd.iastore H242 i242_91 ar_513 h (fun s3 h => ?_)
  refine Ev.aload_n H242 i242_92 rfl ?_
  refine Ev.iconst H242 i242_93 kI_0 ?_
  refine Rd.putI H242 i242_94 ob11 rfl ty11_7.1 ty11_7.2 h (fun s4 h => ?_)
  refine Ev.iload_n H242 i242_97 rfl ?_
  exact Rd.ireturn H242 i242_98 rfl h
def q242_32 (v1 : Int32) (y1 : Int32) (s : mS) : Option mQ := bN (q188 y1 (1 : Int32) s) fun x6 s5 => if x6 = 0 then (gA 2468 (1619 : Int32) <| sp (sI s5 513 (1619 : Int32).toNatClampNeg v1) fun s7 => q242_52 (q242_85) 10000 v1 (0 : Int32) s7) else (rv (0 : Int32) s5)
theorem t242_32 {L : Nat} {xs : Nat → Int32} {d : Nat} (hd : 38 ≤ d) {v1 : Int32} {y1 : Int32} {s : mS} {r : mQ} (h : q242_32 v1 y1 s = some r) : Ev L xs d 242 32 [(0, .ref 512), (1, .int v1)] [.int y1, .ref 512] (hp s) (hr r) := by
  unfold q242_32 at h
  refine Ev.iconst H242 i242_32 kI_1 ?_
  refine Rd.cV2vN H242 i242_33 cal188 ob11 (Nat.le_of_ble_eq_true rfl) (Nat.le_of_ble_eq_true rfl) (Nat.lt_of_lt_of_le (by decide) hd) (fun q hq => c188 hq) h (fun x6 s5 h => ?_)
  refine Rd.if_eq H242 i242_36 (t := 41) (by decide) h (fun hc h => ?_) (fun hc h => ?_)
  · refine Ev.aload_n H242 i242_41 rfl ?_
    refine Rd.getR H242 i242_42 ob11 rfl ?_
    refine Ev.sipush H242 i242_45 kS_1619 ?_
    refine Ev.iload_n H242 i242_48 rfl ?_
    refine Rd.iastore H242 i242_49 ar_513 h (fun s7 h => ?_)
    refine Ev.iconst H242 i242_50 kI_0 ?_
    refine Ev.istore_n H242 i242_51 (Nat.le_of_ble_eq_true rfl) (lv2 := [(2, .int (0 : Int32)), (0, .ref 512), (1, .int v1)]) rfl ?_
    exact Ev.sub (l := [(0, .ref 512), (1, .int v1), (2, .int (0 : Int32))]) rfl rfl (mm_sub_c rfl (mm_sub_c rfl (mm_sub_c rfl mm_sub_n))) (t242_52 (k85 := (q242_85)) (fun _ _ _ h => t242_85 hd h) hd 10000 _ _ _ _ h)
  · refine Ev.iconst H242 i242_39 kI_0 ?_
    exact Rd.ireturn H242 i242_40 rfl h
def q242_19 (v1 : Int32) (y1 : Int32) (s : mS) : Option mQ := sp (sI s 512 14 y1) fun s8 => if 0 ≤ v1 then (q242_32 v1 (0 : Int32) s8) else (q242_32 v1 (1 : Int32) s8)
theorem t242_19 {L : Nat} {xs : Nat → Int32} {d : Nat} (hd : 38 ≤ d) {v1 : Int32} {y1 : Int32} {s : mS} {r : mQ} (h : q242_19 v1 y1 s = some r) : Ev L xs d 242 19 [(0, .ref 512), (1, .int v1)] [.int y1, .ref 512] (hp s) (hr r) := by
  unfold q242_19 at h
  refine Rd.putI H242 i242_19 ob11 rfl ty11_14.1 ty11_14.2 h (fun s8 h => ?_)
  refine Ev.aload_n H242 i242_22 rfl ?_
  refine Ev.iload_n H242 i242_23 rfl ?_
  refine Rd.if_ge H242 i242_24 (t := 31) (by decide) h (fun hc h => ?_) (fun hc h => ?_)
  · refine Ev.iconst H242 i242_31 kI_0 ?_
    exact Ev.sub (l := [(0, .ref 512), (1, .int v1)]) rfl rfl (mm_sub_c rfl (mm_sub_c rfl mm_sub_n)) (t242_32 hd h)
  · refine Ev.iconst H242 i242_27 kI_1 ?_
    refine Ev.goto H242 i242_28 (t := 32) (by decide) ?_
    exact Ev.sub (l := [(0, .ref 512), (1, .int v1)]) rfl rfl (mm_sub_c rfl (mm_sub_c rfl mm_sub_n)) (t242_32 hd h)
/-- SerialGateModel.law()I -/
def q242 (s : mS) : Option mQ := bN (q240 (0 : Int32) s) fun x10 s9 => if 0 ≤ x10 then (q242_19 x10 (-1 : Int32) s9) else (q242_19 x10 (s9.1 512 12) s9)
theorem c242 {L : Nat} {xs : Nat → Int32} {s : mS} {r : mQ} (h : q242 s = some r) : ∀ d, 38 ≤ d → Cl L xs d 242 [.ref 512] (hp s) (hr r) := by
  intro d hd
  show Ev L xs d 242 0 [(0, .ref 512)] [] (hp s) (hr r)
  unfold q242 at h
  refine Ev.aload_n H242 i242_0 rfl ?_
  refine Ev.iconst H242 i242_1 kI_0 ?_
  refine Rd.cV1vN H242 i242_2 cal240 ob11 (Nat.le_of_ble_eq_true rfl) (Nat.le_of_ble_eq_true rfl) (Nat.lt_of_lt_of_le (by decide) hd) (fun q hq => c240 hq) h (fun x10 s9 h => ?_)
  refine Ev.istore_n H242 i242_5 (Nat.le_of_ble_eq_true rfl) (lv2 := [(1, .int x10), (0, .ref 512)]) rfl ?_
  refine Ev.aload_n H242 i242_6 rfl ?_
  refine Ev.iload_n H242 i242_7 rfl ?_
  refine Rd.if_ge H242 i242_8 (t := 18) (by decide) h (fun hc h => ?_) (fun hc h => ?_)
  · refine Ev.iconst H242 i242_18 kI_m1 ?_
    exact Ev.sub (l := [(0, .ref 512), (1, .int x10)]) rfl rfl (mm_sub_c rfl (mm_sub_c rfl mm_sub_n)) (t242_19 hd h)
  · refine Ev.aload_n H242 i242_11 rfl ?_
    refine Rd.getI H242 i242_12 ob11 rfl ?_
    refine Ev.goto H242 i242_15 (t := 19) (by decide) ?_
    exact Ev.sub (l := [(0, .ref 512), (1, .int x10)]) rfl rfl (mm_sub_c rfl (mm_sub_c rfl mm_sub_n)) (t242_19 hd h)
theorem i243_0 : mm_cd 243 0 = some (.aload_n 0, 1, 0, 0) := rfl
theorem i243_1 : mm_cd 243 1 = some (.iload_n 1, 1, 0, 0) := rfl
theorem i243_2 : mm_cd 243 2 = some (.invokevirtual 255, 3, 0, 211) := rfl
theorem i243_5 : mm_cd 243 5 = some (.ifCond .ne 13, 3, 0, 0) := rfl
theorem i243_8 : mm_cd 243 8 = some (.aload_n 0, 1, 0, 0) := rfl
theorem i243_9 : mm_cd 243 9 = some (.iload_n 1, 1, 0, 0) := rfl
theorem i243_10 : mm_cd 243 10 = some (.bipush 9, 2, 0, 0) := rfl
theorem i243_12 : mm_cd 243 12 = some (.invokevirtual 69, 3, 0, 204) := rfl
theorem i243_15 : mm_cd 243 15 = some (.ifCond .le 27, 3, 0, 0) := rfl
theorem i243_18 : mm_cd 243 18 = some (.aload_n 0, 1, 0, 0) := rfl
theorem i243_19 : mm_cd 243 19 = some (.iload_n 1, 1, 0, 0) := rfl
theorem i243_20 : mm_cd 243 20 = some (.bipush 7, 2, 0, 0) := rfl
theorem i243_22 : mm_cd 243 22 = some (.invokevirtual 69, 3, 0, 204) := rfl
theorem i243_25 : mm_cd 243 25 = some (.ifCond .ne 13, 3, 0, 0) := rfl
theorem i243_28 : mm_cd 243 28 = some (.aload_n 0, 1, 0, 0) := rfl
theorem i243_29 : mm_cd 243 29 = some (.iload_n 1, 1, 0, 0) := rfl
theorem i243_30 : mm_cd 243 30 = some (.bipush 8, 2, 0, 0) := rfl
theorem i243_32 : mm_cd 243 32 = some (.invokevirtual 69, 3, 0, 204) := rfl
theorem i243_35 : mm_cd 243 35 = some (.ifCond .le 7, 3, 0, 0) := rfl
theorem i243_38 : mm_cd 243 38 = some (.iconst 1, 1, 0, 0) := rfl
theorem i243_39 : mm_cd 243 39 = some (.goto 4, 3, 0, 0) := rfl
theorem i243_42 : mm_cd 243 42 = some (.iconst 0, 1, 0, 0) := rfl
theorem i243_43 : mm_cd 243 43 = some (.ireturn, 1, 0, 0) := rfl
def q243_38 (s : mS) : Option mQ := rv (1 : Int32) s
theorem t243_38 {L : Nat} {xs : Nat → Int32} {d : Nat} (hd : 3 ≤ d) {s : mS} {r : mQ} (h : q243_38 s = some r) : Ev L xs d 243 38 [] [] (hp s) (hr r) := by
  unfold q243_38 at h
  refine Ev.iconst H243 i243_38 kI_1 ?_
  refine Ev.goto H243 i243_39 (t := 43) (by decide) ?_
  exact Rd.ireturnK H243 i243_43 rfl (Or.inr rfl) h
def q243_18 (v1 : Int32) (s : mS) : Option mQ := bN (q204 v1 (7 : Int32) s) fun x2 s1 => if ¬ x2 = 0 then (q243_38 s1) else (bN (q204 v1 (8 : Int32) s1) fun x4 s3 => if x4 ≤ 0 then (rv (0 : Int32) s3) else (q243_38 s3))
theorem t243_18 {L : Nat} {xs : Nat → Int32} {d : Nat} (hd : 3 ≤ d) {v1 : Int32} {s : mS} {r : mQ} (h : q243_18 v1 s = some r) : Ev L xs d 243 18 [(0, .ref 512), (1, .int v1)] [] (hp s) (hr r) := by
  unfold q243_18 at h
  refine Ev.aload_n H243 i243_18 rfl ?_
  refine Ev.iload_n H243 i243_19 rfl ?_
  refine Ev.bipush H243 i243_20 kB_7 ?_
  refine Rd.cV2vN H243 i243_22 cal204 ob11 (Nat.le_of_ble_eq_true rfl) (Nat.le_of_ble_eq_true rfl) (Nat.lt_of_lt_of_le (by decide) hd) (fun q hq => c204 hq) h (fun x2 s1 h => ?_)
  refine Rd.if_ne H243 i243_25 (t := 38) (by decide) h (fun hc h => ?_) (fun hc h => ?_)
  · exact Ev.sub (l := []) rfl rfl mm_sub_n (t243_38 hd h)
  · refine Ev.aload_n H243 i243_28 rfl ?_
    refine Ev.iload_n H243 i243_29 rfl ?_
    refine Ev.bipush H243 i243_30 kB_8 ?_
    refine Rd.cV2vN H243 i243_32 cal204 ob11 (Nat.le_of_ble_eq_true rfl) (Nat.le_of_ble_eq_true rfl) (Nat.lt_of_lt_of_le (by decide) hd) (fun q hq => c204 hq) h (fun x4 s3 h => ?_)
    refine Rd.if_le H243 i243_35 (t := 42) (by decide) h (fun hc h => ?_) (fun hc h => ?_)
    · refine Ev.iconst H243 i243_42 kI_0 ?_
      exact Rd.ireturnK H243 i243_43 rfl (Or.inl rfl) h
    · exact Ev.sub (l := []) rfl rfl mm_sub_n (t243_38 hd h)
/-- SerialGateModel.isPivot(I)Z -/
def q243 (v1 : Int32) (s : mS) : Option mQ := bN (q211 v1 s) fun x6 s5 => if ¬ x6 = 0 then (q243_18 v1 s5) else (bN (q204 v1 (9 : Int32) s5) fun x8 s7 => if x8 ≤ 0 then (rv (0 : Int32) s7) else (q243_18 v1 s7))
theorem c243 {L : Nat} {xs : Nat → Int32} {v1 : Int32} {s : mS} {r : mQ} (h : q243 v1 s = some r) : ∀ d, 3 ≤ d → Cl L xs d 243 [.ref 512, .int v1] (hp s) (hr r) := by
  intro d hd
  show Ev L xs d 243 0 [(0, .ref 512), (1, .int v1)] [] (hp s) (hr r)
  unfold q243 at h
  refine Ev.aload_n H243 i243_0 rfl ?_
  refine Ev.iload_n H243 i243_1 rfl ?_
  refine Rd.cV1vN H243 i243_2 cal211 ob11 (Nat.le_of_ble_eq_true rfl) (Nat.le_of_ble_eq_true rfl) (Nat.lt_of_lt_of_le (by decide) hd) (fun q hq => c211 hq) h (fun x6 s5 h => ?_)
  refine Rd.if_ne H243 i243_5 (t := 18) (by decide) h (fun hc h => ?_) (fun hc h => ?_)
  · exact Ev.sub (l := [(0, .ref 512), (1, .int v1)]) rfl rfl (mm_sub_c rfl (mm_sub_c rfl mm_sub_n)) (t243_18 hd h)
  · refine Ev.aload_n H243 i243_8 rfl ?_
    refine Ev.iload_n H243 i243_9 rfl ?_
    refine Ev.bipush H243 i243_10 kB_9 ?_
    refine Rd.cV2vN H243 i243_12 cal204 ob11 (Nat.le_of_ble_eq_true rfl) (Nat.le_of_ble_eq_true rfl) (Nat.lt_of_lt_of_le (by decide) hd) (fun q hq => c204 hq) h (fun x8 s7 h => ?_)
    refine Rd.if_le H243 i243_15 (t := 42) (by decide) h (fun hc h => ?_) (fun hc h => ?_)
    · refine Ev.iconst H243 i243_42 kI_0 ?_
      exact Rd.ireturnK H243 i243_43 rfl (Or.inl rfl) h
    · exact Ev.sub (l := [(0, .ref 512), (1, .int v1)]) rfl rfl (mm_sub_c rfl (mm_sub_c rfl mm_sub_n)) (t243_18 hd h)
theorem i244_0 : mm_cd 244 0 = some (.aload_n 0, 1, 0, 0) := rfl
theorem i244_1 : mm_cd 244 1 = some (.iload_n 3, 1, 0, 0) := rfl
theorem i244_2 : mm_cd 244 2 = some (.iconst 1, 1, 0, 0) := rfl
theorem i244_3 : mm_cd 244 3 = some (.invokevirtual 69, 3, 0, 204) := rfl
theorem i244_6 : mm_cd 244 6 = some (.istore 4, 2, 0, 0) := rfl
theorem i244_8 : mm_cd 244 8 = some (.iload_n 1, 1, 0, 0) := rfl
theorem i244_9 : mm_cd 244 9 = some (.tableswitch 151 0 9 #[55, 57, 60, 74, 84, 95, 103, 113, 121, 135], 55, 0, 0) := rfl
theorem i244_64 : mm_cd 244 64 = some (.iload_n 3, 1, 0, 0) := rfl
theorem i244_65 : mm_cd 244 65 = some (.ireturn, 1, 0, 0) := rfl
theorem i244_66 : mm_cd 244 66 = some (.iload 4, 2, 0, 0) := rfl
theorem i244_68 : mm_cd 244 68 = some (.ireturn, 1, 0, 0) := rfl
theorem i244_69 : mm_cd 244 69 = some (.aload_n 0, 1, 0, 0) := rfl
theorem i244_70 : mm_cd 244 70 = some (.getfield 13, 3, ((11 : Nat) : Int), 1) := rfl
theorem i244_73 : mm_cd 244 73 = some (.iconst 3, 1, 0, 0) := rfl
theorem i244_74 : mm_cd 244 74 = some (.iaload, 1, 0, 0) := rfl
theorem i244_75 : mm_cd 244 75 = some (.aload_n 0, 1, 0, 0) := rfl
theorem i244_76 : mm_cd 244 76 = some (.iload_n 3, 1, 0, 0) := rfl
theorem i244_77 : mm_cd 244 77 = some (.iconst 2, 1, 0, 0) := rfl
theorem i244_78 : mm_cd 244 78 = some (.invokevirtual 69, 3, 0, 204) := rfl
theorem i244_81 : mm_cd 244 81 = some (.isub, 1, 0, 0) := rfl
theorem i244_82 : mm_cd 244 82 = some (.ireturn, 1, 0, 0) := rfl
theorem i244_83 : mm_cd 244 83 = some (.aload_n 0, 1, 0, 0) := rfl
theorem i244_84 : mm_cd 244 84 = some (.iload_n 3, 1, 0, 0) := rfl
theorem i244_85 : mm_cd 244 85 = some (.iconst 5, 1, 0, 0) := rfl
theorem i244_86 : mm_cd 244 86 = some (.invokevirtual 69, 3, 0, 204) := rfl
theorem i244_89 : mm_cd 244 89 = some (.invokestatic 258, 3, 0, 343) := rfl
theorem i244_92 : mm_cd 244 92 = some (.ireturn, 1, 0, 0) := rfl
theorem i244_93 : mm_cd 244 93 = some (.aload_n 0, 1, 0, 0) := rfl
theorem i244_94 : mm_cd 244 94 = some (.iload_n 3, 1, 0, 0) := rfl
theorem i244_95 : mm_cd 244 95 = some (.bipush 6, 2, 0, 0) := rfl
theorem i244_97 : mm_cd 244 97 = some (.invokevirtual 69, 3, 0, 204) := rfl
theorem i244_100 : mm_cd 244 100 = some (.invokestatic 258, 3, 0, 343) := rfl
theorem i244_103 : mm_cd 244 103 = some (.ireturn, 1, 0, 0) := rfl
theorem i244_104 : mm_cd 244 104 = some (.aload_n 0, 1, 0, 0) := rfl
theorem i244_105 : mm_cd 244 105 = some (.iload 4, 2, 0, 0) := rfl
theorem i244_107 : mm_cd 244 107 = some (.iconst 3, 1, 0, 0) := rfl
theorem i244_108 : mm_cd 244 108 = some (.invokevirtual 72, 3, 0, 202) := rfl
theorem i244_111 : mm_cd 244 111 = some (.ireturn, 1, 0, 0) := rfl
theorem i244_112 : mm_cd 244 112 = some (.aload_n 0, 1, 0, 0) := rfl
theorem i244_113 : mm_cd 244 113 = some (.getfield 13, 3, ((11 : Nat) : Int), 1) := rfl
theorem i244_116 : mm_cd 244 116 = some (.iconst 3, 1, 0, 0) := rfl
theorem i244_117 : mm_cd 244 117 = some (.iaload, 1, 0, 0) := rfl
theorem i244_118 : mm_cd 244 118 = some (.bipush 100, 2, 0, 0) := rfl
theorem i244_120 : mm_cd 244 120 = some (.irem, 1, 0, 0) := rfl
theorem i244_121 : mm_cd 244 121 = some (.ireturn, 1, 0, 0) := rfl
theorem i244_122 : mm_cd 244 122 = some (.aload_n 0, 1, 0, 0) := rfl
theorem i244_123 : mm_cd 244 123 = some (.iload 4, 2, 0, 0) := rfl
theorem i244_125 : mm_cd 244 125 = some (.iconst 2, 1, 0, 0) := rfl
theorem i244_126 : mm_cd 244 126 = some (.invokevirtual 72, 3, 0, 202) := rfl
theorem i244_129 : mm_cd 244 129 = some (.ireturn, 1, 0, 0) := rfl
theorem i244_130 : mm_cd 244 130 = some (.aload_n 0, 1, 0, 0) := rfl
theorem i244_131 : mm_cd 244 131 = some (.iload_n 3, 1, 0, 0) := rfl
theorem i244_132 : mm_cd 244 132 = some (.invokevirtual 263, 3, 0, 243) := rfl
theorem i244_135 : mm_cd 244 135 = some (.ifCond .eq 7, 3, 0, 0) := rfl
theorem i244_138 : mm_cd 244 138 = some (.iconst 1, 1, 0, 0) := rfl
theorem i244_139 : mm_cd 244 139 = some (.goto 4, 3, 0, 0) := rfl
theorem i244_142 : mm_cd 244 142 = some (.iconst 0, 1, 0, 0) := rfl
theorem i244_143 : mm_cd 244 143 = some (.ireturn, 1, 0, 0) := rfl
theorem i244_144 : mm_cd 244 144 = some (.aload_n 0, 1, 0, 0) := rfl
theorem i244_145 : mm_cd 244 145 = some (.iload 4, 2, 0, 0) := rfl
theorem i244_147 : mm_cd 244 147 = some (.iconst 3, 1, 0, 0) := rfl
theorem i244_148 : mm_cd 244 148 = some (.invokevirtual 72, 3, 0, 202) := rfl
theorem i244_151 : mm_cd 244 151 = some (.ifCond .le 7, 3, 0, 0) := rfl
theorem i244_154 : mm_cd 244 154 = some (.iconst 1, 1, 0, 0) := rfl
theorem i244_155 : mm_cd 244 155 = some (.goto 4, 3, 0, 0) := rfl
theorem i244_158 : mm_cd 244 158 = some (.iconst 0, 1, 0, 0) := rfl
theorem i244_159 : mm_cd 244 159 = some (.ireturn, 1, 0, 0) := rfl
theorem i244_160 : mm_cd 244 160 = some (.iload_n 2, 1, 0, 0) := rfl
theorem i244_161 : mm_cd 244 161 = some (.ireturn, 1, 0, 0) := rfl
/-- SerialGateModel.factOf(III)I -/
def q244 (v1 : Int32) (v2 : Int32) (v3 : Int32) (s : mS) : Option mQ := bN (q204 v3 (1 : Int32) s) fun x2 s1 => if v1 = (0 : Int32) then (rv v3 s1) else if v1 = (1 : Int32) then (rv x2 s1) else if v1 = (2 : Int32) then (gA 2468 (3 : Int32) <| bN (q204 v3 (2 : Int32) s1) fun x4 s3 => rv ((s1.1 513 (3 : Int32).toNatClampNeg) - x4) s3) else if v1 = (3 : Int32) then (bN (q204 v3 (5 : Int32) s1) fun x6 s5 => bN (q343 x6 s5) fun x8 s7 => rv x8 s7) else if v1 = (4 : Int32) then (bN (q204 v3 (6 : Int32) s1) fun x10 s9 => bN (q343 x10 s9) fun x12 s11 => rv x12 s11) else if v1 = (5 : Int32) then (bN (q202 x2 (3 : Int32) s1) fun x14 s13 => rv x14 s13) else if v1 = (6 : Int32) then (gA 2468 (3 : Int32) <| gZ (100 : Int32) <| rv (rmI (s1.1 513 (3 : Int32).toNatClampNeg) (100 : Int32)) s1) else if v1 = (7 : Int32) then (bN (q202 x2 (2 : Int32) s1) fun x16 s15 => rv x16 s15) else if v1 = (8 : Int32) then (bN (q243 v3 s1) fun x18 s17 => if x18 = 0 then (rv (0 : Int32) s17) else (rv (1 : Int32) s17)) else if v1 = (9 : Int32) then (bN (q202 x2 (3 : Int32) s1) fun x20 s19 => if x20 ≤ 0 then (rv (0 : Int32) s19) else (rv (1 : Int32) s19)) else (rv v2 s1)
theorem c244 {L : Nat} {xs : Nat → Int32} {v1 : Int32} {v2 : Int32} {v3 : Int32} {s : mS} {r : mQ} (h : q244 v1 v2 v3 s = some r) : ∀ d, 4 ≤ d → Cl L xs d 244 [.ref 512, .int v1, .int v2, .int v3] (hp s) (hr r) := by
  intro d hd
  show Ev L xs d 244 0 [(0, .ref 512), (1, .int v1), (2, .int v2), (3, .int v3)] [] (hp s) (hr r)
  unfold q244 at h
  refine Ev.aload_n H244 i244_0 rfl ?_
  refine Ev.iload_n H244 i244_1 rfl ?_
  refine Ev.iconst H244 i244_2 kI_1 ?_
  refine Rd.cV2vN H244 i244_3 cal204 ob11 (Nat.le_of_ble_eq_true rfl) (Nat.le_of_ble_eq_true rfl) (Nat.lt_of_lt_of_le (by decide) hd) (fun q hq => c204 hq) h (fun x2 s1 h => ?_)
  refine Ev.istore H244 i244_6 (Nat.le_of_ble_eq_true rfl) (lv2 := [(4, .int x2), (0, .ref 512), (1, .int v1), (2, .int v2), (3, .int v3)]) rfl ?_
  refine Ev.iload_n H244 i244_8 rfl ?_
  refine Rd.sw h (fun hc h => ?_) (fun hc0 h => ?_)
  · refine Rd.tsw H244 i244_9 (t := 64) (by rw [hc]; decide) ?_
    refine Ev.iload_n H244 i244_64 rfl ?_
    exact Rd.ireturn H244 i244_65 rfl h
  refine Rd.sw h (fun hc h => ?_) (fun hc1 h => ?_)
  · refine Rd.tsw H244 i244_9 (t := 66) (by rw [hc]; decide) ?_
    refine Ev.iload H244 i244_66 rfl ?_
    exact Rd.ireturn H244 i244_68 rfl h
  refine Rd.sw h (fun hc h => ?_) (fun hc2 h => ?_)
  · refine Rd.tsw H244 i244_9 (t := 69) (by rw [hc]; decide) ?_
    refine Ev.aload_n H244 i244_69 rfl ?_
    refine Rd.getR H244 i244_70 ob11 rfl ?_
    refine Ev.iconst H244 i244_73 kI_3 ?_
    refine Rd.iaload H244 i244_74 ar_513 h (fun h => ?_)
    refine Ev.aload_n H244 i244_75 rfl ?_
    refine Ev.iload_n H244 i244_76 rfl ?_
    refine Ev.iconst H244 i244_77 kI_2 ?_
    refine Rd.cV2vN H244 i244_78 cal204 ob11 (Nat.le_of_ble_eq_true rfl) (Nat.le_of_ble_eq_true rfl) (Nat.lt_of_lt_of_le (by decide) hd) (fun q hq => c204 hq) h (fun x4 s3 h => ?_)
    refine Ev.isub H244 i244_81 ?_
    exact Rd.ireturn H244 i244_82 rfl h
  refine Rd.sw h (fun hc h => ?_) (fun hc3 h => ?_)
  · refine Rd.tsw H244 i244_9 (t := 83) (by rw [hc]; decide) ?_
    refine Ev.aload_n H244 i244_83 rfl ?_
    refine Ev.iload_n H244 i244_84 rfl ?_
    refine Ev.iconst H244 i244_85 kI_5 ?_
    refine Rd.cV2vN H244 i244_86 cal204 ob11 (Nat.le_of_ble_eq_true rfl) (Nat.le_of_ble_eq_true rfl) (Nat.lt_of_lt_of_le (by decide) hd) (fun q hq => c204 hq) h (fun x6 s5 h => ?_)
    refine Rd.cS1vN H244 i244_89 cal343 (Nat.le_of_ble_eq_true rfl) (Nat.le_of_ble_eq_true rfl) (Nat.lt_of_lt_of_le (by decide) hd) (fun q hq => c343 hq) h (fun x8 s7 h => ?_)
    exact Rd.ireturn H244 i244_92 rfl h
  refine Rd.sw h (fun hc h => ?_) (fun hc4 h => ?_)
  · refine Rd.tsw H244 i244_9 (t := 93) (by rw [hc]; decide) ?_
    refine Ev.aload_n H244 i244_93 rfl ?_
    refine Ev.iload_n H244 i244_94 rfl ?_
    refine Ev.bipush H244 i244_95 kB_6 ?_
    refine Rd.cV2vN H244 i244_97 cal204 ob11 (Nat.le_of_ble_eq_true rfl) (Nat.le_of_ble_eq_true rfl) (Nat.lt_of_lt_of_le (by decide) hd) (fun q hq => c204 hq) h (fun x10 s9 h => ?_)
    refine Rd.cS1vN H244 i244_100 cal343 (Nat.le_of_ble_eq_true rfl) (Nat.le_of_ble_eq_true rfl) (Nat.lt_of_lt_of_le (by decide) hd) (fun q hq => c343 hq) h (fun x12 s11 h => ?_)
    exact Rd.ireturn H244 i244_103 rfl h
  refine Rd.sw h (fun hc h => ?_) (fun hc5 h => ?_)
  · refine Rd.tsw H244 i244_9 (t := 104) (by rw [hc]; decide) ?_
    refine Ev.aload_n H244 i244_104 rfl ?_
    refine Ev.iload H244 i244_105 rfl ?_
    refine Ev.iconst H244 i244_107 kI_3 ?_
    refine Rd.cV2vN H244 i244_108 cal202 ob11 (Nat.le_of_ble_eq_true rfl) (Nat.le_of_ble_eq_true rfl) (Nat.lt_of_lt_of_le (by decide) hd) (fun q hq => c202 hq) h (fun x14 s13 h => ?_)
    exact Rd.ireturn H244 i244_111 rfl h
  refine Rd.sw h (fun hc h => ?_) (fun hc6 h => ?_)
  · refine Rd.tsw H244 i244_9 (t := 112) (by rw [hc]; decide) ?_
    refine Ev.aload_n H244 i244_112 rfl ?_
    refine Rd.getR H244 i244_113 ob11 rfl ?_
    refine Ev.iconst H244 i244_116 kI_3 ?_
    refine Rd.iaload H244 i244_117 ar_513 h (fun h => ?_)
    refine Ev.bipush H244 i244_118 kB_100 ?_
    refine Rd.irem H244 i244_120 h (fun h => ?_)
    exact Rd.ireturn H244 i244_121 rfl h
  refine Rd.sw h (fun hc h => ?_) (fun hc7 h => ?_)
  · refine Rd.tsw H244 i244_9 (t := 122) (by rw [hc]; decide) ?_
    refine Ev.aload_n H244 i244_122 rfl ?_
    refine Ev.iload H244 i244_123 rfl ?_
    refine Ev.iconst H244 i244_125 kI_2 ?_
    refine Rd.cV2vN H244 i244_126 cal202 ob11 (Nat.le_of_ble_eq_true rfl) (Nat.le_of_ble_eq_true rfl) (Nat.lt_of_lt_of_le (by decide) hd) (fun q hq => c202 hq) h (fun x16 s15 h => ?_)
    exact Rd.ireturn H244 i244_129 rfl h
  refine Rd.sw h (fun hc h => ?_) (fun hc8 h => ?_)
  · refine Rd.tsw H244 i244_9 (t := 130) (by rw [hc]; decide) ?_
    refine Ev.aload_n H244 i244_130 rfl ?_
    refine Ev.iload_n H244 i244_131 rfl ?_
    refine Rd.cV1vN H244 i244_132 cal243 ob11 (Nat.le_of_ble_eq_true rfl) (Nat.le_of_ble_eq_true rfl) (Nat.lt_of_lt_of_le (by decide) hd) (fun q hq => c243 hq) h (fun x18 s17 h => ?_)
    refine Rd.if_eq H244 i244_135 (t := 142) (by decide) h (fun hc h => ?_) (fun hc h => ?_)
    · refine Ev.iconst H244 i244_142 kI_0 ?_
      exact Rd.ireturn H244 i244_143 rfl h
    · refine Ev.iconst H244 i244_138 kI_1 ?_
      refine Ev.goto H244 i244_139 (t := 143) (by decide) ?_
      exact Rd.ireturn H244 i244_143 rfl h
  refine Rd.sw h (fun hc h => ?_) (fun hc9 h => ?_)
  · refine Rd.tsw H244 i244_9 (t := 144) (by rw [hc]; decide) ?_
    refine Ev.aload_n H244 i244_144 rfl ?_
    refine Ev.iload H244 i244_145 rfl ?_
    refine Ev.iconst H244 i244_147 kI_3 ?_
    refine Rd.cV2vN H244 i244_148 cal202 ob11 (Nat.le_of_ble_eq_true rfl) (Nat.le_of_ble_eq_true rfl) (Nat.lt_of_lt_of_le (by decide) hd) (fun q hq => c202 hq) h (fun x20 s19 h => ?_)
    refine Rd.if_le H244 i244_151 (t := 158) (by decide) h (fun hc h => ?_) (fun hc h => ?_)
    · refine Ev.iconst H244 i244_158 kI_0 ?_
      exact Rd.ireturn H244 i244_159 rfl h
    · refine Ev.iconst H244 i244_154 kI_1 ?_
      refine Ev.goto H244 i244_155 (t := 159) (by decide) ?_
      exact Rd.ireturn H244 i244_159 rfl h
  have hsw : ∀ k : Nat, k < 10 → ¬ v1 = Int32.ofInt (0 + k) := fun k hk => match k, hk with
    | 0, _ => hc0
    | 1, _ => hc1
    | 2, _ => hc2
    | 3, _ => hc3
    | 4, _ => hc4
    | 5, _ => hc5
    | 6, _ => hc6
    | 7, _ => hc7
    | 8, _ => hc8
    | 9, _ => hc9
    | k + 10, hk => absurd hk (by omega)
  have hsq : v1.toInt < 0 ∨ 9 < v1.toInt := by have hq := mm_sw hsw; omega
  refine Rd.tsw H244 i244_9 (t := 160) (by rw [if_pos hsq]; decide) ?_
  refine Ev.iload_n H244 i244_160 rfl ?_
  exact Rd.ireturn H244 i244_161 rfl h
theorem i245_0 : mm_cd 245 0 = some (.iconst 0, 1, 0, 0) := rfl
theorem i245_1 : mm_cd 245 1 = some (.istore_n 3, 1, 0, 0) := rfl
theorem i245_2 : mm_cd 245 2 = some (.sipush 771, 3, 0, 0) := rfl
theorem i245_5 : mm_cd 245 5 = some (.iconst 4, 1, 0, 0) := rfl
theorem i245_6 : mm_cd 245 6 = some (.iload_n 1, 1, 0, 0) := rfl
theorem i245_7 : mm_cd 245 7 = some (.imul, 1, 0, 0) := rfl
theorem i245_8 : mm_cd 245 8 = some (.iadd, 1, 0, 0) := rfl
theorem i245_9 : mm_cd 245 9 = some (.istore 4, 2, 0, 0) := rfl
theorem i245_11 : mm_cd 245 11 = some (.aload_n 0, 1, 0, 0) := rfl
theorem i245_12 : mm_cd 245 12 = some (.getfield 13, 3, ((11 : Nat) : Int), 1) := rfl
theorem i245_15 : mm_cd 245 15 = some (.iload 4, 2, 0, 0) := rfl
theorem i245_17 : mm_cd 245 17 = some (.iconst 2, 1, 0, 0) := rfl
theorem i245_18 : mm_cd 245 18 = some (.iadd, 1, 0, 0) := rfl
theorem i245_19 : mm_cd 245 19 = some (.iaload, 1, 0, 0) := rfl
theorem i245_20 : mm_cd 245 20 = some (.istore 5, 2, 0, 0) := rfl
theorem i245_22 : mm_cd 245 22 = some (.iload 5, 2, 0, 0) := rfl
theorem i245_24 : mm_cd 245 24 = some (.aload_n 0, 1, 0, 0) := rfl
theorem i245_25 : mm_cd 245 25 = some (.getfield 13, 3, ((11 : Nat) : Int), 1) := rfl
theorem i245_28 : mm_cd 245 28 = some (.iload 4, 2, 0, 0) := rfl
theorem i245_30 : mm_cd 245 30 = some (.iconst 3, 1, 0, 0) := rfl
theorem i245_31 : mm_cd 245 31 = some (.iadd, 1, 0, 0) := rfl
theorem i245_32 : mm_cd 245 32 = some (.iaload, 1, 0, 0) := rfl
theorem i245_33 : mm_cd 245 33 = some (.if_icmp .ge 230, 3, 0, 0) := rfl
theorem i245_36 : mm_cd 245 36 = some (.aload_n 0, 1, 0, 0) := rfl
theorem i245_37 : mm_cd 245 37 = some (.getfield 13, 3, ((11 : Nat) : Int), 1) := rfl
theorem i245_40 : mm_cd 245 40 = some (.sipush 819, 3, 0, 0) := rfl
theorem i245_43 : mm_cd 245 43 = some (.iconst 2, 1, 0, 0) := rfl
theorem i245_44 : mm_cd 245 44 = some (.iload 5, 2, 0, 0) := rfl
theorem i245_46 : mm_cd 245 46 = some (.imul, 1, 0, 0) := rfl
theorem i245_47 : mm_cd 245 47 = some (.iadd, 1, 0, 0) := rfl
theorem i245_48 : mm_cd 245 48 = some (.iaload, 1, 0, 0) := rfl
theorem i245_49 : mm_cd 245 49 = some (.istore 6, 2, 0, 0) := rfl
theorem i245_51 : mm_cd 245 51 = some (.iload 6, 2, 0, 0) := rfl
theorem i245_53 : mm_cd 245 53 = some (.bipush 10, 2, 0, 0) := rfl
theorem i245_55 : mm_cd 245 55 = some (.if_icmp .gt 37, 3, 0, 0) := rfl
theorem i245_58 : mm_cd 245 58 = some (.aload_n 0, 1, 0, 0) := rfl
theorem i245_59 : mm_cd 245 59 = some (.getfield 39, 3, ((11 : Nat) : Int), 17) := rfl
theorem i245_62 : mm_cd 245 62 = some (.iload_n 3, 1, 0, 0) := rfl
theorem i245_63 : mm_cd 245 63 = some (.aload_n 0, 1, 0, 0) := rfl
theorem i245_64 : mm_cd 245 64 = some (.iload 6, 2, 0, 0) := rfl
theorem i245_66 : mm_cd 245 66 = some (.aload_n 0, 1, 0, 0) := rfl
theorem i245_67 : mm_cd 245 67 = some (.getfield 13, 3, ((11 : Nat) : Int), 1) := rfl
theorem i245_70 : mm_cd 245 70 = some (.sipush 819, 3, 0, 0) := rfl
theorem i245_73 : mm_cd 245 73 = some (.iconst 2, 1, 0, 0) := rfl
theorem i245_74 : mm_cd 245 74 = some (.iload 5, 2, 0, 0) := rfl
theorem i245_76 : mm_cd 245 76 = some (.imul, 1, 0, 0) := rfl
theorem i245_77 : mm_cd 245 77 = some (.iadd, 1, 0, 0) := rfl
theorem i245_78 : mm_cd 245 78 = some (.iconst 1, 1, 0, 0) := rfl
theorem i245_79 : mm_cd 245 79 = some (.iadd, 1, 0, 0) := rfl
theorem i245_80 : mm_cd 245 80 = some (.iaload, 1, 0, 0) := rfl
theorem i245_81 : mm_cd 245 81 = some (.iload_n 2, 1, 0, 0) := rfl
theorem i245_82 : mm_cd 245 82 = some (.invokevirtual 266, 3, 0, 244) := rfl
theorem i245_85 : mm_cd 245 85 = some (.iastore, 1, 0, 0) := rfl
theorem i245_86 : mm_cd 245 86 = some (.iinc 3 1, 3, 0, 0) := rfl
theorem i245_89 : mm_cd 245 89 = some (.goto 168, 3, 0, 0) := rfl
theorem i245_92 : mm_cd 245 92 = some (.iload 6, 2, 0, 0) := rfl
theorem i245_94 : mm_cd 245 94 = some (.bipush 14, 2, 0, 0) := rfl
theorem i245_96 : mm_cd 245 96 = some (.if_icmp .ne 24, 3, 0, 0) := rfl
theorem i245_99 : mm_cd 245 99 = some (.aload_n 0, 1, 0, 0) := rfl
theorem i245_100 : mm_cd 245 100 = some (.getfield 39, 3, ((11 : Nat) : Int), 17) := rfl
theorem i245_103 : mm_cd 245 103 = some (.iload_n 3, 1, 0, 0) := rfl
theorem i245_104 : mm_cd 245 104 = some (.iconst 1, 1, 0, 0) := rfl
theorem i245_105 : mm_cd 245 105 = some (.isub, 1, 0, 0) := rfl
theorem i245_106 : mm_cd 245 106 = some (.iconst 1, 1, 0, 0) := rfl
theorem i245_107 : mm_cd 245 107 = some (.aload_n 0, 1, 0, 0) := rfl
theorem i245_108 : mm_cd 245 108 = some (.getfield 39, 3, ((11 : Nat) : Int), 17) := rfl
theorem i245_111 : mm_cd 245 111 = some (.iload_n 3, 1, 0, 0) := rfl
theorem i245_112 : mm_cd 245 112 = some (.iconst 1, 1, 0, 0) := rfl
theorem i245_113 : mm_cd 245 113 = some (.isub, 1, 0, 0) := rfl
theorem i245_114 : mm_cd 245 114 = some (.iaload, 1, 0, 0) := rfl
theorem i245_115 : mm_cd 245 115 = some (.isub, 1, 0, 0) := rfl
theorem i245_116 : mm_cd 245 116 = some (.iastore, 1, 0, 0) := rfl
theorem i245_117 : mm_cd 245 117 = some (.goto 140, 3, 0, 0) := rfl
theorem i245_120 : mm_cd 245 120 = some (.iinc 3 (-1), 3, 0, 0) := rfl
theorem i245_123 : mm_cd 245 123 = some (.aload_n 0, 1, 0, 0) := rfl
theorem i245_124 : mm_cd 245 124 = some (.getfield 39, 3, ((11 : Nat) : Int), 17) := rfl
theorem i245_127 : mm_cd 245 127 = some (.iload_n 3, 1, 0, 0) := rfl
theorem i245_128 : mm_cd 245 128 = some (.iconst 1, 1, 0, 0) := rfl
theorem i245_129 : mm_cd 245 129 = some (.isub, 1, 0, 0) := rfl
theorem i245_130 : mm_cd 245 130 = some (.iaload, 1, 0, 0) := rfl
theorem i245_131 : mm_cd 245 131 = some (.istore 7, 2, 0, 0) := rfl
theorem i245_133 : mm_cd 245 133 = some (.aload_n 0, 1, 0, 0) := rfl
theorem i245_134 : mm_cd 245 134 = some (.getfield 39, 3, ((11 : Nat) : Int), 17) := rfl
theorem i245_137 : mm_cd 245 137 = some (.iload_n 3, 1, 0, 0) := rfl
theorem i245_138 : mm_cd 245 138 = some (.iaload, 1, 0, 0) := rfl
theorem i245_139 : mm_cd 245 139 = some (.istore 8, 2, 0, 0) := rfl
theorem i245_141 : mm_cd 245 141 = some (.iload 6, 2, 0, 0) := rfl
theorem i245_143 : mm_cd 245 143 = some (.bipush 12, 2, 0, 0) := rfl
theorem i245_145 : mm_cd 245 145 = some (.if_icmp .ne 18, 3, 0, 0) := rfl
theorem i245_148 : mm_cd 245 148 = some (.iload 7, 2, 0, 0) := rfl
theorem i245_150 : mm_cd 245 150 = some (.iload 8, 2, 0, 0) := rfl
theorem i245_152 : mm_cd 245 152 = some (.if_icmp .ge 7, 3, 0, 0) := rfl
theorem i245_155 : mm_cd 245 155 = some (.iconst 1, 1, 0, 0) := rfl
theorem i245_156 : mm_cd 245 156 = some (.goto 66, 3, 0, 0) := rfl
theorem i245_159 : mm_cd 245 159 = some (.iconst 0, 1, 0, 0) := rfl
theorem i245_160 : mm_cd 245 160 = some (.goto 62, 3, 0, 0) := rfl
theorem i245_163 : mm_cd 245 163 = some (.iload 6, 2, 0, 0) := rfl
theorem i245_165 : mm_cd 245 165 = some (.bipush 13, 2, 0, 0) := rfl
theorem i245_167 : mm_cd 245 167 = some (.if_icmp .ne 18, 3, 0, 0) := rfl
theorem i245_170 : mm_cd 245 170 = some (.iload 7, 2, 0, 0) := rfl
theorem i245_172 : mm_cd 245 172 = some (.iload 8, 2, 0, 0) := rfl
theorem i245_174 : mm_cd 245 174 = some (.if_icmp .le 7, 3, 0, 0) := rfl
theorem i245_177 : mm_cd 245 177 = some (.iconst 1, 1, 0, 0) := rfl
theorem i245_178 : mm_cd 245 178 = some (.goto 44, 3, 0, 0) := rfl
theorem i245_181 : mm_cd 245 181 = some (.iconst 0, 1, 0, 0) := rfl
theorem i245_182 : mm_cd 245 182 = some (.goto 40, 3, 0, 0) := rfl
theorem i245_185 : mm_cd 245 185 = some (.iload 6, 2, 0, 0) := rfl
theorem i245_187 : mm_cd 245 187 = some (.bipush 15, 2, 0, 0) := rfl
theorem i245_189 : mm_cd 245 189 = some (.if_icmp .ne 20, 3, 0, 0) := rfl
theorem i245_192 : mm_cd 245 192 = some (.iload 7, 2, 0, 0) := rfl
theorem i245_194 : mm_cd 245 194 = some (.iload 8, 2, 0, 0) := rfl
theorem i245_196 : mm_cd 245 196 = some (.iadd, 1, 0, 0) := rfl
theorem i245_197 : mm_cd 245 197 = some (.iconst 2, 1, 0, 0) := rfl
theorem i245_198 : mm_cd 245 198 = some (.if_icmp .ne 7, 3, 0, 0) := rfl
theorem i245_201 : mm_cd 245 201 = some (.iconst 1, 1, 0, 0) := rfl
theorem i245_202 : mm_cd 245 202 = some (.goto 20, 3, 0, 0) := rfl
theorem i245_205 : mm_cd 245 205 = some (.iconst 0, 1, 0, 0) := rfl
theorem i245_206 : mm_cd 245 206 = some (.goto 16, 3, 0, 0) := rfl
theorem i245_209 : mm_cd 245 209 = some (.iload 7, 2, 0, 0) := rfl
theorem i245_211 : mm_cd 245 211 = some (.iload 8, 2, 0, 0) := rfl
theorem i245_213 : mm_cd 245 213 = some (.iadd, 1, 0, 0) := rfl
theorem i245_214 : mm_cd 245 214 = some (.ifCond .le 7, 3, 0, 0) := rfl
theorem i245_217 : mm_cd 245 217 = some (.iconst 1, 1, 0, 0) := rfl
theorem i245_218 : mm_cd 245 218 = some (.goto 4, 3, 0, 0) := rfl
theorem i245_221 : mm_cd 245 221 = some (.iconst 0, 1, 0, 0) := rfl
theorem i245_222 : mm_cd 245 222 = some (.istore 9, 2, 0, 0) := rfl
theorem i245_224 : mm_cd 245 224 = some (.aload_n 0, 1, 0, 0) := rfl
theorem i245_225 : mm_cd 245 225 = some (.getfield 39, 3, ((11 : Nat) : Int), 17) := rfl
theorem i245_228 : mm_cd 245 228 = some (.iload_n 3, 1, 0, 0) := rfl
theorem i245_229 : mm_cd 245 229 = some (.iconst 1, 1, 0, 0) := rfl
theorem i245_230 : mm_cd 245 230 = some (.isub, 1, 0, 0) := rfl
theorem i245_231 : mm_cd 245 231 = some (.iload 6, 2, 0, 0) := rfl
theorem i245_233 : mm_cd 245 233 = some (.bipush 11, 2, 0, 0) := rfl
theorem i245_235 : mm_cd 245 235 = some (.if_icmp .ne 11, 3, 0, 0) := rfl
theorem i245_238 : mm_cd 245 238 = some (.iload 7, 2, 0, 0) := rfl
theorem i245_240 : mm_cd 245 240 = some (.iload 8, 2, 0, 0) := rfl
theorem i245_242 : mm_cd 245 242 = some (.iadd, 1, 0, 0) := rfl
theorem i245_243 : mm_cd 245 243 = some (.goto 13, 3, 0, 0) := rfl
theorem i245_246 : mm_cd 245 246 = some (.iload 9, 2, 0, 0) := rfl
theorem i245_248 : mm_cd 245 248 = some (.ifCond .eq 7, 3, 0, 0) := rfl
theorem i245_251 : mm_cd 245 251 = some (.iconst 1, 1, 0, 0) := rfl
theorem i245_252 : mm_cd 245 252 = some (.goto 4, 3, 0, 0) := rfl
theorem i245_255 : mm_cd 245 255 = some (.iconst 0, 1, 0, 0) := rfl
theorem i245_256 : mm_cd 245 256 = some (.iastore, 1, 0, 0) := rfl
theorem i245_257 : mm_cd 245 257 = some (.iinc 5 1, 3, 0, 0) := rfl
theorem i245_260 : mm_cd 245 260 = some (.goto (-238), 3, 0, 0) := rfl
theorem i245_263 : mm_cd 245 263 = some (.iload_n 3, 1, 0, 0) := rfl
theorem i245_264 : mm_cd 245 264 = some (.ifCond .eq 13, 3, 0, 0) := rfl
theorem i245_267 : mm_cd 245 267 = some (.aload_n 0, 1, 0, 0) := rfl
theorem i245_268 : mm_cd 245 268 = some (.getfield 39, 3, ((11 : Nat) : Int), 17) := rfl
theorem i245_271 : mm_cd 245 271 = some (.iconst 0, 1, 0, 0) := rfl
theorem i245_272 : mm_cd 245 272 = some (.iaload, 1, 0, 0) := rfl
theorem i245_273 : mm_cd 245 273 = some (.iconst 1, 1, 0, 0) := rfl
theorem i245_274 : mm_cd 245 274 = some (.if_icmp .ne 7, 3, 0, 0) := rfl
theorem i245_277 : mm_cd 245 277 = some (.iconst 1, 1, 0, 0) := rfl
theorem i245_278 : mm_cd 245 278 = some (.goto 4, 3, 0, 0) := rfl
theorem i245_281 : mm_cd 245 281 = some (.iconst 0, 1, 0, 0) := rfl
theorem i245_282 : mm_cd 245 282 = some (.ireturn, 1, 0, 0) := rfl
def q245_257 (k22 : Int32 → Int32 → Int32 → Int32 → mS → Option mQ) (v2 : Int32) (v3 : Int32) (v4 : Int32) (v5 : Int32) (s : mS) : Option mQ := bx (v5 + (1 : Int32)) fun x1 => k22 v2 v3 v4 x1 s
theorem t245_257 {L : Nat} {xs : Nat → Int32} {d : Nat} {k22 : Int32 → Int32 → Int32 → Int32 → mS → Option mQ} (hk22 : ∀ (v2 : Int32) (v3 : Int32) (v4 : Int32) (v5 : Int32) (s : mS) (r : mQ), k22 v2 v3 v4 v5 s = some r → Ev L xs d 245 22 [(0, .ref 512), (2, .int v2), (3, .int v3), (4, .int v4), (5, .int v5)] [] (hp s) (hr r)) (hd : 5 ≤ d) {v2 : Int32} {v3 : Int32} {v4 : Int32} {v5 : Int32} {s : mS} {r : mQ} (h : q245_257 k22 v2 v3 v4 v5 s = some r) : Ev L xs d 245 257 [(0, .ref 512), (2, .int v2), (3, .int v3), (4, .int v4), (5, .int v5)] [] (hp s) (hr r) := by
  unfold q245_257 at h
  refine Rd.iinc H245 i245_257 (Nat.le_of_ble_eq_true rfl) rfl kI_1 (lv2 := fun x1 => [(5, .int x1), (0, .ref 512), (2, .int v2), (3, .int v3), (4, .int v4)]) (fun _ => rfl) h (fun x1 h => ?_)
  refine Ev.goto H245 i245_260 (t := 22) (by decide) ?_
  exact Ev.sub (l := [(0, .ref 512), (2, .int v2), (3, .int v3), (4, .int v4), (5, .int x1)]) rfl rfl (mm_sub_c rfl (mm_sub_c rfl (mm_sub_c rfl (mm_sub_c rfl (mm_sub_c rfl mm_sub_n))))) (hk22 _ _ _ _ _ _ h)
def q245_256 (k22 : Int32 → Int32 → Int32 → Int32 → mS → Option mQ) (v2 : Int32) (v3 : Int32) (v4 : Int32) (v5 : Int32) (y1 : Int32) (y2 : Int32) (s : mS) : Option mQ := gA 400 y1 <| sp (sI s 520 y1.toNatClampNeg y2) fun s2 => q245_257 k22 v2 v3 v4 v5 s2
theorem t245_256 {L : Nat} {xs : Nat → Int32} {d : Nat} {k22 : Int32 → Int32 → Int32 → Int32 → mS → Option mQ} (hk22 : ∀ (v2 : Int32) (v3 : Int32) (v4 : Int32) (v5 : Int32) (s : mS) (r : mQ), k22 v2 v3 v4 v5 s = some r → Ev L xs d 245 22 [(0, .ref 512), (2, .int v2), (3, .int v3), (4, .int v4), (5, .int v5)] [] (hp s) (hr r)) (hd : 5 ≤ d) {v2 : Int32} {v3 : Int32} {v4 : Int32} {v5 : Int32} {y1 : Int32} {y2 : Int32} {s : mS} {r : mQ} (h : q245_256 k22 v2 v3 v4 v5 y1 y2 s = some r) : Ev L xs d 245 256 [(0, .ref 512), (2, .int v2), (3, .int v3), (4, .int v4), (5, .int v5)] [.int y2, .int y1, .ref 520] (hp s) (hr r) := by
  unfold q245_256 at h
  refine Rd.iastore H245 i245_256 ar_520 h (fun s2 h => ?_)
  exact Ev.sub (l := [(0, .ref 512), (2, .int v2), (3, .int v3), (4, .int v4), (5, .int v5)]) rfl rfl (mm_sub_c rfl (mm_sub_c rfl (mm_sub_c rfl (mm_sub_c rfl (mm_sub_c rfl mm_sub_n))))) (t245_257 (k22 := k22) hk22 hd h)
def q245_222 (k22 : Int32 → Int32 → Int32 → Int32 → mS → Option mQ) (v2 : Int32) (v3 : Int32) (v4 : Int32) (v5 : Int32) (v6 : Int32) (v7 : Int32) (v8 : Int32) (y0 : Int32) (s : mS) : Option mQ := if ¬ v6 = (11 : Int32) then (if y0 = 0 then (q245_256 k22 v2 v3 v4 v5 (v3 - (1 : Int32)) (0 : Int32) s) else (q245_256 k22 v2 v3 v4 v5 (v3 - (1 : Int32)) (1 : Int32) s)) else (q245_256 k22 v2 v3 v4 v5 (v3 - (1 : Int32)) (v7 + v8) s)
theorem t245_222 {L : Nat} {xs : Nat → Int32} {d : Nat} {k22 : Int32 → Int32 → Int32 → Int32 → mS → Option mQ} (hk22 : ∀ (v2 : Int32) (v3 : Int32) (v4 : Int32) (v5 : Int32) (s : mS) (r : mQ), k22 v2 v3 v4 v5 s = some r → Ev L xs d 245 22 [(0, .ref 512), (2, .int v2), (3, .int v3), (4, .int v4), (5, .int v5)] [] (hp s) (hr r)) (hd : 5 ≤ d) {v2 : Int32} {v3 : Int32} {v4 : Int32} {v5 : Int32} {v6 : Int32} {v7 : Int32} {v8 : Int32} {y0 : Int32} {s : mS} {r : mQ} (h : q245_222 k22 v2 v3 v4 v5 v6 v7 v8 y0 s = some r) : Ev L xs d 245 222 [(0, .ref 512), (2, .int v2), (3, .int v3), (4, .int v4), (5, .int v5), (6, .int v6), (7, .int v7), (8, .int v8)] [.int y0] (hp s) (hr r) := by
  unfold q245_222 at h
  refine Ev.istore H245 i245_222 (Nat.le_of_ble_eq_true rfl) (lv2 := [(9, .int y0), (0, .ref 512), (2, .int v2), (3, .int v3), (4, .int v4), (5, .int v5), (6, .int v6), (7, .int v7), (8, .int v8)]) rfl ?_
  refine Ev.aload_n H245 i245_224 rfl ?_
  refine Rd.getR H245 i245_225 ob11 rfl ?_
  refine Ev.iload_n H245 i245_228 rfl ?_
  refine Ev.iconst H245 i245_229 kI_1 ?_
  refine Ev.isub H245 i245_230 ?_
  refine Ev.iload H245 i245_231 rfl ?_
  refine Ev.bipush H245 i245_233 kB_11 ?_
  refine Rd.ic_ne H245 i245_235 (t := 246) (by decide) h (fun hc h => ?_) (fun hc h => ?_)
  · refine Ev.iload H245 i245_246 rfl ?_
    refine Rd.if_eq H245 i245_248 (t := 255) (by decide) h (fun hc h => ?_) (fun hc h => ?_)
    · refine Ev.iconst H245 i245_255 kI_0 ?_
      exact Ev.sub (l := [(0, .ref 512), (2, .int v2), (3, .int v3), (4, .int v4), (5, .int v5)]) rfl rfl (mm_sub_c rfl (mm_sub_c rfl (mm_sub_c rfl (mm_sub_c rfl (mm_sub_c rfl mm_sub_n))))) (t245_256 (k22 := k22) hk22 hd h)
    · refine Ev.iconst H245 i245_251 kI_1 ?_
      refine Ev.goto H245 i245_252 (t := 256) (by decide) ?_
      exact Ev.sub (l := [(0, .ref 512), (2, .int v2), (3, .int v3), (4, .int v4), (5, .int v5)]) rfl rfl (mm_sub_c rfl (mm_sub_c rfl (mm_sub_c rfl (mm_sub_c rfl (mm_sub_c rfl mm_sub_n))))) (t245_256 (k22 := k22) hk22 hd h)
  · refine Ev.iload H245 i245_238 rfl ?_
    refine Ev.iload H245 i245_240 rfl ?_
    refine Ev.iadd H245 i245_242 ?_
    refine Ev.goto H245 i245_243 (t := 256) (by decide) ?_
    exact Ev.sub (l := [(0, .ref 512), (2, .int v2), (3, .int v3), (4, .int v4), (5, .int v5)]) rfl rfl (mm_sub_c rfl (mm_sub_c rfl (mm_sub_c rfl (mm_sub_c rfl (mm_sub_c rfl mm_sub_n))))) (t245_256 (k22 := k22) hk22 hd h)
def q245_22 (k263 : Int32 → mS → Option mQ) : Nat → Int32 → Int32 → Int32 → Int32 → mS → Option mQ
  | 0, _, _, _, _, _ => none
  | n + 1, v2, v3, v4, v5, s => gA 2468 (v4 + (3 : Int32)) <| if (s.1 513 (v4 + (3 : Int32)).toNatClampNeg) ≤ v5 then (k263 v3 s) else (gA 2468 ((819 : Int32) + ((2 : Int32) * v5)) <| bx (s.1 513 ((819 : Int32) + ((2 : Int32) * v5)).toNatClampNeg) fun x3 => if (10 : Int32) < x3 then (if ¬ x3 = (14 : Int32) then (bx (v3 + (-1 : Int32)) fun x4 => gA 400 (x4 - (1 : Int32)) <| bx (s.1 520 (x4 - (1 : Int32)).toNatClampNeg) fun x5 => gA 400 x4 <| bx (s.1 520 x4.toNatClampNeg) fun x6 => if ¬ x3 = (12 : Int32) then (if ¬ x3 = (13 : Int32) then (if ¬ x3 = (15 : Int32) then (if (x5 + x6) ≤ 0 then (q245_222 (q245_22 k263 n) v2 x4 v4 v5 x3 x5 x6 (0 : Int32) s) else (q245_222 (q245_22 k263 n) v2 x4 v4 v5 x3 x5 x6 (1 : Int32) s)) else (if ¬ (x5 + x6) = (2 : Int32) then (q245_222 (q245_22 k263 n) v2 x4 v4 v5 x3 x5 x6 (0 : Int32) s) else (q245_222 (q245_22 k263 n) v2 x4 v4 v5 x3 x5 x6 (1 : Int32) s))) else (if x5 ≤ x6 then (q245_222 (q245_22 k263 n) v2 x4 v4 v5 x3 x5 x6 (0 : Int32) s) else (q245_222 (q245_22 k263 n) v2 x4 v4 v5 x3 x5 x6 (1 : Int32) s))) else (if x6 ≤ x5 then (q245_222 (q245_22 k263 n) v2 x4 v4 v5 x3 x5 x6 (0 : Int32) s) else (q245_222 (q245_22 k263 n) v2 x4 v4 v5 x3 x5 x6 (1 : Int32) s))) else (gA 400 (v3 - (1 : Int32)) <| gA 400 (v3 - (1 : Int32)) <| sp (sI s 520 (v3 - (1 : Int32)).toNatClampNeg ((1 : Int32) - (s.1 520 (v3 - (1 : Int32)).toNatClampNeg))) fun s7 => q245_257 (q245_22 k263 n) v2 v3 v4 v5 s7)) else (gA 2468 (((819 : Int32) + ((2 : Int32) * v5)) + (1 : Int32)) <| bN (q244 x3 (s.1 513 (((819 : Int32) + ((2 : Int32) * v5)) + (1 : Int32)).toNatClampNeg) v2 s) fun x9 s8 => gA 400 v3 <| sp (sI s8 520 v3.toNatClampNeg x9) fun s10 => bx (v3 + (1 : Int32)) fun x11 => q245_257 (q245_22 k263 n) v2 x11 v4 v5 s10))
theorem t245_22 {L : Nat} {xs : Nat → Int32} {d : Nat} {k263 : Int32 → mS → Option mQ} (hk263 : ∀ (v3 : Int32) (s : mS) (r : mQ), k263 v3 s = some r → Ev L xs d 245 263 [(0, .ref 512), (3, .int v3)] [] (hp s) (hr r)) (hd : 5 ≤ d) : ∀ (n : Nat) (v2 : Int32) (v3 : Int32) (v4 : Int32) (v5 : Int32) (s : mS) (r : mQ), q245_22 k263 n v2 v3 v4 v5 s = some r → Ev L xs d 245 22 [(0, .ref 512), (2, .int v2), (3, .int v3), (4, .int v4), (5, .int v5)] [] (hp s) (hr r) := by
  intro n
  induction n with
  | zero => intro v2 v3 v4 v5 s r h; rw [q245_22] at h; cases h
  | succ n ih =>
    intro v2 v3 v4 v5 s r h
    rw [q245_22] at h
    refine Ev.iload H245 i245_22 rfl ?_
    refine Ev.aload_n H245 i245_24 rfl ?_
    refine Rd.getR H245 i245_25 ob11 rfl ?_
    refine Ev.iload H245 i245_28 rfl ?_
    refine Ev.iconst H245 i245_30 kI_3 ?_
    refine Ev.iadd H245 i245_31 ?_
    refine Rd.iaload H245 i245_32 ar_513 h (fun h => ?_)
    refine Rd.ic_ge H245 i245_33 (t := 263) (by decide) h (fun hc h => ?_) (fun hc h => ?_)
    · exact Ev.sub (l := [(0, .ref 512), (3, .int v3)]) rfl rfl (mm_sub_c rfl (mm_sub_c rfl mm_sub_n)) (hk263 _ _ _ h)
    · refine Ev.aload_n H245 i245_36 rfl ?_
      refine Rd.getR H245 i245_37 ob11 rfl ?_
      refine Ev.sipush H245 i245_40 kS_819 ?_
      refine Ev.iconst H245 i245_43 kI_2 ?_
      refine Ev.iload H245 i245_44 rfl ?_
      refine Ev.imul H245 i245_46 ?_
      refine Ev.iadd H245 i245_47 ?_
      refine Rd.iaload H245 i245_48 ar_513 h (fun h => ?_)
      refine Rd.istore H245 i245_49 (Nat.le_of_ble_eq_true rfl) (lv2 := fun x3 => [(6, .int x3), (0, .ref 512), (2, .int v2), (3, .int v3), (4, .int v4), (5, .int v5)]) (fun _ => rfl) h (fun x3 h => ?_)
      refine Ev.iload H245 i245_51 rfl ?_
      refine Ev.bipush H245 i245_53 kB_10 ?_
      refine Rd.ic_gt H245 i245_55 (t := 92) (by decide) h (fun hc h => ?_) (fun hc h => ?_)
      · refine Ev.iload H245 i245_92 rfl ?_
        refine Ev.bipush H245 i245_94 kB_14 ?_
        refine Rd.ic_ne H245 i245_96 (t := 120) (by decide) h (fun hc h => ?_) (fun hc h => ?_)
        · refine Rd.iinc H245 i245_120 (Nat.le_of_ble_eq_true rfl) rfl kI_m1 (lv2 := fun x4 => [(3, .int x4), (6, .int x3), (0, .ref 512), (2, .int v2), (4, .int v4), (5, .int v5)]) (fun _ => rfl) h (fun x4 h => ?_)
          refine Ev.aload_n H245 i245_123 rfl ?_
          refine Rd.getR H245 i245_124 ob11 rfl ?_
          refine Ev.iload_n H245 i245_127 rfl ?_
          refine Ev.iconst H245 i245_128 kI_1 ?_
          refine Ev.isub H245 i245_129 ?_
          refine Rd.iaload H245 i245_130 ar_520 h (fun h => ?_)
          refine Rd.istore H245 i245_131 (Nat.le_of_ble_eq_true rfl) (lv2 := fun x5 => [(7, .int x5), (3, .int x4), (6, .int x3), (0, .ref 512), (2, .int v2), (4, .int v4), (5, .int v5)]) (fun _ => rfl) h (fun x5 h => ?_)
          refine Ev.aload_n H245 i245_133 rfl ?_
          refine Rd.getR H245 i245_134 ob11 rfl ?_
          refine Ev.iload_n H245 i245_137 rfl ?_
          refine Rd.iaload H245 i245_138 ar_520 h (fun h => ?_)
          refine Rd.istore H245 i245_139 (Nat.le_of_ble_eq_true rfl) (lv2 := fun x6 => [(8, .int x6), (7, .int x5), (3, .int x4), (6, .int x3), (0, .ref 512), (2, .int v2), (4, .int v4), (5, .int v5)]) (fun _ => rfl) h (fun x6 h => ?_)
          refine Ev.iload H245 i245_141 rfl ?_
          refine Ev.bipush H245 i245_143 kB_12 ?_
          refine Rd.ic_ne H245 i245_145 (t := 163) (by decide) h (fun hc h => ?_) (fun hc h => ?_)
          · refine Ev.iload H245 i245_163 rfl ?_
            refine Ev.bipush H245 i245_165 kB_13 ?_
            refine Rd.ic_ne H245 i245_167 (t := 185) (by decide) h (fun hc h => ?_) (fun hc h => ?_)
            · refine Ev.iload H245 i245_185 rfl ?_
              refine Ev.bipush H245 i245_187 kB_15 ?_
              refine Rd.ic_ne H245 i245_189 (t := 209) (by decide) h (fun hc h => ?_) (fun hc h => ?_)
              · refine Ev.iload H245 i245_209 rfl ?_
                refine Ev.iload H245 i245_211 rfl ?_
                refine Ev.iadd H245 i245_213 ?_
                refine Rd.if_le H245 i245_214 (t := 221) (by decide) h (fun hc h => ?_) (fun hc h => ?_)
                · refine Ev.iconst H245 i245_221 kI_0 ?_
                  exact Ev.sub (l := [(0, .ref 512), (2, .int v2), (3, .int x4), (4, .int v4), (5, .int v5), (6, .int x3), (7, .int x5), (8, .int x6)]) rfl rfl (mm_sub_c rfl (mm_sub_c rfl (mm_sub_c rfl (mm_sub_c rfl (mm_sub_c rfl (mm_sub_c rfl (mm_sub_c rfl (mm_sub_c rfl mm_sub_n)))))))) (t245_222 (k22 := (q245_22 k263 n)) (fun _ _ _ _ _ _ h => ih _ _ _ _ _ _ h) hd h)
                · refine Ev.iconst H245 i245_217 kI_1 ?_
                  refine Ev.goto H245 i245_218 (t := 222) (by decide) ?_
                  exact Ev.sub (l := [(0, .ref 512), (2, .int v2), (3, .int x4), (4, .int v4), (5, .int v5), (6, .int x3), (7, .int x5), (8, .int x6)]) rfl rfl (mm_sub_c rfl (mm_sub_c rfl (mm_sub_c rfl (mm_sub_c rfl (mm_sub_c rfl (mm_sub_c rfl (mm_sub_c rfl (mm_sub_c rfl mm_sub_n)))))))) (t245_222 (k22 := (q245_22 k263 n)) (fun _ _ _ _ _ _ h => ih _ _ _ _ _ _ h) hd h)
              · refine Ev.iload H245 i245_192 rfl ?_
                refine Ev.iload H245 i245_194 rfl ?_
                refine Ev.iadd H245 i245_196 ?_
                refine Ev.iconst H245 i245_197 kI_2 ?_
                refine Rd.ic_ne H245 i245_198 (t := 205) (by decide) h (fun hc h => ?_) (fun hc h => ?_)
                · refine Ev.iconst H245 i245_205 kI_0 ?_
                  refine Ev.goto H245 i245_206 (t := 222) (by decide) ?_
                  exact Ev.sub (l := [(0, .ref 512), (2, .int v2), (3, .int x4), (4, .int v4), (5, .int v5), (6, .int x3), (7, .int x5), (8, .int x6)]) rfl rfl (mm_sub_c rfl (mm_sub_c rfl (mm_sub_c rfl (mm_sub_c rfl (mm_sub_c rfl (mm_sub_c rfl (mm_sub_c rfl (mm_sub_c rfl mm_sub_n)))))))) (t245_222 (k22 := (q245_22 k263 n)) (fun _ _ _ _ _ _ h => ih _ _ _ _ _ _ h) hd h)
                · refine Ev.iconst H245 i245_201 kI_1 ?_
                  refine Ev.goto H245 i245_202 (t := 222) (by decide) ?_
                  exact Ev.sub (l := [(0, .ref 512), (2, .int v2), (3, .int x4), (4, .int v4), (5, .int v5), (6, .int x3), (7, .int x5), (8, .int x6)]) rfl rfl (mm_sub_c rfl (mm_sub_c rfl (mm_sub_c rfl (mm_sub_c rfl (mm_sub_c rfl (mm_sub_c rfl (mm_sub_c rfl (mm_sub_c rfl mm_sub_n)))))))) (t245_222 (k22 := (q245_22 k263 n)) (fun _ _ _ _ _ _ h => ih _ _ _ _ _ _ h) hd h)
            · refine Ev.iload H245 i245_170 rfl ?_
              refine Ev.iload H245 i245_172 rfl ?_
              refine Rd.ic_le H245 i245_174 (t := 181) (by decide) h (fun hc h => ?_) (fun hc h => ?_)
              · refine Ev.iconst H245 i245_181 kI_0 ?_
                refine Ev.goto H245 i245_182 (t := 222) (by decide) ?_
                exact Ev.sub (l := [(0, .ref 512), (2, .int v2), (3, .int x4), (4, .int v4), (5, .int v5), (6, .int x3), (7, .int x5), (8, .int x6)]) rfl rfl (mm_sub_c rfl (mm_sub_c rfl (mm_sub_c rfl (mm_sub_c rfl (mm_sub_c rfl (mm_sub_c rfl (mm_sub_c rfl (mm_sub_c rfl mm_sub_n)))))))) (t245_222 (k22 := (q245_22 k263 n)) (fun _ _ _ _ _ _ h => ih _ _ _ _ _ _ h) hd h)
              · refine Ev.iconst H245 i245_177 kI_1 ?_
                refine Ev.goto H245 i245_178 (t := 222) (by decide) ?_
                exact Ev.sub (l := [(0, .ref 512), (2, .int v2), (3, .int x4), (4, .int v4), (5, .int v5), (6, .int x3), (7, .int x5), (8, .int x6)]) rfl rfl (mm_sub_c rfl (mm_sub_c rfl (mm_sub_c rfl (mm_sub_c rfl (mm_sub_c rfl (mm_sub_c rfl (mm_sub_c rfl (mm_sub_c rfl mm_sub_n)))))))) (t245_222 (k22 := (q245_22 k263 n)) (fun _ _ _ _ _ _ h => ih _ _ _ _ _ _ h) hd h)
          · refine Ev.iload H245 i245_148 rfl ?_
            refine Ev.iload H245 i245_150 rfl ?_
            refine Rd.ic_ge H245 i245_152 (t := 159) (by decide) h (fun hc h => ?_) (fun hc h => ?_)
            · refine Ev.iconst H245 i245_159 kI_0 ?_
              refine Ev.goto H245 i245_160 (t := 222) (by decide) ?_
              exact Ev.sub (l := [(0, .ref 512), (2, .int v2), (3, .int x4), (4, .int v4), (5, .int v5), (6, .int x3), (7, .int x5), (8, .int x6)]) rfl rfl (mm_sub_c rfl (mm_sub_c rfl (mm_sub_c rfl (mm_sub_c rfl (mm_sub_c rfl (mm_sub_c rfl (mm_sub_c rfl (mm_sub_c rfl mm_sub_n)))))))) (t245_222 (k22 := (q245_22 k263 n)) (fun _ _ _ _ _ _ h => ih _ _ _ _ _ _ h) hd h)
            · refine Ev.iconst H245 i245_155 kI_1 ?_
              refine Ev.goto H245 i245_156 (t := 222) (by decide) ?_
              exact Ev.sub (l := [(0, .ref 512), (2, .int v2), (3, .int x4), (4, .int v4), (5, .int v5), (6, .int x3), (7, .int x5), (8, .int x6)]) rfl rfl (mm_sub_c rfl (mm_sub_c rfl (mm_sub_c rfl (mm_sub_c rfl (mm_sub_c rfl (mm_sub_c rfl (mm_sub_c rfl (mm_sub_c rfl mm_sub_n)))))))) (t245_222 (k22 := (q245_22 k263 n)) (fun _ _ _ _ _ _ h => ih _ _ _ _ _ _ h) hd h)
        · refine Ev.aload_n H245 i245_99 rfl ?_
          refine Rd.getR H245 i245_100 ob11 rfl ?_
          refine Ev.iload_n H245 i245_103 rfl ?_
          refine Ev.iconst H245 i245_104 kI_1 ?_
          refine Ev.isub H245 i245_105 ?_
          refine Ev.iconst H245 i245_106 kI_1 ?_
          refine Ev.aload_n H245 i245_107 rfl ?_
          refine Rd.getR H245 i245_108 ob11 rfl ?_
          refine Ev.iload_n H245 i245_111 rfl ?_
          refine Ev.iconst H245 i245_112 kI_1 ?_
          refine Ev.isub H245 i245_113 ?_
          refine Rd.iaload H245 i245_114 ar_520 h (fun h => ?_)
          refine Ev.isub H245 i245_115 ?_
          refine Rd.iastore H245 i245_116 ar_520 h (fun s7 h => ?_)
          refine Ev.goto H245 i245_117 (t := 257) (by decide) ?_
          exact Ev.sub (l := [(0, .ref 512), (2, .int v2), (3, .int v3), (4, .int v4), (5, .int v5)]) rfl rfl (mm_sub_c rfl (mm_sub_c rfl (mm_sub_c rfl (mm_sub_c rfl (mm_sub_c rfl mm_sub_n))))) (t245_257 (k22 := (q245_22 k263 n)) (fun _ _ _ _ _ _ h => ih _ _ _ _ _ _ h) hd h)
      · refine Ev.aload_n H245 i245_58 rfl ?_
        refine Rd.getR H245 i245_59 ob11 rfl ?_
        refine Ev.iload_n H245 i245_62 rfl ?_
        refine Ev.aload_n H245 i245_63 rfl ?_
        refine Ev.iload H245 i245_64 rfl ?_
        refine Ev.aload_n H245 i245_66 rfl ?_
        refine Rd.getR H245 i245_67 ob11 rfl ?_
        refine Ev.sipush H245 i245_70 kS_819 ?_
        refine Ev.iconst H245 i245_73 kI_2 ?_
        refine Ev.iload H245 i245_74 rfl ?_
        refine Ev.imul H245 i245_76 ?_
        refine Ev.iadd H245 i245_77 ?_
        refine Ev.iconst H245 i245_78 kI_1 ?_
        refine Ev.iadd H245 i245_79 ?_
        refine Rd.iaload H245 i245_80 ar_513 h (fun h => ?_)
        refine Ev.iload_n H245 i245_81 rfl ?_
        refine Rd.cV3vN H245 i245_82 cal244 ob11 (Nat.le_of_ble_eq_true rfl) (Nat.le_of_ble_eq_true rfl) (Nat.lt_of_lt_of_le (by decide) hd) (fun q hq => c244 hq) h (fun x9 s8 h => ?_)
        refine Rd.iastore H245 i245_85 ar_520 h (fun s10 h => ?_)
        refine Rd.iinc H245 i245_86 (Nat.le_of_ble_eq_true rfl) rfl kI_1 (lv2 := fun x11 => [(3, .int x11), (6, .int x3), (0, .ref 512), (2, .int v2), (4, .int v4), (5, .int v5)]) (fun _ => rfl) h (fun x11 h => ?_)
        refine Ev.goto H245 i245_89 (t := 257) (by decide) ?_
        exact Ev.sub (l := [(0, .ref 512), (2, .int v2), (3, .int x11), (4, .int v4), (5, .int v5)]) rfl rfl (mm_sub_c rfl (mm_sub_c rfl (mm_sub_c rfl (mm_sub_c rfl (mm_sub_c rfl mm_sub_n))))) (t245_257 (k22 := (q245_22 k263 n)) (fun _ _ _ _ _ _ h => ih _ _ _ _ _ _ h) hd h)
def q245_277 (s : mS) : Option mQ := rv (1 : Int32) s
theorem t245_277 {L : Nat} {xs : Nat → Int32} {d : Nat} (hd : 5 ≤ d) {s : mS} {r : mQ} (h : q245_277 s = some r) : Ev L xs d 245 277 [] [] (hp s) (hr r) := by
  unfold q245_277 at h
  refine Ev.iconst H245 i245_277 kI_1 ?_
  refine Ev.goto H245 i245_278 (t := 282) (by decide) ?_
  exact Rd.ireturnK H245 i245_282 rfl (Or.inr rfl) h
def q245_263 (v3 : Int32) (s : mS) : Option mQ := if v3 = 0 then (q245_277 s) else (gA 400 (0 : Int32) <| if ¬ (s.1 520 (0 : Int32).toNatClampNeg) = (1 : Int32) then (rv (0 : Int32) s) else (q245_277 s))
theorem t245_263 {L : Nat} {xs : Nat → Int32} {d : Nat} (hd : 5 ≤ d) {v3 : Int32} {s : mS} {r : mQ} (h : q245_263 v3 s = some r) : Ev L xs d 245 263 [(0, .ref 512), (3, .int v3)] [] (hp s) (hr r) := by
  unfold q245_263 at h
  refine Ev.iload_n H245 i245_263 rfl ?_
  refine Rd.if_eq H245 i245_264 (t := 277) (by decide) h (fun hc h => ?_) (fun hc h => ?_)
  · exact Ev.sub (l := []) rfl rfl mm_sub_n (t245_277 hd h)
  · refine Ev.aload_n H245 i245_267 rfl ?_
    refine Rd.getR H245 i245_268 ob11 rfl ?_
    refine Ev.iconst H245 i245_271 kI_0 ?_
    refine Rd.iaload H245 i245_272 ar_520 h (fun h => ?_)
    refine Ev.iconst H245 i245_273 kI_1 ?_
    refine Rd.ic_ne H245 i245_274 (t := 281) (by decide) h (fun hc h => ?_) (fun hc h => ?_)
    · refine Ev.iconst H245 i245_281 kI_0 ?_
      exact Rd.ireturnK H245 i245_282 rfl (Or.inl rfl) h
    · exact Ev.sub (l := []) rfl rfl mm_sub_n (t245_277 hd h)
/-- SerialGateModel.holdsLine(II)Z -/
def q245 (v1 : Int32) (v2 : Int32) (s : mS) : Option mQ := bx ((771 : Int32) + ((4 : Int32) * v1)) fun x12 => gA 2468 (x12 + (2 : Int32)) <| bx (s.1 513 (x12 + (2 : Int32)).toNatClampNeg) fun x13 => q245_22 (q245_263) 10000 v2 (0 : Int32) x12 x13 s
theorem c245 {L : Nat} {xs : Nat → Int32} {v1 : Int32} {v2 : Int32} {s : mS} {r : mQ} (h : q245 v1 v2 s = some r) : ∀ d, 5 ≤ d → Cl L xs d 245 [.ref 512, .int v1, .int v2] (hp s) (hr r) := by
  intro d hd
  show Ev L xs d 245 0 [(0, .ref 512), (1, .int v1), (2, .int v2)] [] (hp s) (hr r)
  unfold q245 at h
  refine Ev.iconst H245 i245_0 kI_0 ?_
  refine Ev.istore_n H245 i245_1 (Nat.le_of_ble_eq_true rfl) (lv2 := [(3, .int (0 : Int32)), (0, .ref 512), (1, .int v1), (2, .int v2)]) rfl ?_
  refine Ev.sipush H245 i245_2 kS_771 ?_
  refine Ev.iconst H245 i245_5 kI_4 ?_
  refine Ev.iload_n H245 i245_6 rfl ?_
  refine Ev.imul H245 i245_7 ?_
  refine Ev.iadd H245 i245_8 ?_
  refine Rd.istore H245 i245_9 (Nat.le_of_ble_eq_true rfl) (lv2 := fun x12 => [(4, .int x12), (3, .int (0 : Int32)), (0, .ref 512), (1, .int v1), (2, .int v2)]) (fun _ => rfl) h (fun x12 h => ?_)
  refine Ev.aload_n H245 i245_11 rfl ?_
  refine Rd.getR H245 i245_12 ob11 rfl ?_
  refine Ev.iload H245 i245_15 rfl ?_
  refine Ev.iconst H245 i245_17 kI_2 ?_
  refine Ev.iadd H245 i245_18 ?_
  refine Rd.iaload H245 i245_19 ar_513 h (fun h => ?_)
  refine Rd.istore H245 i245_20 (Nat.le_of_ble_eq_true rfl) (lv2 := fun x13 => [(5, .int x13), (4, .int x12), (3, .int (0 : Int32)), (0, .ref 512), (1, .int v1), (2, .int v2)]) (fun _ => rfl) h (fun x13 h => ?_)
  exact Ev.sub (l := [(0, .ref 512), (2, .int v2), (3, .int (0 : Int32)), (4, .int x12), (5, .int x13)]) rfl rfl (mm_sub_c rfl (mm_sub_c rfl (mm_sub_c rfl (mm_sub_c rfl (mm_sub_c rfl mm_sub_n))))) (t245_22 (k263 := (q245_263)) (fun _ _ _ h => t245_263 hd h) hd 10000 _ _ _ _ _ _ h)
