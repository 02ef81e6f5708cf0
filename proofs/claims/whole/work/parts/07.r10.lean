theorem i271_0 : mm_cd 271 0 = some (.aload_n 0, 1, 0, 0) := rfl
theorem i271_1 : mm_cd 271 1 = some (.invokevirtual 129, 3, 0, 198) := rfl
theorem i271_4 : mm_cd 271 4 = some (.ifCond .ne 5, 3, 0, 0) := rfl
theorem i271_7 : mm_cd 271 7 = some (.iconst 0, 1, 0, 0) := rfl
theorem i271_8 : mm_cd 271 8 = some (.ireturn, 1, 0, 0) := rfl
theorem i271_9 : mm_cd 271 9 = some (.aload_n 0, 1, 0, 0) := rfl
theorem i271_10 : mm_cd 271 10 = some (.aload_n 0, 1, 0, 0) := rfl
theorem i271_11 : mm_cd 271 11 = some (.invokevirtual 129, 3, 0, 198) := rfl
theorem i271_14 : mm_cd 271 14 = some (.invokevirtual 349, 3, 0, 212) := rfl
theorem i271_17 : mm_cd 271 17 = some (.istore_n 1, 1, 0, 0) := rfl
theorem i271_18 : mm_cd 271 18 = some (.aload_n 0, 1, 0, 0) := rfl
theorem i271_19 : mm_cd 271 19 = some (.iload_n 1, 1, 0, 0) := rfl
theorem i271_20 : mm_cd 271 20 = some (.invokevirtual 346, 3, 0, 209) := rfl
theorem i271_23 : mm_cd 271 23 = some (.istore_n 2, 1, 0, 0) := rfl
theorem i271_24 : mm_cd 271 24 = some (.aload_n 0, 1, 0, 0) := rfl
theorem i271_25 : mm_cd 271 25 = some (.iload_n 1, 1, 0, 0) := rfl
theorem i271_26 : mm_cd 271 26 = some (.invokevirtual 352, 3, 0, 270) := rfl
theorem i271_29 : mm_cd 271 29 = some (.istore_n 3, 1, 0, 0) := rfl
theorem i271_30 : mm_cd 271 30 = some (.iload_n 3, 1, 0, 0) := rfl
theorem i271_31 : mm_cd 271 31 = some (.ifCond .ne 20, 3, 0, 0) := rfl
theorem i271_34 : mm_cd 271 34 = some (.aload_n 0, 1, 0, 0) := rfl
theorem i271_35 : mm_cd 271 35 = some (.iconst 0, 1, 0, 0) := rfl
theorem i271_36 : mm_cd 271 36 = some (.invokevirtual 313, 3, 0, 208) := rfl
theorem i271_39 : mm_cd 271 39 = some (.ifCond .eq 70, 3, 0, 0) := rfl
theorem i271_42 : mm_cd 271 42 = some (.aload_n 0, 1, 0, 0) := rfl
theorem i271_43 : mm_cd 271 43 = some (.iload_n 1, 1, 0, 0) := rfl
theorem i271_44 : mm_cd 271 44 = some (.invokevirtual 355, 3, 0, 262) := rfl
theorem i271_47 : mm_cd 271 47 = some (.pop, 1, 0, 0) := rfl
theorem i271_48 : mm_cd 271 48 = some (.goto 61, 3, 0, 0) := rfl
theorem i271_51 : mm_cd 271 51 = some (.iload_n 3, 1, 0, 0) := rfl
theorem i271_52 : mm_cd 271 52 = some (.sipush 200, 3, 0, 0) := rfl
theorem i271_55 : mm_cd 271 55 = some (.if_icmp .ge 15, 3, 0, 0) := rfl
theorem i271_58 : mm_cd 271 58 = some (.aload_n 0, 1, 0, 0) := rfl
theorem i271_59 : mm_cd 271 59 = some (.iload_n 2, 1, 0, 0) := rfl
theorem i271_60 : mm_cd 271 60 = some (.iload_n 3, 1, 0, 0) := rfl
theorem i271_61 : mm_cd 271 61 = some (.bipush 100, 2, 0, 0) := rfl
theorem i271_63 : mm_cd 271 63 = some (.isub, 1, 0, 0) := rfl
theorem i271_64 : mm_cd 271 64 = some (.invokevirtual 358, 3, 0, 263) := rfl
theorem i271_67 : mm_cd 271 67 = some (.goto 42, 3, 0, 0) := rfl
theorem i271_70 : mm_cd 271 70 = some (.iload_n 3, 1, 0, 0) := rfl
theorem i271_71 : mm_cd 271 71 = some (.sipush 300, 3, 0, 0) := rfl
theorem i271_74 : mm_cd 271 74 = some (.if_icmp .ge 29, 3, 0, 0) := rfl
theorem i271_77 : mm_cd 271 77 = some (.aload_n 0, 1, 0, 0) := rfl
theorem i271_78 : mm_cd 271 78 = some (.iload_n 2, 1, 0, 0) := rfl
theorem i271_79 : mm_cd 271 79 = some (.iload_n 3, 1, 0, 0) := rfl
theorem i271_80 : mm_cd 271 80 = some (.sipush 200, 3, 0, 0) := rfl
theorem i271_83 : mm_cd 271 83 = some (.isub, 1, 0, 0) := rfl
theorem i271_84 : mm_cd 271 84 = some (.invokevirtual 360, 3, 0, 264) := rfl
theorem i271_87 : mm_cd 271 87 = some (.ifCond .ne 22, 3, 0, 0) := rfl
theorem i271_90 : mm_cd 271 90 = some (.aload_n 0, 1, 0, 0) := rfl
theorem i271_91 : mm_cd 271 91 = some (.iload_n 2, 1, 0, 0) := rfl
theorem i271_92 : mm_cd 271 92 = some (.iload_n 3, 1, 0, 0) := rfl
theorem i271_93 : mm_cd 271 93 = some (.sipush 200, 3, 0, 0) := rfl
theorem i271_96 : mm_cd 271 96 = some (.isub, 1, 0, 0) := rfl
theorem i271_97 : mm_cd 271 97 = some (.invokevirtual 363, 3, 0, 265) := rfl
theorem i271_100 : mm_cd 271 100 = some (.goto 9, 3, 0, 0) := rfl
theorem i271_103 : mm_cd 271 103 = some (.aload_n 0, 1, 0, 0) := rfl
theorem i271_104 : mm_cd 271 104 = some (.iload_n 2, 1, 0, 0) := rfl
theorem i271_105 : mm_cd 271 105 = some (.invokevirtual 365, 3, 0, 268) := rfl
theorem i271_108 : mm_cd 271 108 = some (.pop, 1, 0, 0) := rfl
theorem i271_109 : mm_cd 271 109 = some (.iload_n 3, 1, 0, 0) := rfl
theorem i271_110 : mm_cd 271 110 = some (.sipush 300, 3, 0, 0) := rfl
theorem i271_113 : mm_cd 271 113 = some (.if_icmp .ne 7, 3, 0, 0) := rfl
theorem i271_116 : mm_cd 271 116 = some (.iconst 1, 1, 0, 0) := rfl
theorem i271_117 : mm_cd 271 117 = some (.goto 4, 3, 0, 0) := rfl
theorem i271_120 : mm_cd 271 120 = some (.iconst 0, 1, 0, 0) := rfl
theorem i271_121 : mm_cd 271 121 = some (.ireturn, 1, 0, 0) := rfl
def q271_109 (v3 : Int32) (s : mS) : Option mQ := if ¬ v3 = (300 : Int32) then (rv (0 : Int32) s) else (rv (1 : Int32) s)
theorem t271_109 {L : Nat} {xs : Nat → Int32} {d : Nat} (hd : 11 ≤ d) {v3 : Int32} {s : mS} {r : mQ} (h : q271_109 v3 s = some r) : Ev L xs d 271 109 [(3, .int v3)] [] (hp s) (hr r) := by
  unfold q271_109 at h
  refine Ev.iload_n H271 i271_109 rfl ?_
  refine Ev.sipush H271 i271_110 kS_300 ?_
  refine Rd.ic_ne H271 i271_113 (t := 120) (by decide) h (fun hc h => ?_) (fun hc h => ?_)
  · refine Ev.iconst H271 i271_120 kI_0 ?_
    exact Rd.ireturn H271 i271_121 rfl h
  · refine Ev.iconst H271 i271_116 kI_1 ?_
    refine Ev.goto H271 i271_117 (t := 121) (by decide) ?_
    exact Rd.ireturn H271 i271_121 rfl h
/-- SerialGateModel.tick()I -/
def q271 (s : mS) : Option mQ := bN (q198 s) fun x2 s1 => if ¬ x2 = 0 then (bN (q198 s1) fun x4 s3 => bN (q212 x4 s3) fun x6 s5 => bN (q209 x6 s5) fun x8 s7 => bN (q270 x6 s7) fun x10 s9 => if ¬ x10 = 0 then (if (200 : Int32) ≤ x10 then (if (300 : Int32) ≤ x10 then (bN (q268 x8 s9) fun x12 s11 => q271_109 x10 s11) else (bN (q264 x8 (x10 - (200 : Int32)) s9) fun x14 s13 => if ¬ x14 = 0 then (q271_109 x10 s13) else (bM (q265 x8 (x10 - (200 : Int32)) s13) fun s15 => q271_109 x10 s15))) else (bM (q263 x8 (x10 - (100 : Int32)) s9) fun s16 => q271_109 x10 s16)) else (bN (q208 (0 : Int32) s9) fun x18 s17 => if x18 = 0 then (q271_109 x10 s17) else (bN (q262 x6 s17) fun x20 s19 => q271_109 x10 s19))) else (rv (0 : Int32) s1)
theorem c271 {L : Nat} {xs : Nat → Int32} {s : mS} {r : mQ} (h : q271 s = some r) : ∀ d, 11 ≤ d → Cl L xs d 271 [.ref 512] (hp s) (hr r) := by
  intro d hd
  show Ev L xs d 271 0 [(0, .ref 512)] [] (hp s) (hr r)
  unfold q271 at h
  refine Ev.aload_n H271 i271_0 rfl ?_
  refine Rd.cV0vN H271 i271_1 cal198 ob11 (Nat.le_of_ble_eq_true rfl) (Nat.le_of_ble_eq_true rfl) (Nat.lt_of_lt_of_le (by decide) hd) (fun q hq => c198 hq) h (fun x2 s1 h => ?_)
  refine Rd.if_ne H271 i271_4 (t := 9) (by decide) h (fun hc h => ?_) (fun hc h => ?_)
  · refine Ev.aload_n H271 i271_9 rfl ?_
    refine Ev.aload_n H271 i271_10 rfl ?_
    refine Rd.cV0vN H271 i271_11 cal198 ob11 (Nat.le_of_ble_eq_true rfl) (Nat.le_of_ble_eq_true rfl) (Nat.lt_of_lt_of_le (by decide) hd) (fun q hq => c198 hq) h (fun x4 s3 h => ?_)
    refine Rd.cV1vN H271 i271_14 cal212 ob11 (Nat.le_of_ble_eq_true rfl) (Nat.le_of_ble_eq_true rfl) (Nat.lt_of_lt_of_le (by decide) hd) (fun q hq => c212 hq) h (fun x6 s5 h => ?_)
    refine Ev.istore_n H271 i271_17 (Nat.le_of_ble_eq_true rfl) (lv2 := [(1, .int x6), (0, .ref 512)]) rfl ?_
    refine Ev.aload_n H271 i271_18 rfl ?_
    refine Ev.iload_n H271 i271_19 rfl ?_
    refine Rd.cV1vN H271 i271_20 cal209 ob11 (Nat.le_of_ble_eq_true rfl) (Nat.le_of_ble_eq_true rfl) (Nat.lt_of_lt_of_le (by decide) hd) (fun q hq => c209 hq) h (fun x8 s7 h => ?_)
    refine Ev.istore_n H271 i271_23 (Nat.le_of_ble_eq_true rfl) (lv2 := [(2, .int x8), (1, .int x6), (0, .ref 512)]) rfl ?_
    refine Ev.aload_n H271 i271_24 rfl ?_
    refine Ev.iload_n H271 i271_25 rfl ?_
    refine Rd.cV1vN H271 i271_26 cal270 ob11 (Nat.le_of_ble_eq_true rfl) (Nat.le_of_ble_eq_true rfl) (Nat.lt_of_lt_of_le (by decide) hd) (fun q hq => c270 hq) h (fun x10 s9 h => ?_)
    refine Ev.istore_n H271 i271_29 (Nat.le_of_ble_eq_true rfl) (lv2 := [(3, .int x10), (2, .int x8), (1, .int x6), (0, .ref 512)]) rfl ?_
    refine Ev.iload_n H271 i271_30 rfl ?_
    refine Rd.if_ne H271 i271_31 (t := 51) (by decide) h (fun hc h => ?_) (fun hc h => ?_)
    · refine Ev.iload_n H271 i271_51 rfl ?_
      refine Ev.sipush H271 i271_52 kS_200 ?_
      refine Rd.ic_ge H271 i271_55 (t := 70) (by decide) h (fun hc h => ?_) (fun hc h => ?_)
      · refine Ev.iload_n H271 i271_70 rfl ?_
        refine Ev.sipush H271 i271_71 kS_300 ?_
        refine Rd.ic_ge H271 i271_74 (t := 103) (by decide) h (fun hc h => ?_) (fun hc h => ?_)
        · refine Ev.aload_n H271 i271_103 rfl ?_
          refine Ev.iload_n H271 i271_104 rfl ?_
          refine Rd.cV1vN H271 i271_105 cal268 ob11 (Nat.le_of_ble_eq_true rfl) (Nat.le_of_ble_eq_true rfl) (Nat.lt_of_lt_of_le (by decide) hd) (fun q hq => c268 hq) h (fun x12 s11 h => ?_)
          refine Ev.pop H271 i271_108 rfl ?_
          exact Ev.sub (l := [(3, .int x10)]) rfl rfl (mm_sub_c rfl mm_sub_n) (t271_109 hd h)
        · refine Ev.aload_n H271 i271_77 rfl ?_
          refine Ev.iload_n H271 i271_78 rfl ?_
          refine Ev.iload_n H271 i271_79 rfl ?_
          refine Ev.sipush H271 i271_80 kS_200 ?_
          refine Ev.isub H271 i271_83 ?_
          refine Rd.cV2vN H271 i271_84 cal264 ob11 (Nat.le_of_ble_eq_true rfl) (Nat.le_of_ble_eq_true rfl) (Nat.lt_of_lt_of_le (by decide) hd) (fun q hq => c264 hq) h (fun x14 s13 h => ?_)
          refine Rd.if_ne H271 i271_87 (t := 109) (by decide) h (fun hc h => ?_) (fun hc h => ?_)
          · exact Ev.sub (l := [(3, .int x10)]) rfl rfl (mm_sub_c rfl mm_sub_n) (t271_109 hd h)
          · refine Ev.aload_n H271 i271_90 rfl ?_
            refine Ev.iload_n H271 i271_91 rfl ?_
            refine Ev.iload_n H271 i271_92 rfl ?_
            refine Ev.sipush H271 i271_93 kS_200 ?_
            refine Ev.isub H271 i271_96 ?_
            refine Rd.cV2uN H271 i271_97 cal265 ob11 (Nat.le_of_ble_eq_true rfl) (Nat.le_of_ble_eq_true rfl) (Nat.lt_of_lt_of_le (by decide) hd) (fun q hq => c265 hq) h (fun s15 h => ?_)
            refine Ev.goto H271 i271_100 (t := 109) (by decide) ?_
            exact Ev.sub (l := [(3, .int x10)]) rfl rfl (mm_sub_c rfl mm_sub_n) (t271_109 hd h)
      · refine Ev.aload_n H271 i271_58 rfl ?_
        refine Ev.iload_n H271 i271_59 rfl ?_
        refine Ev.iload_n H271 i271_60 rfl ?_
        refine Ev.bipush H271 i271_61 kB_100 ?_
        refine Ev.isub H271 i271_63 ?_
        refine Rd.cV2uN H271 i271_64 cal263 ob11 (Nat.le_of_ble_eq_true rfl) (Nat.le_of_ble_eq_true rfl) (Nat.lt_of_lt_of_le (by decide) hd) (fun q hq => c263 hq) h (fun s16 h => ?_)
        refine Ev.goto H271 i271_67 (t := 109) (by decide) ?_
        exact Ev.sub (l := [(3, .int x10)]) rfl rfl (mm_sub_c rfl mm_sub_n) (t271_109 hd h)
    · refine Ev.aload_n H271 i271_34 rfl ?_
      refine Ev.iconst H271 i271_35 kI_0 ?_
      refine Rd.cV1vN H271 i271_36 cal208 ob11 (Nat.le_of_ble_eq_true rfl) (Nat.le_of_ble_eq_true rfl) (Nat.lt_of_lt_of_le (by decide) hd) (fun q hq => c208 hq) h (fun x18 s17 h => ?_)
      refine Rd.if_eq H271 i271_39 (t := 109) (by decide) h (fun hc h => ?_) (fun hc h => ?_)
      · exact Ev.sub (l := [(3, .int x10)]) rfl rfl (mm_sub_c rfl mm_sub_n) (t271_109 hd h)
      · refine Ev.aload_n H271 i271_42 rfl ?_
        refine Ev.iload_n H271 i271_43 rfl ?_
        refine Rd.cV1vN H271 i271_44 cal262 ob11 (Nat.le_of_ble_eq_true rfl) (Nat.le_of_ble_eq_true rfl) (Nat.lt_of_lt_of_le (by decide) hd) (fun q hq => c262 hq) h (fun x20 s19 h => ?_)
        refine Ev.pop H271 i271_47 rfl ?_
        refine Ev.goto H271 i271_48 (t := 109) (by decide) ?_
        exact Ev.sub (l := [(3, .int x10)]) rfl rfl (mm_sub_c rfl mm_sub_n) (t271_109 hd h)
  · refine Ev.iconst H271 i271_7 kI_0 ?_
    exact Rd.ireturn H271 i271_8 rfl h
theorem i272_0 : mm_cd 272 0 = some (.iconst 0, 1, 0, 0) := rfl
theorem i272_1 : mm_cd 272 1 = some (.istore_n 2, 1, 0, 0) := rfl
theorem i272_2 : mm_cd 272 2 = some (.iconst 0, 1, 0, 0) := rfl
theorem i272_3 : mm_cd 272 3 = some (.istore_n 3, 1, 0, 0) := rfl
theorem i272_4 : mm_cd 272 4 = some (.iload_n 3, 1, 0, 0) := rfl
theorem i272_5 : mm_cd 272 5 = some (.iload_n 1, 1, 0, 0) := rfl
theorem i272_6 : mm_cd 272 6 = some (.if_icmp .ge 16, 3, 0, 0) := rfl
theorem i272_9 : mm_cd 272 9 = some (.iload_n 2, 1, 0, 0) := rfl
theorem i272_10 : mm_cd 272 10 = some (.aload_n 0, 1, 0, 0) := rfl
theorem i272_11 : mm_cd 272 11 = some (.invokevirtual 368, 3, 0, 271) := rfl
theorem i272_14 : mm_cd 272 14 = some (.iadd, 1, 0, 0) := rfl
theorem i272_15 : mm_cd 272 15 = some (.istore_n 2, 1, 0, 0) := rfl
theorem i272_16 : mm_cd 272 16 = some (.iinc 3 1, 3, 0, 0) := rfl
theorem i272_19 : mm_cd 272 19 = some (.goto (-15), 3, 0, 0) := rfl
theorem i272_22 : mm_cd 272 22 = some (.iload_n 2, 1, 0, 0) := rfl
theorem i272_23 : mm_cd 272 23 = some (.ireturn, 1, 0, 0) := rfl
def q272_4 : Nat → Int32 → Int32 → Int32 → mS → Option mQ
  | 0, _, _, _, _ => none
  | n + 1, v1, v2, v3, s => if v1 ≤ v3 then (rv v2 s) else (bN (q271 s) fun x2 s1 => bx (v2 + x2) fun x3 => bx (v3 + (1 : Int32)) fun x4 => q272_4 n v1 x3 x4 s1)
theorem t272_4 {L : Nat} {xs : Nat → Int32} {d : Nat} (hd : 12 ≤ d) : ∀ (n : Nat) (v1 : Int32) (v2 : Int32) (v3 : Int32) (s : mS) (r : mQ), q272_4 n v1 v2 v3 s = some r → Ev L xs d 272 4 [(0, .ref 512), (1, .int v1), (2, .int v2), (3, .int v3)] [] (hp s) (hr r) := by
  intro n
  induction n with
  | zero => intro v1 v2 v3 s r h; rw [q272_4] at h; cases h
  | succ n ih =>
    intro v1 v2 v3 s r h
    rw [q272_4] at h
    refine Ev.iload_n H272 i272_4 rfl ?_
    refine Ev.iload_n H272 i272_5 rfl ?_
    refine Rd.ic_ge H272 i272_6 (t := 22) (by decide) h (fun hc h => ?_) (fun hc h => ?_)
    · refine Ev.iload_n H272 i272_22 rfl ?_
      exact Rd.ireturn H272 i272_23 rfl h
    · refine Ev.iload_n H272 i272_9 rfl ?_
      refine Ev.aload_n H272 i272_10 rfl ?_
      refine Rd.cV0vN H272 i272_11 cal271 ob11 (Nat.le_of_ble_eq_true rfl) (Nat.le_of_ble_eq_true rfl) (Nat.lt_of_lt_of_le (by decide) hd) (fun q hq => c271 hq) h (fun x2 s1 h => ?_)
      refine Ev.iadd H272 i272_14 ?_
      refine Rd.istore_n H272 i272_15 (Nat.le_of_ble_eq_true rfl) (lv2 := fun x3 => [(2, .int x3), (0, .ref 512), (1, .int v1), (3, .int v3)]) (fun _ => rfl) h (fun x3 h => ?_)
      refine Rd.iinc H272 i272_16 (Nat.le_of_ble_eq_true rfl) rfl kI_1 (lv2 := fun x4 => [(3, .int x4), (2, .int x3), (0, .ref 512), (1, .int v1)]) (fun _ => rfl) h (fun x4 h => ?_)
      refine Ev.goto H272 i272_19 (t := 4) (by decide) ?_
      exact Ev.sub (l := [(0, .ref 512), (1, .int v1), (2, .int x3), (3, .int x4)]) rfl rfl (mm_sub_c rfl (mm_sub_c rfl (mm_sub_c rfl (mm_sub_c rfl mm_sub_n)))) (ih _ _ _ _ _ h)
/-- SerialGateModel.goesOn(I)I -/
def q272 (v1 : Int32) (s : mS) : Option mQ := q272_4 10000 v1 (0 : Int32) (0 : Int32) s
theorem c272 {L : Nat} {xs : Nat → Int32} {v1 : Int32} {s : mS} {r : mQ} (h : q272 v1 s = some r) : ∀ d, 12 ≤ d → Cl L xs d 272 [.ref 512, .int v1] (hp s) (hr r) := by
  intro d hd
  show Ev L xs d 272 0 [(0, .ref 512), (1, .int v1)] [] (hp s) (hr r)
  unfold q272 at h
  refine Ev.iconst H272 i272_0 kI_0 ?_
  refine Ev.istore_n H272 i272_1 (Nat.le_of_ble_eq_true rfl) (lv2 := [(2, .int (0 : Int32)), (0, .ref 512), (1, .int v1)]) rfl ?_
  refine Ev.iconst H272 i272_2 kI_0 ?_
  refine Ev.istore_n H272 i272_3 (Nat.le_of_ble_eq_true rfl) (lv2 := [(3, .int (0 : Int32)), (2, .int (0 : Int32)), (0, .ref 512), (1, .int v1)]) rfl ?_
  exact Ev.sub (l := [(0, .ref 512), (1, .int v1), (2, .int (0 : Int32)), (3, .int (0 : Int32))]) rfl rfl (mm_sub_c rfl (mm_sub_c rfl (mm_sub_c rfl (mm_sub_c rfl mm_sub_n)))) (t272_4 hd 10000 _ _ _ _ _ h)
theorem i273_0 : mm_cd 273 0 = some (.iload_n 0, 1, 0, 0) := rfl
theorem i273_1 : mm_cd 273 1 = some (.iconst 0, 1, 0, 0) := rfl
theorem i273_2 : mm_cd 273 2 = some (.bipush 7, 2, 0, 0) := rfl
theorem i273_4 : mm_cd 273 4 = some (.invokestatic 371, 3, 0, 189) := rfl
theorem i273_7 : mm_cd 273 7 = some (.ifCond .ne 7, 3, 0, 0) := rfl
theorem i273_10 : mm_cd 273 10 = some (.iconst 1, 1, 0, 0) := rfl
theorem i273_11 : mm_cd 273 11 = some (.goto 4, 3, 0, 0) := rfl
theorem i273_14 : mm_cd 273 14 = some (.iconst 0, 1, 0, 0) := rfl
theorem i273_15 : mm_cd 273 15 = some (.ireturn, 1, 0, 0) := rfl
/-- SerialGateModel.noSlot(I)Z -/
def q273 (v0 : Int32) (s : mS) : Option mQ := bN (q189 v0 (0 : Int32) (7 : Int32) s) fun x2 s1 => if ¬ x2 = 0 then (rv (0 : Int32) s1) else (rv (1 : Int32) s1)
theorem c273 {L : Nat} {xs : Nat → Int32} {v0 : Int32} {s : mS} {r : mQ} (h : q273 v0 s = some r) : ∀ d, 1 ≤ d → Cl L xs d 273 [.int v0] (hp s) (hr r) := by
  intro d hd
  show Ev L xs d 273 0 [(0, .int v0)] [] (hp s) (hr r)
  unfold q273 at h
  refine Ev.iload_n H273 i273_0 rfl ?_
  refine Ev.iconst H273 i273_1 kI_0 ?_
  refine Ev.bipush H273 i273_2 kB_7 ?_
  refine Rd.cS3vN H273 i273_4 cal189 (Nat.le_of_ble_eq_true rfl) (Nat.le_of_ble_eq_true rfl) (Nat.lt_of_lt_of_le (by decide) hd) (fun q hq => c189 hq) h (fun x2 s1 h => ?_)
  refine Rd.if_ne H273 i273_7 (t := 14) (by decide) h (fun hc h => ?_) (fun hc h => ?_)
  · refine Ev.iconst H273 i273_14 kI_0 ?_
    exact Rd.ireturnK H273 i273_15 rfl (Or.inl rfl) h
  · refine Ev.iconst H273 i273_10 kI_1 ?_
    refine Ev.goto H273 i273_11 (t := 15) (by decide) ?_
    exact Rd.ireturnK H273 i273_15 rfl (Or.inr rfl) h
theorem i274_0 : mm_cd 274 0 = some (.iload_n 0, 1, 0, 0) := rfl
theorem i274_1 : mm_cd 274 1 = some (.iconst 0, 1, 0, 0) := rfl
theorem i274_2 : mm_cd 274 2 = some (.bipush 9, 2, 0, 0) := rfl
theorem i274_4 : mm_cd 274 4 = some (.invokestatic 371, 3, 0, 189) := rfl
theorem i274_7 : mm_cd 274 7 = some (.ifCond .ne 7, 3, 0, 0) := rfl
theorem i274_10 : mm_cd 274 10 = some (.iconst 1, 1, 0, 0) := rfl
theorem i274_11 : mm_cd 274 11 = some (.goto 4, 3, 0, 0) := rfl
theorem i274_14 : mm_cd 274 14 = some (.iconst 0, 1, 0, 0) := rfl
theorem i274_15 : mm_cd 274 15 = some (.ireturn, 1, 0, 0) := rfl
/-- SerialGateModel.noKey(I)Z -/
def q274 (v0 : Int32) (s : mS) : Option mQ := bN (q189 v0 (0 : Int32) (9 : Int32) s) fun x2 s1 => if ¬ x2 = 0 then (rv (0 : Int32) s1) else (rv (1 : Int32) s1)
theorem c274 {L : Nat} {xs : Nat → Int32} {v0 : Int32} {s : mS} {r : mQ} (h : q274 v0 s = some r) : ∀ d, 1 ≤ d → Cl L xs d 274 [.int v0] (hp s) (hr r) := by
  intro d hd
  show Ev L xs d 274 0 [(0, .int v0)] [] (hp s) (hr r)
  unfold q274 at h
  refine Ev.iload_n H274 i274_0 rfl ?_
  refine Ev.iconst H274 i274_1 kI_0 ?_
  refine Ev.bipush H274 i274_2 kB_9 ?_
  refine Rd.cS3vN H274 i274_4 cal189 (Nat.le_of_ble_eq_true rfl) (Nat.le_of_ble_eq_true rfl) (Nat.lt_of_lt_of_le (by decide) hd) (fun q hq => c189 hq) h (fun x2 s1 h => ?_)
  refine Rd.if_ne H274 i274_7 (t := 14) (by decide) h (fun hc h => ?_) (fun hc h => ?_)
  · refine Ev.iconst H274 i274_14 kI_0 ?_
    exact Rd.ireturnK H274 i274_15 rfl (Or.inl rfl) h
  · refine Ev.iconst H274 i274_10 kI_1 ?_
    refine Ev.goto H274 i274_11 (t := 15) (by decide) ?_
    exact Rd.ireturnK H274 i274_15 rfl (Or.inr rfl) h
theorem i275_0 : mm_cd 275 0 = some (.iload_n 1, 1, 0, 0) := rfl
theorem i275_1 : mm_cd 275 1 = some (.iconst 0, 1, 0, 0) := rfl
theorem i275_2 : mm_cd 275 2 = some (.aload_n 0, 1, 0, 0) := rfl
theorem i275_3 : mm_cd 275 3 = some (.invokevirtual 129, 3, 0, 198) := rfl
theorem i275_6 : mm_cd 275 6 = some (.iconst 1, 1, 0, 0) := rfl
theorem i275_7 : mm_cd 275 7 = some (.isub, 1, 0, 0) := rfl
theorem i275_8 : mm_cd 275 8 = some (.invokestatic 371, 3, 0, 189) := rfl
theorem i275_11 : mm_cd 275 11 = some (.ifCond .ne 7, 3, 0, 0) := rfl
theorem i275_14 : mm_cd 275 14 = some (.iconst 1, 1, 0, 0) := rfl
theorem i275_15 : mm_cd 275 15 = some (.goto 4, 3, 0, 0) := rfl
theorem i275_18 : mm_cd 275 18 = some (.iconst 0, 1, 0, 0) := rfl
theorem i275_19 : mm_cd 275 19 = some (.ireturn, 1, 0, 0) := rfl
/-- SerialGateModel.noClient(I)Z -/
def q275 (v1 : Int32) (s : mS) : Option mQ := bN (q198 s) fun x2 s1 => bN (q189 v1 (0 : Int32) (x2 - (1 : Int32)) s1) fun x4 s3 => if ¬ x4 = 0 then (rv (0 : Int32) s3) else (rv (1 : Int32) s3)
theorem c275 {L : Nat} {xs : Nat → Int32} {v1 : Int32} {s : mS} {r : mQ} (h : q275 v1 s = some r) : ∀ d, 1 ≤ d → Cl L xs d 275 [.ref 512, .int v1] (hp s) (hr r) := by
  intro d hd
  show Ev L xs d 275 0 [(0, .ref 512), (1, .int v1)] [] (hp s) (hr r)
  unfold q275 at h
  refine Ev.iload_n H275 i275_0 rfl ?_
  refine Ev.iconst H275 i275_1 kI_0 ?_
  refine Ev.aload_n H275 i275_2 rfl ?_
  refine Rd.cV0vN H275 i275_3 cal198 ob11 (Nat.le_of_ble_eq_true rfl) (Nat.le_of_ble_eq_true rfl) (Nat.lt_of_lt_of_le (by decide) hd) (fun q hq => c198 hq) h (fun x2 s1 h => ?_)
  refine Ev.iconst H275 i275_6 kI_1 ?_
  refine Ev.isub H275 i275_7 ?_
  refine Rd.cS3vN H275 i275_8 cal189 (Nat.le_of_ble_eq_true rfl) (Nat.le_of_ble_eq_true rfl) (Nat.lt_of_lt_of_le (by decide) hd) (fun q hq => c189 hq) h (fun x4 s3 h => ?_)
  refine Rd.if_ne H275 i275_11 (t := 18) (by decide) h (fun hc h => ?_) (fun hc h => ?_)
  · refine Ev.iconst H275 i275_18 kI_0 ?_
    exact Rd.ireturnK H275 i275_19 rfl (Or.inl rfl) h
  · refine Ev.iconst H275 i275_14 kI_1 ?_
    refine Ev.goto H275 i275_15 (t := 19) (by decide) ?_
    exact Rd.ireturnK H275 i275_19 rfl (Or.inr rfl) h
theorem i276_0 : mm_cd 276 0 = some (.aload_n 0, 1, 0, 0) := rfl
theorem i276_1 : mm_cd 276 1 = some (.iconst 0, 1, 0, 0) := rfl
theorem i276_2 : mm_cd 276 2 = some (.putfield 3, 3, ((11 : Nat) : Int), 0) := rfl
theorem i276_5 : mm_cd 276 5 = some (.aload_n 0, 1, 0, 0) := rfl
theorem i276_6 : mm_cd 276 6 = some (.iload_n 1, 1, 0, 0) := rfl
theorem i276_7 : mm_cd 276 7 = some (.invokestatic 374, 3, 0, 273) := rfl
theorem i276_10 : mm_cd 276 10 = some (.iconst 1, 1, 0, 0) := rfl
theorem i276_11 : mm_cd 276 11 = some (.invokevirtual 249, 3, 0, 188) := rfl
theorem i276_14 : mm_cd 276 14 = some (.ifCond .ne 26, 3, 0, 0) := rfl
theorem i276_17 : mm_cd 276 17 = some (.aload_n 0, 1, 0, 0) := rfl
theorem i276_18 : mm_cd 276 18 = some (.iload_n 2, 1, 0, 0) := rfl
theorem i276_19 : mm_cd 276 19 = some (.iconst 0, 1, 0, 0) := rfl
theorem i276_20 : mm_cd 276 20 = some (.bipush 15, 2, 0, 0) := rfl
theorem i276_22 : mm_cd 276 22 = some (.invokestatic 371, 3, 0, 189) := rfl
theorem i276_25 : mm_cd 276 25 = some (.ifCond .ne 7, 3, 0, 0) := rfl
theorem i276_28 : mm_cd 276 28 = some (.iconst 1, 1, 0, 0) := rfl
theorem i276_29 : mm_cd 276 29 = some (.goto 4, 3, 0, 0) := rfl
theorem i276_32 : mm_cd 276 32 = some (.iconst 0, 1, 0, 0) := rfl
theorem i276_33 : mm_cd 276 33 = some (.iconst 2, 1, 0, 0) := rfl
theorem i276_34 : mm_cd 276 34 = some (.invokevirtual 249, 3, 0, 188) := rfl
theorem i276_37 : mm_cd 276 37 = some (.ifCond .eq 5, 3, 0, 0) := rfl
theorem i276_40 : mm_cd 276 40 = some (.iconst 0, 1, 0, 0) := rfl
theorem i276_41 : mm_cd 276 41 = some (.ireturn, 1, 0, 0) := rfl
theorem i276_42 : mm_cd 276 42 = some (.aload_n 0, 1, 0, 0) := rfl
theorem i276_43 : mm_cd 276 43 = some (.iload_n 1, 1, 0, 0) := rfl
theorem i276_44 : mm_cd 276 44 = some (.iconst 0, 1, 0, 0) := rfl
theorem i276_45 : mm_cd 276 45 = some (.invokevirtual 69, 3, 0, 204) := rfl
theorem i276_48 : mm_cd 276 48 = some (.ifCond .ne 13, 3, 0, 0) := rfl
theorem i276_51 : mm_cd 276 51 = some (.iload_n 2, 1, 0, 0) := rfl
theorem i276_52 : mm_cd 276 52 = some (.ifCond .ne 7, 3, 0, 0) := rfl
theorem i276_55 : mm_cd 276 55 = some (.iconst 0, 1, 0, 0) := rfl
theorem i276_56 : mm_cd 276 56 = some (.goto 4, 3, 0, 0) := rfl
theorem i276_59 : mm_cd 276 59 = some (.iconst (-1), 1, 0, 0) := rfl
theorem i276_60 : mm_cd 276 60 = some (.ireturn, 1, 0, 0) := rfl
theorem i276_61 : mm_cd 276 61 = some (.iload_n 2, 1, 0, 0) := rfl
theorem i276_62 : mm_cd 276 62 = some (.tableswitch 120 7 15 #[50, 58, 64, 70, 76, 82, 90, 98, 112], 50, 0, 0) := rfl
theorem i276_112 : mm_cd 276 112 = some (.aload_n 0, 1, 0, 0) := rfl
theorem i276_113 : mm_cd 276 113 = some (.iload_n 1, 1, 0, 0) := rfl
theorem i276_114 : mm_cd 276 114 = some (.bipush 7, 2, 0, 0) := rfl
theorem i276_116 : mm_cd 276 116 = some (.invokevirtual 69, 3, 0, 204) := rfl
theorem i276_119 : mm_cd 276 119 = some (.ireturn, 1, 0, 0) := rfl
theorem i276_120 : mm_cd 276 120 = some (.aload_n 0, 1, 0, 0) := rfl
theorem i276_121 : mm_cd 276 121 = some (.iload_n 1, 1, 0, 0) := rfl
theorem i276_122 : mm_cd 276 122 = some (.invokevirtual 255, 3, 0, 211) := rfl
theorem i276_125 : mm_cd 276 125 = some (.ireturn, 1, 0, 0) := rfl
theorem i276_126 : mm_cd 276 126 = some (.aload_n 0, 1, 0, 0) := rfl
theorem i276_127 : mm_cd 276 127 = some (.iload_n 1, 1, 0, 0) := rfl
theorem i276_128 : mm_cd 276 128 = some (.invokevirtual 295, 3, 0, 251) := rfl
theorem i276_131 : mm_cd 276 131 = some (.ireturn, 1, 0, 0) := rfl
theorem i276_132 : mm_cd 276 132 = some (.aload_n 0, 1, 0, 0) := rfl
theorem i276_133 : mm_cd 276 133 = some (.iload_n 1, 1, 0, 0) := rfl
theorem i276_134 : mm_cd 276 134 = some (.invokevirtual 298, 3, 0, 247) := rfl
theorem i276_137 : mm_cd 276 137 = some (.ireturn, 1, 0, 0) := rfl
theorem i276_138 : mm_cd 276 138 = some (.aload_n 0, 1, 0, 0) := rfl
theorem i276_139 : mm_cd 276 139 = some (.iload_n 1, 1, 0, 0) := rfl
theorem i276_140 : mm_cd 276 140 = some (.invokevirtual 337, 3, 0, 248) := rfl
theorem i276_143 : mm_cd 276 143 = some (.ireturn, 1, 0, 0) := rfl
theorem i276_144 : mm_cd 276 144 = some (.aload_n 0, 1, 0, 0) := rfl
theorem i276_145 : mm_cd 276 145 = some (.iload_n 1, 1, 0, 0) := rfl
theorem i276_146 : mm_cd 276 146 = some (.bipush 8, 2, 0, 0) := rfl
theorem i276_148 : mm_cd 276 148 = some (.invokevirtual 69, 3, 0, 204) := rfl
theorem i276_151 : mm_cd 276 151 = some (.ireturn, 1, 0, 0) := rfl
theorem i276_152 : mm_cd 276 152 = some (.aload_n 0, 1, 0, 0) := rfl
theorem i276_153 : mm_cd 276 153 = some (.iload_n 1, 1, 0, 0) := rfl
theorem i276_154 : mm_cd 276 154 = some (.bipush 9, 2, 0, 0) := rfl
theorem i276_156 : mm_cd 276 156 = some (.invokevirtual 69, 3, 0, 204) := rfl
theorem i276_159 : mm_cd 276 159 = some (.ireturn, 1, 0, 0) := rfl
theorem i276_160 : mm_cd 276 160 = some (.aload_n 0, 1, 0, 0) := rfl
theorem i276_161 : mm_cd 276 161 = some (.iload_n 1, 1, 0, 0) := rfl
theorem i276_162 : mm_cd 276 162 = some (.invokevirtual 325, 3, 0, 252) := rfl
theorem i276_165 : mm_cd 276 165 = some (.ifCond .eq 7, 3, 0, 0) := rfl
theorem i276_168 : mm_cd 276 168 = some (.iconst 1, 1, 0, 0) := rfl
theorem i276_169 : mm_cd 276 169 = some (.goto 4, 3, 0, 0) := rfl
theorem i276_172 : mm_cd 276 172 = some (.iconst 0, 1, 0, 0) := rfl
theorem i276_173 : mm_cd 276 173 = some (.ireturn, 1, 0, 0) := rfl
theorem i276_174 : mm_cd 276 174 = some (.aload_n 0, 1, 0, 0) := rfl
theorem i276_175 : mm_cd 276 175 = some (.iload_n 1, 1, 0, 0) := rfl
theorem i276_176 : mm_cd 276 176 = some (.bipush 10, 2, 0, 0) := rfl
theorem i276_178 : mm_cd 276 178 = some (.invokevirtual 69, 3, 0, 204) := rfl
theorem i276_181 : mm_cd 276 181 = some (.ireturn, 1, 0, 0) := rfl
theorem i276_182 : mm_cd 276 182 = some (.aload_n 0, 1, 0, 0) := rfl
theorem i276_183 : mm_cd 276 183 = some (.iload_n 1, 1, 0, 0) := rfl
theorem i276_184 : mm_cd 276 184 = some (.iload_n 2, 1, 0, 0) := rfl
theorem i276_185 : mm_cd 276 185 = some (.invokevirtual 69, 3, 0, 204) := rfl
theorem i276_188 : mm_cd 276 188 = some (.ireturn, 1, 0, 0) := rfl
def q276_33 (v1 : Int32) (v2 : Int32) (y1 : Int32) (s : mS) : Option mQ := bN (q188 y1 (2 : Int32) s) fun x2 s1 => if x2 = 0 then (bN (q204 v1 (0 : Int32) s1) fun x4 s3 => if ¬ x4 = 0 then (if v2 = (7 : Int32) then (bN (q204 v1 (7 : Int32) s3) fun x6 s5 => rv x6 s5) else if v2 = (8 : Int32) then (bN (q211 v1 s3) fun x8 s7 => rv x8 s7) else if v2 = (9 : Int32) then (bN (q251 v1 s3) fun x10 s9 => rv x10 s9) else if v2 = (10 : Int32) then (bN (q247 v1 s3) fun x12 s11 => rv x12 s11) else if v2 = (11 : Int32) then (bN (q248 v1 s3) fun x14 s13 => rv x14 s13) else if v2 = (12 : Int32) then (bN (q204 v1 (8 : Int32) s3) fun x16 s15 => rv x16 s15) else if v2 = (13 : Int32) then (bN (q204 v1 (9 : Int32) s3) fun x18 s17 => rv x18 s17) else if v2 = (14 : Int32) then (bN (q252 v1 s3) fun x20 s19 => if x20 = 0 then (rv (0 : Int32) s19) else (rv (1 : Int32) s19)) else if v2 = (15 : Int32) then (bN (q204 v1 (10 : Int32) s3) fun x22 s21 => rv x22 s21) else (bN (q204 v1 v2 s3) fun x24 s23 => rv x24 s23)) else (if ¬ v2 = 0 then (rv (-1 : Int32) s3) else (rv (0 : Int32) s3))) else (rv (0 : Int32) s1)
theorem t276_33 {L : Nat} {xs : Nat → Int32} {d : Nat} (hd : 8 ≤ d) {v1 : Int32} {v2 : Int32} {y1 : Int32} {s : mS} {r : mQ} (h : q276_33 v1 v2 y1 s = some r) : Ev L xs d 276 33 [(0, .ref 512), (1, .int v1), (2, .int v2)] [.int y1, .ref 512] (hp s) (hr r) := by
  unfold q276_33 at h
  refine Ev.iconst H276 i276_33 kI_2 ?_
  refine Rd.cV2vN H276 i276_34 cal188 ob11 (Nat.le_of_ble_eq_true rfl) (Nat.le_of_ble_eq_true rfl) (Nat.lt_of_lt_of_le (by decide) hd) (fun q hq => c188 hq) h (fun x2 s1 h => ?_)
  refine Rd.if_eq H276 i276_37 (t := 42) (by decide) h (fun hc h => ?_) (fun hc h => ?_)
  · refine Ev.aload_n H276 i276_42 rfl ?_
    refine Ev.iload_n H276 i276_43 rfl ?_
    refine Ev.iconst H276 i276_44 kI_0 ?_
    refine Rd.cV2vN H276 i276_45 cal204 ob11 (Nat.le_of_ble_eq_true rfl) (Nat.le_of_ble_eq_true rfl) (Nat.lt_of_lt_of_le (by decide) hd) (fun q hq => c204 hq) h (fun x4 s3 h => ?_)
    refine Rd.if_ne H276 i276_48 (t := 61) (by decide) h (fun hc h => ?_) (fun hc h => ?_)
    · refine Ev.iload_n H276 i276_61 rfl ?_
      refine Rd.sw h (fun hc h => ?_) (fun hc0 h => ?_)
      · refine Rd.tsw H276 i276_62 (t := 112) (by rw [hc]; decide) ?_
        refine Ev.aload_n H276 i276_112 rfl ?_
        refine Ev.iload_n H276 i276_113 rfl ?_
        refine Ev.bipush H276 i276_114 kB_7 ?_
        refine Rd.cV2vN H276 i276_116 cal204 ob11 (Nat.le_of_ble_eq_true rfl) (Nat.le_of_ble_eq_true rfl) (Nat.lt_of_lt_of_le (by decide) hd) (fun q hq => c204 hq) h (fun x6 s5 h => ?_)
        exact Rd.ireturn H276 i276_119 rfl h
      refine Rd.sw h (fun hc h => ?_) (fun hc1 h => ?_)
      · refine Rd.tsw H276 i276_62 (t := 120) (by rw [hc]; decide) ?_
        refine Ev.aload_n H276 i276_120 rfl ?_
        refine Ev.iload_n H276 i276_121 rfl ?_
        refine Rd.cV1vN H276 i276_122 cal211 ob11 (Nat.le_of_ble_eq_true rfl) (Nat.le_of_ble_eq_true rfl) (Nat.lt_of_lt_of_le (by decide) hd) (fun q hq => c211 hq) h (fun x8 s7 h => ?_)
        exact Rd.ireturn H276 i276_125 rfl h
      refine Rd.sw h (fun hc h => ?_) (fun hc2 h => ?_)
      · refine Rd.tsw H276 i276_62 (t := 126) (by rw [hc]; decide) ?_
        refine Ev.aload_n H276 i276_126 rfl ?_
        refine Ev.iload_n H276 i276_127 rfl ?_
        refine Rd.cV1vN H276 i276_128 cal251 ob11 (Nat.le_of_ble_eq_true rfl) (Nat.le_of_ble_eq_true rfl) (Nat.lt_of_lt_of_le (by decide) hd) (fun q hq => c251 hq) h (fun x10 s9 h => ?_)
        exact Rd.ireturn H276 i276_131 rfl h
      refine Rd.sw h (fun hc h => ?_) (fun hc3 h => ?_)
      · refine Rd.tsw H276 i276_62 (t := 132) (by rw [hc]; decide) ?_
        refine Ev.aload_n H276 i276_132 rfl ?_
        refine Ev.iload_n H276 i276_133 rfl ?_
        refine Rd.cV1vN H276 i276_134 cal247 ob11 (Nat.le_of_ble_eq_true rfl) (Nat.le_of_ble_eq_true rfl) (Nat.lt_of_lt_of_le (by decide) hd) (fun q hq => c247 hq) h (fun x12 s11 h => ?_)
        exact Rd.ireturn H276 i276_137 rfl h
      refine Rd.sw h (fun hc h => ?_) (fun hc4 h => ?_)
      · refine Rd.tsw H276 i276_62 (t := 138) (by rw [hc]; decide) ?_
        refine Ev.aload_n H276 i276_138 rfl ?_
        refine Ev.iload_n H276 i276_139 rfl ?_
        refine Rd.cV1vN H276 i276_140 cal248 ob11 (Nat.le_of_ble_eq_true rfl) (Nat.le_of_ble_eq_true rfl) (Nat.lt_of_lt_of_le (by decide) hd) (fun q hq => c248 hq) h (fun x14 s13 h => ?_)
        exact Rd.ireturn H276 i276_143 rfl h
      refine Rd.sw h (fun hc h => ?_) (fun hc5 h => ?_)
      · refine Rd.tsw H276 i276_62 (t := 144) (by rw [hc]; decide) ?_
        refine Ev.aload_n H276 i276_144 rfl ?_
        refine Ev.iload_n H276 i276_145 rfl ?_
        refine Ev.bipush H276 i276_146 kB_8 ?_
        refine Rd.cV2vN H276 i276_148 cal204 ob11 (Nat.le_of_ble_eq_true rfl) (Nat.le_of_ble_eq_true rfl) (Nat.lt_of_lt_of_le (by decide) hd) (fun q hq => c204 hq) h (fun x16 s15 h => ?_)
        exact Rd.ireturn H276 i276_151 rfl h
      refine Rd.sw h (fun hc h => ?_) (fun hc6 h => ?_)
      · refine Rd.tsw H276 i276_62 (t := 152) (by rw [hc]; decide) ?_
        refine Ev.aload_n H276 i276_152 rfl ?_
        refine Ev.iload_n H276 i276_153 rfl ?_
        refine Ev.bipush H276 i276_154 kB_9 ?_
        refine Rd.cV2vN H276 i276_156 cal204 ob11 (Nat.le_of_ble_eq_true rfl) (Nat.le_of_ble_eq_true rfl) (Nat.lt_of_lt_of_le (by decide) hd) (fun q hq => c204 hq) h (fun x18 s17 h => ?_)
        exact Rd.ireturn H276 i276_159 rfl h
      refine Rd.sw h (fun hc h => ?_) (fun hc7 h => ?_)
      · refine Rd.tsw H276 i276_62 (t := 160) (by rw [hc]; decide) ?_
        refine Ev.aload_n H276 i276_160 rfl ?_
        refine Ev.iload_n H276 i276_161 rfl ?_
        refine Rd.cV1vN H276 i276_162 cal252 ob11 (Nat.le_of_ble_eq_true rfl) (Nat.le_of_ble_eq_true rfl) (Nat.lt_of_lt_of_le (by decide) hd) (fun q hq => c252 hq) h (fun x20 s19 h => ?_)
        refine Rd.if_eq H276 i276_165 (t := 172) (by decide) h (fun hc h => ?_) (fun hc h => ?_)
        · refine Ev.iconst H276 i276_172 kI_0 ?_
          exact Rd.ireturn H276 i276_173 rfl h
        · refine Ev.iconst H276 i276_168 kI_1 ?_
          refine Ev.goto H276 i276_169 (t := 173) (by decide) ?_
          exact Rd.ireturn H276 i276_173 rfl h
      refine Rd.sw h (fun hc h => ?_) (fun hc8 h => ?_)
      · refine Rd.tsw H276 i276_62 (t := 174) (by rw [hc]; decide) ?_
        refine Ev.aload_n H276 i276_174 rfl ?_
        refine Ev.iload_n H276 i276_175 rfl ?_
        refine Ev.bipush H276 i276_176 kB_10 ?_
        refine Rd.cV2vN H276 i276_178 cal204 ob11 (Nat.le_of_ble_eq_true rfl) (Nat.le_of_ble_eq_true rfl) (Nat.lt_of_lt_of_le (by decide) hd) (fun q hq => c204 hq) h (fun x22 s21 h => ?_)
        exact Rd.ireturn H276 i276_181 rfl h
      have hsw : ∀ k : Nat, k < 9 → ¬ v2 = Int32.ofInt (7 + k) := fun k hk => match k, hk with
        | 0, _ => hc0
        | 1, _ => hc1
        | 2, _ => hc2
        | 3, _ => hc3
        | 4, _ => hc4
        | 5, _ => hc5
        | 6, _ => hc6
        | 7, _ => hc7
        | 8, _ => hc8
        | k + 9, hk => absurd hk (by omega)
      have hsq : v2.toInt < 7 ∨ 15 < v2.toInt := by have hq := mm_sw hsw; omega
      refine Rd.tsw H276 i276_62 (t := 182) (by rw [if_pos hsq]; decide) ?_
      refine Ev.aload_n H276 i276_182 rfl ?_
      refine Ev.iload_n H276 i276_183 rfl ?_
      refine Ev.iload_n H276 i276_184 rfl ?_
      refine Rd.cV2vN H276 i276_185 cal204 ob11 (Nat.le_of_ble_eq_true rfl) (Nat.le_of_ble_eq_true rfl) (Nat.lt_of_lt_of_le (by decide) hd) (fun q hq => c204 hq) h (fun x24 s23 h => ?_)
      exact Rd.ireturn H276 i276_188 rfl h
    · refine Ev.iload_n H276 i276_51 rfl ?_
      refine Rd.if_ne H276 i276_52 (t := 59) (by decide) h (fun hc h => ?_) (fun hc h => ?_)
      · refine Ev.iconst H276 i276_59 kI_m1 ?_
        exact Rd.ireturn H276 i276_60 rfl h
      · refine Ev.iconst H276 i276_55 kI_0 ?_
        refine Ev.goto H276 i276_56 (t := 60) (by decide) ?_
        exact Rd.ireturn H276 i276_60 rfl h
  · refine Ev.iconst H276 i276_40 kI_0 ?_
    exact Rd.ireturn H276 i276_41 rfl h
/-- SerialGateModel.slot(II)I -/
def q276 (v1 : Int32) (v2 : Int32) (s : mS) : Option mQ := sp (sI s 512 0 (0 : Int32)) fun s25 => bN (q273 v1 s25) fun x27 s26 => bN (q188 x27 (1 : Int32) s26) fun x29 s28 => if ¬ x29 = 0 then (rv (0 : Int32) s28) else (bN (q189 v2 (0 : Int32) (15 : Int32) s28) fun x31 s30 => if ¬ x31 = 0 then (q276_33 v1 v2 (0 : Int32) s30) else (q276_33 v1 v2 (1 : Int32) s30))
theorem c276 {L : Nat} {xs : Nat → Int32} {v1 : Int32} {v2 : Int32} {s : mS} {r : mQ} (h : q276 v1 v2 s = some r) : ∀ d, 8 ≤ d → Cl L xs d 276 [.ref 512, .int v1, .int v2] (hp s) (hr r) := by
  intro d hd
  show Ev L xs d 276 0 [(0, .ref 512), (1, .int v1), (2, .int v2)] [] (hp s) (hr r)
  unfold q276 at h
  refine Ev.aload_n H276 i276_0 rfl ?_
  refine Ev.iconst H276 i276_1 kI_0 ?_
  refine Rd.putI H276 i276_2 ob11 rfl ty11_0.1 ty11_0.2 h (fun s25 h => ?_)
  refine Ev.aload_n H276 i276_5 rfl ?_
  refine Ev.iload_n H276 i276_6 rfl ?_
  refine Rd.cS1vN H276 i276_7 cal273 (Nat.le_of_ble_eq_true rfl) (Nat.le_of_ble_eq_true rfl) (Nat.lt_of_lt_of_le (by decide) hd) (fun q hq => c273 hq) h (fun x27 s26 h => ?_)
  refine Ev.iconst H276 i276_10 kI_1 ?_
  refine Rd.cV2vN H276 i276_11 cal188 ob11 (Nat.le_of_ble_eq_true rfl) (Nat.le_of_ble_eq_true rfl) (Nat.lt_of_lt_of_le (by decide) hd) (fun q hq => c188 hq) h (fun x29 s28 h => ?_)
  refine Rd.if_ne H276 i276_14 (t := 40) (by decide) h (fun hc h => ?_) (fun hc h => ?_)
  · refine Ev.iconst H276 i276_40 kI_0 ?_
    exact Rd.ireturn H276 i276_41 rfl h
  · refine Ev.aload_n H276 i276_17 rfl ?_
    refine Ev.iload_n H276 i276_18 rfl ?_
    refine Ev.iconst H276 i276_19 kI_0 ?_
    refine Ev.bipush H276 i276_20 kB_15 ?_
    refine Rd.cS3vN H276 i276_22 cal189 (Nat.le_of_ble_eq_true rfl) (Nat.le_of_ble_eq_true rfl) (Nat.lt_of_lt_of_le (by decide) hd) (fun q hq => c189 hq) h (fun x31 s30 h => ?_)
    refine Rd.if_ne H276 i276_25 (t := 32) (by decide) h (fun hc h => ?_) (fun hc h => ?_)
    · refine Ev.iconst H276 i276_32 kI_0 ?_
      exact Ev.sub (l := [(0, .ref 512), (1, .int v1), (2, .int v2)]) rfl rfl (mm_sub_c rfl (mm_sub_c rfl (mm_sub_c rfl mm_sub_n))) (t276_33 hd h)
    · refine Ev.iconst H276 i276_28 kI_1 ?_
      refine Ev.goto H276 i276_29 (t := 33) (by decide) ?_
      exact Ev.sub (l := [(0, .ref 512), (1, .int v1), (2, .int v2)]) rfl rfl (mm_sub_c rfl (mm_sub_c rfl (mm_sub_c rfl mm_sub_n))) (t276_33 hd h)
theorem i277_0 : mm_cd 277 0 = some (.aload_n 0, 1, 0, 0) := rfl
theorem i277_1 : mm_cd 277 1 = some (.iconst 0, 1, 0, 0) := rfl
theorem i277_2 : mm_cd 277 2 = some (.putfield 3, 3, ((11 : Nat) : Int), 0) := rfl
theorem i277_5 : mm_cd 277 5 = some (.aload_n 0, 1, 0, 0) := rfl
theorem i277_6 : mm_cd 277 6 = some (.iload_n 1, 1, 0, 0) := rfl
theorem i277_7 : mm_cd 277 7 = some (.invokestatic 374, 3, 0, 273) := rfl
theorem i277_10 : mm_cd 277 10 = some (.ifCond .ne 10, 3, 0, 0) := rfl
theorem i277_13 : mm_cd 277 13 = some (.iload_n 2, 1, 0, 0) := rfl
theorem i277_14 : mm_cd 277 14 = some (.invokestatic 377, 3, 0, 274) := rfl
theorem i277_17 : mm_cd 277 17 = some (.ifCond .eq 7, 3, 0, 0) := rfl
theorem i277_20 : mm_cd 277 20 = some (.iconst 1, 1, 0, 0) := rfl
theorem i277_21 : mm_cd 277 21 = some (.goto 4, 3, 0, 0) := rfl
theorem i277_24 : mm_cd 277 24 = some (.iconst 0, 1, 0, 0) := rfl
theorem i277_25 : mm_cd 277 25 = some (.iconst 1, 1, 0, 0) := rfl
theorem i277_26 : mm_cd 277 26 = some (.invokevirtual 249, 3, 0, 188) := rfl
theorem i277_29 : mm_cd 277 29 = some (.ifCond .eq 5, 3, 0, 0) := rfl
theorem i277_32 : mm_cd 277 32 = some (.iconst 0, 1, 0, 0) := rfl
theorem i277_33 : mm_cd 277 33 = some (.ireturn, 1, 0, 0) := rfl
theorem i277_34 : mm_cd 277 34 = some (.aload_n 0, 1, 0, 0) := rfl
theorem i277_35 : mm_cd 277 35 = some (.iload_n 1, 1, 0, 0) := rfl
theorem i277_36 : mm_cd 277 36 = some (.iconst 0, 1, 0, 0) := rfl
theorem i277_37 : mm_cd 277 37 = some (.invokevirtual 69, 3, 0, 204) := rfl
theorem i277_40 : mm_cd 277 40 = some (.ifCond .ne 7, 3, 0, 0) := rfl
theorem i277_43 : mm_cd 277 43 = some (.iconst (-1), 1, 0, 0) := rfl
theorem i277_44 : mm_cd 277 44 = some (.goto 12, 3, 0, 0) := rfl
theorem i277_47 : mm_cd 277 47 = some (.aload_n 0, 1, 0, 0) := rfl
theorem i277_48 : mm_cd 277 48 = some (.iload_n 1, 1, 0, 0) := rfl
theorem i277_49 : mm_cd 277 49 = some (.bipush 11, 2, 0, 0) := rfl
theorem i277_51 : mm_cd 277 51 = some (.iload_n 2, 1, 0, 0) := rfl
theorem i277_52 : mm_cd 277 52 = some (.iadd, 1, 0, 0) := rfl
theorem i277_53 : mm_cd 277 53 = some (.invokevirtual 69, 3, 0, 204) := rfl
theorem i277_56 : mm_cd 277 56 = some (.ireturn, 1, 0, 0) := rfl
def q277_25 (v1 : Int32) (v2 : Int32) (y1 : Int32) (s : mS) : Option mQ := bN (q188 y1 (1 : Int32) s) fun x2 s1 => if x2 = 0 then (bN (q204 v1 (0 : Int32) s1) fun x4 s3 => if ¬ x4 = 0 then (bN (q204 v1 ((11 : Int32) + v2) s3) fun x6 s5 => rv x6 s5) else (rv (-1 : Int32) s3)) else (rv (0 : Int32) s1)
theorem t277_25 {L : Nat} {xs : Nat → Int32} {d : Nat} (hd : 2 ≤ d) {v1 : Int32} {v2 : Int32} {y1 : Int32} {s : mS} {r : mQ} (h : q277_25 v1 v2 y1 s = some r) : Ev L xs d 277 25 [(0, .ref 512), (1, .int v1), (2, .int v2)] [.int y1, .ref 512] (hp s) (hr r) := by
  unfold q277_25 at h
  refine Ev.iconst H277 i277_25 kI_1 ?_
  refine Rd.cV2vN H277 i277_26 cal188 ob11 (Nat.le_of_ble_eq_true rfl) (Nat.le_of_ble_eq_true rfl) (Nat.lt_of_lt_of_le (by decide) hd) (fun q hq => c188 hq) h (fun x2 s1 h => ?_)
  refine Rd.if_eq H277 i277_29 (t := 34) (by decide) h (fun hc h => ?_) (fun hc h => ?_)
  · refine Ev.aload_n H277 i277_34 rfl ?_
    refine Ev.iload_n H277 i277_35 rfl ?_
    refine Ev.iconst H277 i277_36 kI_0 ?_
    refine Rd.cV2vN H277 i277_37 cal204 ob11 (Nat.le_of_ble_eq_true rfl) (Nat.le_of_ble_eq_true rfl) (Nat.lt_of_lt_of_le (by decide) hd) (fun q hq => c204 hq) h (fun x4 s3 h => ?_)
    refine Rd.if_ne H277 i277_40 (t := 47) (by decide) h (fun hc h => ?_) (fun hc h => ?_)
    · refine Ev.aload_n H277 i277_47 rfl ?_
      refine Ev.iload_n H277 i277_48 rfl ?_
      refine Ev.bipush H277 i277_49 kB_11 ?_
      refine Ev.iload_n H277 i277_51 rfl ?_
      refine Ev.iadd H277 i277_52 ?_
      refine Rd.cV2vN H277 i277_53 cal204 ob11 (Nat.le_of_ble_eq_true rfl) (Nat.le_of_ble_eq_true rfl) (Nat.lt_of_lt_of_le (by decide) hd) (fun q hq => c204 hq) h (fun x6 s5 h => ?_)
      exact Rd.ireturn H277 i277_56 rfl h
    · refine Ev.iconst H277 i277_43 kI_m1 ?_
      refine Ev.goto H277 i277_44 (t := 56) (by decide) ?_
      exact Rd.ireturn H277 i277_56 rfl h
  · refine Ev.iconst H277 i277_32 kI_0 ?_
    exact Rd.ireturn H277 i277_33 rfl h
def q277_20 (v1 : Int32) (v2 : Int32) (s : mS) : Option mQ := q277_25 v1 v2 (1 : Int32) s
theorem t277_20 {L : Nat} {xs : Nat → Int32} {d : Nat} (hd : 2 ≤ d) {v1 : Int32} {v2 : Int32} {s : mS} {r : mQ} (h : q277_20 v1 v2 s = some r) : Ev L xs d 277 20 [(0, .ref 512), (1, .int v1), (2, .int v2)] [.ref 512] (hp s) (hr r) := by
  unfold q277_20 at h
  refine Ev.iconst H277 i277_20 kI_1 ?_
  refine Ev.goto H277 i277_21 (t := 25) (by decide) ?_
  exact Ev.sub (l := [(0, .ref 512), (1, .int v1), (2, .int v2)]) rfl rfl (mm_sub_c rfl (mm_sub_c rfl (mm_sub_c rfl mm_sub_n))) (t277_25 hd h)
/-- SerialGateModel.seen(II)I -/
def q277 (v1 : Int32) (v2 : Int32) (s : mS) : Option mQ := sp (sI s 512 0 (0 : Int32)) fun s7 => bN (q273 v1 s7) fun x9 s8 => if ¬ x9 = 0 then (q277_20 v1 v2 s8) else (bN (q274 v2 s8) fun x11 s10 => if x11 = 0 then (q277_25 v1 v2 (0 : Int32) s10) else (q277_20 v1 v2 s10))
theorem c277 {L : Nat} {xs : Nat → Int32} {v1 : Int32} {v2 : Int32} {s : mS} {r : mQ} (h : q277 v1 v2 s = some r) : ∀ d, 2 ≤ d → Cl L xs d 277 [.ref 512, .int v1, .int v2] (hp s) (hr r) := by
  intro d hd
  show Ev L xs d 277 0 [(0, .ref 512), (1, .int v1), (2, .int v2)] [] (hp s) (hr r)
  unfold q277 at h
  refine Ev.aload_n H277 i277_0 rfl ?_
  refine Ev.iconst H277 i277_1 kI_0 ?_
  refine Rd.putI H277 i277_2 ob11 rfl ty11_0.1 ty11_0.2 h (fun s7 h => ?_)
  refine Ev.aload_n H277 i277_5 rfl ?_
  refine Ev.iload_n H277 i277_6 rfl ?_
  refine Rd.cS1vN H277 i277_7 cal273 (Nat.le_of_ble_eq_true rfl) (Nat.le_of_ble_eq_true rfl) (Nat.lt_of_lt_of_le (by decide) hd) (fun q hq => c273 hq) h (fun x9 s8 h => ?_)
  refine Rd.if_ne H277 i277_10 (t := 20) (by decide) h (fun hc h => ?_) (fun hc h => ?_)
  · exact Ev.sub (l := [(0, .ref 512), (1, .int v1), (2, .int v2)]) rfl rfl (mm_sub_c rfl (mm_sub_c rfl (mm_sub_c rfl mm_sub_n))) (t277_20 hd h)
  · refine Ev.iload_n H277 i277_13 rfl ?_
    refine Rd.cS1vN H277 i277_14 cal274 (Nat.le_of_ble_eq_true rfl) (Nat.le_of_ble_eq_true rfl) (Nat.lt_of_lt_of_le (by decide) hd) (fun q hq => c274 hq) h (fun x11 s10 h => ?_)
    refine Rd.if_eq H277 i277_17 (t := 24) (by decide) h (fun hc h => ?_) (fun hc h => ?_)
    · refine Ev.iconst H277 i277_24 kI_0 ?_
      exact Ev.sub (l := [(0, .ref 512), (1, .int v1), (2, .int v2)]) rfl rfl (mm_sub_c rfl (mm_sub_c rfl (mm_sub_c rfl mm_sub_n))) (t277_25 hd h)
    · exact Ev.sub (l := [(0, .ref 512), (1, .int v1), (2, .int v2)]) rfl rfl (mm_sub_c rfl (mm_sub_c rfl (mm_sub_c rfl mm_sub_n))) (t277_20 hd h)
theorem i278_0 : mm_cd 278 0 = some (.aload_n 0, 1, 0, 0) := rfl
theorem i278_1 : mm_cd 278 1 = some (.iconst 0, 1, 0, 0) := rfl
theorem i278_2 : mm_cd 278 2 = some (.putfield 3, 3, ((11 : Nat) : Int), 0) := rfl
theorem i278_5 : mm_cd 278 5 = some (.aload_n 0, 1, 0, 0) := rfl
theorem i278_6 : mm_cd 278 6 = some (.iload_n 1, 1, 0, 0) := rfl
theorem i278_7 : mm_cd 278 7 = some (.invokestatic 377, 3, 0, 274) := rfl
theorem i278_10 : mm_cd 278 10 = some (.iconst 1, 1, 0, 0) := rfl
theorem i278_11 : mm_cd 278 11 = some (.invokevirtual 249, 3, 0, 188) := rfl
theorem i278_14 : mm_cd 278 14 = some (.ifCond .ne 25, 3, 0, 0) := rfl
theorem i278_17 : mm_cd 278 17 = some (.aload_n 0, 1, 0, 0) := rfl
theorem i278_18 : mm_cd 278 18 = some (.iload_n 2, 1, 0, 0) := rfl
theorem i278_19 : mm_cd 278 19 = some (.iconst 0, 1, 0, 0) := rfl
theorem i278_20 : mm_cd 278 20 = some (.iconst 4, 1, 0, 0) := rfl
theorem i278_21 : mm_cd 278 21 = some (.invokestatic 371, 3, 0, 189) := rfl
theorem i278_24 : mm_cd 278 24 = some (.ifCond .ne 7, 3, 0, 0) := rfl
theorem i278_27 : mm_cd 278 27 = some (.iconst 1, 1, 0, 0) := rfl
theorem i278_28 : mm_cd 278 28 = some (.goto 4, 3, 0, 0) := rfl
theorem i278_31 : mm_cd 278 31 = some (.iconst 0, 1, 0, 0) := rfl
theorem i278_32 : mm_cd 278 32 = some (.iconst 2, 1, 0, 0) := rfl
theorem i278_33 : mm_cd 278 33 = some (.invokevirtual 249, 3, 0, 188) := rfl
theorem i278_36 : mm_cd 278 36 = some (.ifCond .eq 5, 3, 0, 0) := rfl
theorem i278_39 : mm_cd 278 39 = some (.iconst 0, 1, 0, 0) := rfl
theorem i278_40 : mm_cd 278 40 = some (.ireturn, 1, 0, 0) := rfl
theorem i278_41 : mm_cd 278 41 = some (.iload_n 2, 1, 0, 0) := rfl
theorem i278_42 : mm_cd 278 42 = some (.iconst 4, 1, 0, 0) := rfl
theorem i278_43 : mm_cd 278 43 = some (.if_icmp .ne 11, 3, 0, 0) := rfl
theorem i278_46 : mm_cd 278 46 = some (.aload_n 0, 1, 0, 0) := rfl
theorem i278_47 : mm_cd 278 47 = some (.iload_n 1, 1, 0, 0) := rfl
theorem i278_48 : mm_cd 278 48 = some (.invokevirtual 142, 3, 0, 210) := rfl
theorem i278_51 : mm_cd 278 51 = some (.goto 9, 3, 0, 0) := rfl
theorem i278_54 : mm_cd 278 54 = some (.aload_n 0, 1, 0, 0) := rfl
theorem i278_55 : mm_cd 278 55 = some (.iload_n 1, 1, 0, 0) := rfl
theorem i278_56 : mm_cd 278 56 = some (.iload_n 2, 1, 0, 0) := rfl
theorem i278_57 : mm_cd 278 57 = some (.invokevirtual 146, 3, 0, 200) := rfl
theorem i278_60 : mm_cd 278 60 = some (.ireturn, 1, 0, 0) := rfl
def q278_32 (v1 : Int32) (v2 : Int32) (y1 : Int32) (s : mS) : Option mQ := bN (q188 y1 (2 : Int32) s) fun x2 s1 => if x2 = 0 then (if ¬ v2 = (4 : Int32) then (bN (q200 v1 v2 s1) fun x4 s3 => rv x4 s3) else (bN (q210 v1 s1) fun x6 s5 => rv x6 s5)) else (rv (0 : Int32) s1)
theorem t278_32 {L : Nat} {xs : Nat → Int32} {d : Nat} (hd : 4 ≤ d) {v1 : Int32} {v2 : Int32} {y1 : Int32} {s : mS} {r : mQ} (h : q278_32 v1 v2 y1 s = some r) : Ev L xs d 278 32 [(0, .ref 512), (1, .int v1), (2, .int v2)] [.int y1, .ref 512] (hp s) (hr r) := by
  unfold q278_32 at h
  refine Ev.iconst H278 i278_32 kI_2 ?_
  refine Rd.cV2vN H278 i278_33 cal188 ob11 (Nat.le_of_ble_eq_true rfl) (Nat.le_of_ble_eq_true rfl) (Nat.lt_of_lt_of_le (by decide) hd) (fun q hq => c188 hq) h (fun x2 s1 h => ?_)
  refine Rd.if_eq H278 i278_36 (t := 41) (by decide) h (fun hc h => ?_) (fun hc h => ?_)
  · refine Ev.iload_n H278 i278_41 rfl ?_
    refine Ev.iconst H278 i278_42 kI_4 ?_
    refine Rd.ic_ne H278 i278_43 (t := 54) (by decide) h (fun hc h => ?_) (fun hc h => ?_)
    · refine Ev.aload_n H278 i278_54 rfl ?_
      refine Ev.iload_n H278 i278_55 rfl ?_
      refine Ev.iload_n H278 i278_56 rfl ?_
      refine Rd.cV2vN H278 i278_57 cal200 ob11 (Nat.le_of_ble_eq_true rfl) (Nat.le_of_ble_eq_true rfl) (Nat.lt_of_lt_of_le (by decide) hd) (fun q hq => c200 hq) h (fun x4 s3 h => ?_)
      exact Rd.ireturn H278 i278_60 rfl h
    · refine Ev.aload_n H278 i278_46 rfl ?_
      refine Ev.iload_n H278 i278_47 rfl ?_
      refine Rd.cV1vN H278 i278_48 cal210 ob11 (Nat.le_of_ble_eq_true rfl) (Nat.le_of_ble_eq_true rfl) (Nat.lt_of_lt_of_le (by decide) hd) (fun q hq => c210 hq) h (fun x6 s5 h => ?_)
      refine Ev.goto H278 i278_51 (t := 60) (by decide) ?_
      exact Rd.ireturn H278 i278_60 rfl h
  · refine Ev.iconst H278 i278_39 kI_0 ?_
    exact Rd.ireturn H278 i278_40 rfl h
/-- SerialGateModel.key(II)I -/
def q278 (v1 : Int32) (v2 : Int32) (s : mS) : Option mQ := sp (sI s 512 0 (0 : Int32)) fun s7 => bN (q274 v1 s7) fun x9 s8 => bN (q188 x9 (1 : Int32) s8) fun x11 s10 => if ¬ x11 = 0 then (rv (0 : Int32) s10) else (bN (q189 v2 (0 : Int32) (4 : Int32) s10) fun x13 s12 => if ¬ x13 = 0 then (q278_32 v1 v2 (0 : Int32) s12) else (q278_32 v1 v2 (1 : Int32) s12))
theorem c278 {L : Nat} {xs : Nat → Int32} {v1 : Int32} {v2 : Int32} {s : mS} {r : mQ} (h : q278 v1 v2 s = some r) : ∀ d, 4 ≤ d → Cl L xs d 278 [.ref 512, .int v1, .int v2] (hp s) (hr r) := by
  intro d hd
  show Ev L xs d 278 0 [(0, .ref 512), (1, .int v1), (2, .int v2)] [] (hp s) (hr r)
  unfold q278 at h
  refine Ev.aload_n H278 i278_0 rfl ?_
  refine Ev.iconst H278 i278_1 kI_0 ?_
  refine Rd.putI H278 i278_2 ob11 rfl ty11_0.1 ty11_0.2 h (fun s7 h => ?_)
  refine Ev.aload_n H278 i278_5 rfl ?_
  refine Ev.iload_n H278 i278_6 rfl ?_
  refine Rd.cS1vN H278 i278_7 cal274 (Nat.le_of_ble_eq_true rfl) (Nat.le_of_ble_eq_true rfl) (Nat.lt_of_lt_of_le (by decide) hd) (fun q hq => c274 hq) h (fun x9 s8 h => ?_)
  refine Ev.iconst H278 i278_10 kI_1 ?_
  refine Rd.cV2vN H278 i278_11 cal188 ob11 (Nat.le_of_ble_eq_true rfl) (Nat.le_of_ble_eq_true rfl) (Nat.lt_of_lt_of_le (by decide) hd) (fun q hq => c188 hq) h (fun x11 s10 h => ?_)
  refine Rd.if_ne H278 i278_14 (t := 39) (by decide) h (fun hc h => ?_) (fun hc h => ?_)
  · refine Ev.iconst H278 i278_39 kI_0 ?_
    exact Rd.ireturn H278 i278_40 rfl h
  · refine Ev.aload_n H278 i278_17 rfl ?_
    refine Ev.iload_n H278 i278_18 rfl ?_
    refine Ev.iconst H278 i278_19 kI_0 ?_
    refine Ev.iconst H278 i278_20 kI_4 ?_
    refine Rd.cS3vN H278 i278_21 cal189 (Nat.le_of_ble_eq_true rfl) (Nat.le_of_ble_eq_true rfl) (Nat.lt_of_lt_of_le (by decide) hd) (fun q hq => c189 hq) h (fun x13 s12 h => ?_)
    refine Rd.if_ne H278 i278_24 (t := 31) (by decide) h (fun hc h => ?_) (fun hc h => ?_)
    · refine Ev.iconst H278 i278_31 kI_0 ?_
      exact Ev.sub (l := [(0, .ref 512), (1, .int v1), (2, .int v2)]) rfl rfl (mm_sub_c rfl (mm_sub_c rfl (mm_sub_c rfl mm_sub_n))) (t278_32 hd h)
    · refine Ev.iconst H278 i278_27 kI_1 ?_
      refine Ev.goto H278 i278_28 (t := 32) (by decide) ?_
      exact Ev.sub (l := [(0, .ref 512), (1, .int v1), (2, .int v2)]) rfl rfl (mm_sub_c rfl (mm_sub_c rfl (mm_sub_c rfl mm_sub_n))) (t278_32 hd h)
theorem i279_0 : mm_cd 279 0 = some (.iconst 0, 1, 0, 0) := rfl
theorem i279_1 : mm_cd 279 1 = some (.istore_n 1, 1, 0, 0) := rfl
theorem i279_2 : mm_cd 279 2 = some (.iconst 0, 1, 0, 0) := rfl
theorem i279_3 : mm_cd 279 3 = some (.istore_n 2, 1, 0, 0) := rfl
theorem i279_4 : mm_cd 279 4 = some (.iload_n 2, 1, 0, 0) := rfl
theorem i279_5 : mm_cd 279 5 = some (.aload_n 0, 1, 0, 0) := rfl
theorem i279_6 : mm_cd 279 6 = some (.invokevirtual 129, 3, 0, 198) := rfl
theorem i279_9 : mm_cd 279 9 = some (.if_icmp .ge 18, 3, 0, 0) := rfl
theorem i279_12 : mm_cd 279 12 = some (.iload_n 1, 1, 0, 0) := rfl
theorem i279_13 : mm_cd 279 13 = some (.aload_n 0, 1, 0, 0) := rfl
theorem i279_14 : mm_cd 279 14 = some (.iload_n 2, 1, 0, 0) := rfl
theorem i279_15 : mm_cd 279 15 = some (.iconst 4, 1, 0, 0) := rfl
theorem i279_16 : mm_cd 279 16 = some (.invokevirtual 72, 3, 0, 202) := rfl
theorem i279_19 : mm_cd 279 19 = some (.iadd, 1, 0, 0) := rfl
theorem i279_20 : mm_cd 279 20 = some (.istore_n 1, 1, 0, 0) := rfl
theorem i279_21 : mm_cd 279 21 = some (.iinc 2 1, 3, 0, 0) := rfl
theorem i279_24 : mm_cd 279 24 = some (.goto (-20), 3, 0, 0) := rfl
theorem i279_27 : mm_cd 279 27 = some (.iload_n 1, 1, 0, 0) := rfl
theorem i279_28 : mm_cd 279 28 = some (.ireturn, 1, 0, 0) := rfl
def q279_4 : Nat → Int32 → Int32 → mS → Option mQ
  | 0, _, _, _ => none
  | n + 1, v1, v2, s => bN (q198 s) fun x2 s1 => if x2 ≤ v2 then (rv v1 s1) else (bN (q202 v2 (4 : Int32) s1) fun x4 s3 => bx (v1 + x4) fun x5 => bx (v2 + (1 : Int32)) fun x6 => q279_4 n x5 x6 s3)
theorem t279_4 {L : Nat} {xs : Nat → Int32} {d : Nat} (hd : 2 ≤ d) : ∀ (n : Nat) (v1 : Int32) (v2 : Int32) (s : mS) (r : mQ), q279_4 n v1 v2 s = some r → Ev L xs d 279 4 [(0, .ref 512), (1, .int v1), (2, .int v2)] [] (hp s) (hr r) := by
  intro n
  induction n with
  | zero => intro v1 v2 s r h; rw [q279_4] at h; cases h
  | succ n ih =>
    intro v1 v2 s r h
    rw [q279_4] at h
    refine Ev.iload_n H279 i279_4 rfl ?_
    refine Ev.aload_n H279 i279_5 rfl ?_
    refine Rd.cV0vN H279 i279_6 cal198 ob11 (Nat.le_of_ble_eq_true rfl) (Nat.le_of_ble_eq_true rfl) (Nat.lt_of_lt_of_le (by decide) hd) (fun q hq => c198 hq) h (fun x2 s1 h => ?_)
    refine Rd.ic_ge H279 i279_9 (t := 27) (by decide) h (fun hc h => ?_) (fun hc h => ?_)
    · refine Ev.iload_n H279 i279_27 rfl ?_
      exact Rd.ireturn H279 i279_28 rfl h
    · refine Ev.iload_n H279 i279_12 rfl ?_
      refine Ev.aload_n H279 i279_13 rfl ?_
      refine Ev.iload_n H279 i279_14 rfl ?_
      refine Ev.iconst H279 i279_15 kI_4 ?_
      refine Rd.cV2vN H279 i279_16 cal202 ob11 (Nat.le_of_ble_eq_true rfl) (Nat.le_of_ble_eq_true rfl) (Nat.lt_of_lt_of_le (by decide) hd) (fun q hq => c202 hq) h (fun x4 s3 h => ?_)
      refine Ev.iadd H279 i279_19 ?_
      refine Rd.istore_n H279 i279_20 (Nat.le_of_ble_eq_true rfl) (lv2 := fun x5 => [(1, .int x5), (0, .ref 512), (2, .int v2)]) (fun _ => rfl) h (fun x5 h => ?_)
      refine Rd.iinc H279 i279_21 (Nat.le_of_ble_eq_true rfl) rfl kI_1 (lv2 := fun x6 => [(2, .int x6), (1, .int x5), (0, .ref 512)]) (fun _ => rfl) h (fun x6 h => ?_)
      refine Ev.goto H279 i279_24 (t := 4) (by decide) ?_
      exact Ev.sub (l := [(0, .ref 512), (1, .int x5), (2, .int x6)]) rfl rfl (mm_sub_c rfl (mm_sub_c rfl (mm_sub_c rfl mm_sub_n))) (ih _ _ _ _ h)
/-- SerialGateModel.doneOfAll()I -/
def q279 (s : mS) : Option mQ := q279_4 10000 (0 : Int32) (0 : Int32) s
theorem c279 {L : Nat} {xs : Nat → Int32} {s : mS} {r : mQ} (h : q279 s = some r) : ∀ d, 2 ≤ d → Cl L xs d 279 [.ref 512] (hp s) (hr r) := by
  intro d hd
  show Ev L xs d 279 0 [(0, .ref 512)] [] (hp s) (hr r)
  unfold q279 at h
  refine Ev.iconst H279 i279_0 kI_0 ?_
  refine Ev.istore_n H279 i279_1 (Nat.le_of_ble_eq_true rfl) (lv2 := [(1, .int (0 : Int32)), (0, .ref 512)]) rfl ?_
  refine Ev.iconst H279 i279_2 kI_0 ?_
  refine Ev.istore_n H279 i279_3 (Nat.le_of_ble_eq_true rfl) (lv2 := [(2, .int (0 : Int32)), (1, .int (0 : Int32)), (0, .ref 512)]) rfl ?_
  exact Ev.sub (l := [(0, .ref 512), (1, .int (0 : Int32)), (2, .int (0 : Int32))]) rfl rfl (mm_sub_c rfl (mm_sub_c rfl (mm_sub_c rfl mm_sub_n))) (t279_4 hd 10000 _ _ _ _ h)
theorem i301_0 : mm_cd 301 0 = some (.aload_n 0, 1, 0, 0) := rfl
theorem i301_1 : mm_cd 301 1 = some (.iload_n 1, 1, 0, 0) := rfl
theorem i301_2 : mm_cd 301 2 = some (.iconst 0, 1, 0, 0) := rfl
theorem i301_3 : mm_cd 301 3 = some (.invokevirtual 72, 3, 0, 202) := rfl
theorem i301_6 : mm_cd 301 6 = some (.aload_n 0, 1, 0, 0) := rfl
theorem i301_7 : mm_cd 301 7 = some (.iload_n 1, 1, 0, 0) := rfl
theorem i301_8 : mm_cd 301 8 = some (.iconst 1, 1, 0, 0) := rfl
theorem i301_9 : mm_cd 301 9 = some (.invokevirtual 72, 3, 0, 202) := rfl
theorem i301_12 : mm_cd 301 12 = some (.ior, 1, 0, 0) := rfl
theorem i301_13 : mm_cd 301 13 = some (.ireturn, 1, 0, 0) := rfl
/-- SerialGateModel.usedBy(I)I -/
def q301 (v1 : Int32) (s : mS) : Option mQ := bN (q202 v1 (0 : Int32) s) fun x2 s1 => bN (q202 v1 (1 : Int32) s1) fun x4 s3 => rv (x2 ||| x4) s3
theorem c301 {L : Nat} {xs : Nat → Int32} {v1 : Int32} {s : mS} {r : mQ} (h : q301 v1 s = some r) : ∀ d, 2 ≤ d → Cl L xs d 301 [.ref 512, .int v1] (hp s) (hr r) := by
  intro d hd
  show Ev L xs d 301 0 [(0, .ref 512), (1, .int v1)] [] (hp s) (hr r)
  unfold q301 at h
  refine Ev.aload_n H301 i301_0 rfl ?_
  refine Ev.iload_n H301 i301_1 rfl ?_
  refine Ev.iconst H301 i301_2 kI_0 ?_
  refine Rd.cV2vN H301 i301_3 cal202 ob11 (Nat.le_of_ble_eq_true rfl) (Nat.le_of_ble_eq_true rfl) (Nat.lt_of_lt_of_le (by decide) hd) (fun q hq => c202 hq) h (fun x2 s1 h => ?_)
  refine Ev.aload_n H301 i301_6 rfl ?_
  refine Ev.iload_n H301 i301_7 rfl ?_
  refine Ev.iconst H301 i301_8 kI_1 ?_
  refine Rd.cV2vN H301 i301_9 cal202 ob11 (Nat.le_of_ble_eq_true rfl) (Nat.le_of_ble_eq_true rfl) (Nat.lt_of_lt_of_le (by decide) hd) (fun q hq => c202 hq) h (fun x4 s3 h => ?_)
  refine Ev.ior H301 i301_12 ?_
  exact Rd.ireturn H301 i301_13 rfl h
theorem i302_0 : mm_cd 302 0 = some (.aload_n 0, 1, 0, 0) := rfl
theorem i302_1 : mm_cd 302 1 = some (.iload_n 1, 1, 0, 0) := rfl
theorem i302_2 : mm_cd 302 2 = some (.iconst 1, 1, 0, 0) := rfl
theorem i302_3 : mm_cd 302 3 = some (.invokevirtual 72, 3, 0, 202) := rfl
theorem i302_6 : mm_cd 302 6 = some (.aload_n 0, 1, 0, 0) := rfl
theorem i302_7 : mm_cd 302 7 = some (.iload_n 2, 1, 0, 0) := rfl
theorem i302_8 : mm_cd 302 8 = some (.invokevirtual 423, 3, 0, 301) := rfl
theorem i302_11 : mm_cd 302 11 = some (.iand, 1, 0, 0) := rfl
theorem i302_12 : mm_cd 302 12 = some (.aload_n 0, 1, 0, 0) := rfl
theorem i302_13 : mm_cd 302 13 = some (.iload_n 2, 1, 0, 0) := rfl
theorem i302_14 : mm_cd 302 14 = some (.iconst 1, 1, 0, 0) := rfl
theorem i302_15 : mm_cd 302 15 = some (.invokevirtual 72, 3, 0, 202) := rfl
theorem i302_18 : mm_cd 302 18 = some (.aload_n 0, 1, 0, 0) := rfl
theorem i302_19 : mm_cd 302 19 = some (.iload_n 1, 1, 0, 0) := rfl
theorem i302_20 : mm_cd 302 20 = some (.invokevirtual 423, 3, 0, 301) := rfl
theorem i302_23 : mm_cd 302 23 = some (.iand, 1, 0, 0) := rfl
theorem i302_24 : mm_cd 302 24 = some (.ior, 1, 0, 0) := rfl
theorem i302_25 : mm_cd 302 25 = some (.ifCond .eq 7, 3, 0, 0) := rfl
theorem i302_28 : mm_cd 302 28 = some (.iconst 1, 1, 0, 0) := rfl
theorem i302_29 : mm_cd 302 29 = some (.goto 4, 3, 0, 0) := rfl
theorem i302_32 : mm_cd 302 32 = some (.iconst 0, 1, 0, 0) := rfl
theorem i302_33 : mm_cd 302 33 = some (.ireturn, 1, 0, 0) := rfl
/-- SerialGateModel.doClash(II)Z -/
def q302 (v1 : Int32) (v2 : Int32) (s : mS) : Option mQ := bN (q202 v1 (1 : Int32) s) fun x2 s1 => bN (q301 v2 s1) fun x4 s3 => bN (q202 v2 (1 : Int32) s3) fun x6 s5 => bN (q301 v1 s5) fun x8 s7 => if ((x2 &&& x4) ||| (x6 &&& x8)) = 0 then (rv (0 : Int32) s7) else (rv (1 : Int32) s7)
theorem c302 {L : Nat} {xs : Nat → Int32} {v1 : Int32} {v2 : Int32} {s : mS} {r : mQ} (h : q302 v1 v2 s = some r) : ∀ d, 3 ≤ d → Cl L xs d 302 [.ref 512, .int v1, .int v2] (hp s) (hr r) := by
  intro d hd
  show Ev L xs d 302 0 [(0, .ref 512), (1, .int v1), (2, .int v2)] [] (hp s) (hr r)
  unfold q302 at h
  refine Ev.aload_n H302 i302_0 rfl ?_
  refine Ev.iload_n H302 i302_1 rfl ?_
  refine Ev.iconst H302 i302_2 kI_1 ?_
  refine Rd.cV2vN H302 i302_3 cal202 ob11 (Nat.le_of_ble_eq_true rfl) (Nat.le_of_ble_eq_true rfl) (Nat.lt_of_lt_of_le (by decide) hd) (fun q hq => c202 hq) h (fun x2 s1 h => ?_)
  refine Ev.aload_n H302 i302_6 rfl ?_
  refine Ev.iload_n H302 i302_7 rfl ?_
  refine Rd.cV1vN H302 i302_8 cal301 ob11 (Nat.le_of_ble_eq_true rfl) (Nat.le_of_ble_eq_true rfl) (Nat.lt_of_lt_of_le (by decide) hd) (fun q hq => c301 hq) h (fun x4 s3 h => ?_)
  refine Ev.iand H302 i302_11 ?_
  refine Ev.aload_n H302 i302_12 rfl ?_
  refine Ev.iload_n H302 i302_13 rfl ?_
  refine Ev.iconst H302 i302_14 kI_1 ?_
  refine Rd.cV2vN H302 i302_15 cal202 ob11 (Nat.le_of_ble_eq_true rfl) (Nat.le_of_ble_eq_true rfl) (Nat.lt_of_lt_of_le (by decide) hd) (fun q hq => c202 hq) h (fun x6 s5 h => ?_)
  refine Ev.aload_n H302 i302_18 rfl ?_
  refine Ev.iload_n H302 i302_19 rfl ?_
  refine Rd.cV1vN H302 i302_20 cal301 ob11 (Nat.le_of_ble_eq_true rfl) (Nat.le_of_ble_eq_true rfl) (Nat.lt_of_lt_of_le (by decide) hd) (fun q hq => c301 hq) h (fun x8 s7 h => ?_)
  refine Ev.iand H302 i302_23 ?_
  refine Ev.ior H302 i302_24 ?_
  refine Rd.if_eq H302 i302_25 (t := 32) (by decide) h (fun hc h => ?_) (fun hc h => ?_)
  · refine Ev.iconst H302 i302_32 kI_0 ?_
    exact Rd.ireturnK H302 i302_33 rfl (Or.inl rfl) h
  · refine Ev.iconst H302 i302_28 kI_1 ?_
    refine Ev.goto H302 i302_29 (t := 33) (by decide) ?_
    exact Rd.ireturnK H302 i302_33 rfl (Or.inr rfl) h
theorem i307_0 : mm_cd 307 0 = some (.iload_n 1, 1, 0, 0) := rfl
theorem i307_1 : mm_cd 307 1 = some (.istore_n 3, 1, 0, 0) := rfl
theorem i307_2 : mm_cd 307 2 = some (.iconst 0, 1, 0, 0) := rfl
theorem i307_3 : mm_cd 307 3 = some (.istore 4, 2, 0, 0) := rfl
theorem i307_5 : mm_cd 307 5 = some (.iconst 1, 1, 0, 0) := rfl
theorem i307_6 : mm_cd 307 6 = some (.istore 5, 2, 0, 0) := rfl
theorem i307_8 : mm_cd 307 8 = some (.aload_n 0, 1, 0, 0) := rfl
theorem i307_9 : mm_cd 307 9 = some (.invokevirtual 129, 3, 0, 198) := rfl
theorem i307_12 : mm_cd 307 12 = some (.iconst 1, 1, 0, 0) := rfl
theorem i307_13 : mm_cd 307 13 = some (.isub, 1, 0, 0) := rfl
theorem i307_14 : mm_cd 307 14 = some (.istore 6, 2, 0, 0) := rfl
theorem i307_16 : mm_cd 307 16 = some (.iload 6, 2, 0, 0) := rfl
theorem i307_18 : mm_cd 307 18 = some (.ifCond .lt 23, 3, 0, 0) := rfl
theorem i307_21 : mm_cd 307 21 = some (.aload_n 0, 1, 0, 0) := rfl
theorem i307_22 : mm_cd 307 22 = some (.getfield 42, 3, ((11 : Nat) : Int), 19) := rfl
theorem i307_25 : mm_cd 307 25 = some (.iload 6, 2, 0, 0) := rfl
theorem i307_27 : mm_cd 307 27 = some (.iload_n 3, 1, 0, 0) := rfl
theorem i307_28 : mm_cd 307 28 = some (.iconst 5, 1, 0, 0) := rfl
theorem i307_29 : mm_cd 307 29 = some (.irem, 1, 0, 0) := rfl
theorem i307_30 : mm_cd 307 30 = some (.iastore, 1, 0, 0) := rfl
theorem i307_31 : mm_cd 307 31 = some (.iload_n 3, 1, 0, 0) := rfl
theorem i307_32 : mm_cd 307 32 = some (.iconst 5, 1, 0, 0) := rfl
theorem i307_33 : mm_cd 307 33 = some (.idiv, 1, 0, 0) := rfl
theorem i307_34 : mm_cd 307 34 = some (.istore_n 3, 1, 0, 0) := rfl
theorem i307_35 : mm_cd 307 35 = some (.iinc 6 (-1), 3, 0, 0) := rfl
theorem i307_38 : mm_cd 307 38 = some (.goto (-22), 3, 0, 0) := rfl
theorem i307_41 : mm_cd 307 41 = some (.iconst 0, 1, 0, 0) := rfl
theorem i307_42 : mm_cd 307 42 = some (.istore 6, 2, 0, 0) := rfl
theorem i307_44 : mm_cd 307 44 = some (.iload 6, 2, 0, 0) := rfl
theorem i307_46 : mm_cd 307 46 = some (.aload_n 0, 1, 0, 0) := rfl
theorem i307_47 : mm_cd 307 47 = some (.invokevirtual 129, 3, 0, 198) := rfl
theorem i307_50 : mm_cd 307 50 = some (.if_icmp .ge 116, 3, 0, 0) := rfl
theorem i307_53 : mm_cd 307 53 = some (.iload 5, 2, 0, 0) := rfl
theorem i307_55 : mm_cd 307 55 = some (.ifCond .eq 111, 3, 0, 0) := rfl
theorem i307_58 : mm_cd 307 58 = some (.aload_n 0, 1, 0, 0) := rfl
theorem i307_59 : mm_cd 307 59 = some (.getfield 42, 3, ((11 : Nat) : Int), 19) := rfl
theorem i307_62 : mm_cd 307 62 = some (.iload 6, 2, 0, 0) := rfl
theorem i307_64 : mm_cd 307 64 = some (.iaload, 1, 0, 0) := rfl
theorem i307_65 : mm_cd 307 65 = some (.iload 4, 2, 0, 0) := rfl
theorem i307_67 : mm_cd 307 67 = some (.if_icmp .gt 18, 3, 0, 0) := rfl
theorem i307_70 : mm_cd 307 70 = some (.aload_n 0, 1, 0, 0) := rfl
theorem i307_71 : mm_cd 307 71 = some (.getfield 42, 3, ((11 : Nat) : Int), 19) := rfl
theorem i307_74 : mm_cd 307 74 = some (.iload 6, 2, 0, 0) := rfl
theorem i307_76 : mm_cd 307 76 = some (.iaload, 1, 0, 0) := rfl
theorem i307_77 : mm_cd 307 77 = some (.iload_n 2, 1, 0, 0) := rfl
theorem i307_78 : mm_cd 307 78 = some (.if_icmp .ge 7, 3, 0, 0) := rfl
theorem i307_81 : mm_cd 307 81 = some (.iconst 1, 1, 0, 0) := rfl
theorem i307_82 : mm_cd 307 82 = some (.goto 4, 3, 0, 0) := rfl
theorem i307_85 : mm_cd 307 85 = some (.iconst 0, 1, 0, 0) := rfl
theorem i307_86 : mm_cd 307 86 = some (.istore 5, 2, 0, 0) := rfl
theorem i307_88 : mm_cd 307 88 = some (.iload 4, 2, 0, 0) := rfl
theorem i307_90 : mm_cd 307 90 = some (.aload_n 0, 1, 0, 0) := rfl
theorem i307_91 : mm_cd 307 91 = some (.getfield 42, 3, ((11 : Nat) : Int), 19) := rfl
theorem i307_94 : mm_cd 307 94 = some (.iload 6, 2, 0, 0) := rfl
theorem i307_96 : mm_cd 307 96 = some (.iaload, 1, 0, 0) := rfl
theorem i307_97 : mm_cd 307 97 = some (.iconst 1, 1, 0, 0) := rfl
theorem i307_98 : mm_cd 307 98 = some (.iadd, 1, 0, 0) := rfl
theorem i307_99 : mm_cd 307 99 = some (.invokestatic 276, 3, 2, 0) := rfl
theorem i307_102 : mm_cd 307 102 = some (.istore 4, 2, 0, 0) := rfl
theorem i307_104 : mm_cd 307 104 = some (.iconst 0, 1, 0, 0) := rfl
theorem i307_105 : mm_cd 307 105 = some (.istore 7, 2, 0, 0) := rfl
theorem i307_107 : mm_cd 307 107 = some (.iload 7, 2, 0, 0) := rfl
theorem i307_109 : mm_cd 307 109 = some (.iload 6, 2, 0, 0) := rfl
theorem i307_111 : mm_cd 307 111 = some (.if_icmp .ge 49, 3, 0, 0) := rfl
theorem i307_114 : mm_cd 307 114 = some (.iload 5, 2, 0, 0) := rfl
theorem i307_116 : mm_cd 307 116 = some (.ifCond .eq 44, 3, 0, 0) := rfl
theorem i307_119 : mm_cd 307 119 = some (.aload_n 0, 1, 0, 0) := rfl
theorem i307_120 : mm_cd 307 120 = some (.getfield 42, 3, ((11 : Nat) : Int), 19) := rfl
theorem i307_123 : mm_cd 307 123 = some (.iload 7, 2, 0, 0) := rfl
theorem i307_125 : mm_cd 307 125 = some (.iaload, 1, 0, 0) := rfl
theorem i307_126 : mm_cd 307 126 = some (.aload_n 0, 1, 0, 0) := rfl
theorem i307_127 : mm_cd 307 127 = some (.getfield 42, 3, ((11 : Nat) : Int), 19) := rfl
theorem i307_130 : mm_cd 307 130 = some (.iload 6, 2, 0, 0) := rfl
theorem i307_132 : mm_cd 307 132 = some (.iaload, 1, 0, 0) := rfl
theorem i307_133 : mm_cd 307 133 = some (.if_icmp .ne 14, 3, 0, 0) := rfl
theorem i307_136 : mm_cd 307 136 = some (.aload_n 0, 1, 0, 0) := rfl
theorem i307_137 : mm_cd 307 137 = some (.iload 7, 2, 0, 0) := rfl
theorem i307_139 : mm_cd 307 139 = some (.iload 6, 2, 0, 0) := rfl
theorem i307_141 : mm_cd 307 141 = some (.invokevirtual 429, 3, 0, 302) := rfl
theorem i307_144 : mm_cd 307 144 = some (.ifCond .ne 7, 3, 0, 0) := rfl
theorem i307_147 : mm_cd 307 147 = some (.iconst 1, 1, 0, 0) := rfl
theorem i307_148 : mm_cd 307 148 = some (.goto 4, 3, 0, 0) := rfl
theorem i307_151 : mm_cd 307 151 = some (.iconst 0, 1, 0, 0) := rfl
theorem i307_152 : mm_cd 307 152 = some (.istore 5, 2, 0, 0) := rfl
theorem i307_154 : mm_cd 307 154 = some (.iinc 7 1, 3, 0, 0) := rfl
theorem i307_157 : mm_cd 307 157 = some (.goto (-50), 3, 0, 0) := rfl
theorem i307_160 : mm_cd 307 160 = some (.iinc 6 1, 3, 0, 0) := rfl
theorem i307_163 : mm_cd 307 163 = some (.goto (-119), 3, 0, 0) := rfl
theorem i307_166 : mm_cd 307 166 = some (.iload 5, 2, 0, 0) := rfl
theorem i307_168 : mm_cd 307 168 = some (.ireturn, 1, 0, 0) := rfl
def q307_16 (k41 : Int32 → Int32 → Int32 → mS → Option mQ) : Nat → Int32 → Int32 → Int32 → Int32 → Int32 → mS → Option mQ
  | 0, _, _, _, _, _, _ => none
  | n + 1, v2, v3, v4, v5, v6, s => if v6 < 0 then (k41 v2 v4 v5 s) else (gZ (5 : Int32) <| gA 5 v6 <| sp (sI s 521 v6.toNatClampNeg (rmI v3 (5 : Int32))) fun s1 => gZ (5 : Int32) <| bx (v3 / (5 : Int32)) fun x2 => bx (v6 + (-1 : Int32)) fun x3 => q307_16 k41 n v2 x2 v4 v5 x3 s1)
theorem t307_16 {L : Nat} {xs : Nat → Int32} {d : Nat} {k41 : Int32 → Int32 → Int32 → mS → Option mQ} (hk41 : ∀ (v2 : Int32) (v4 : Int32) (v5 : Int32) (s : mS) (r : mQ), k41 v2 v4 v5 s = some r → Ev L xs d 307 41 [(0, .ref 512), (2, .int v2), (4, .int v4), (5, .int v5)] [] (hp s) (hr r)) (hd : 4 ≤ d) : ∀ (n : Nat) (v2 : Int32) (v3 : Int32) (v4 : Int32) (v5 : Int32) (v6 : Int32) (s : mS) (r : mQ), q307_16 k41 n v2 v3 v4 v5 v6 s = some r → Ev L xs d 307 16 [(0, .ref 512), (2, .int v2), (3, .int v3), (4, .int v4), (5, .int v5), (6, .int v6)] [] (hp s) (hr r) := by
  intro n
  induction n with
  | zero => intro v2 v3 v4 v5 v6 s r h; rw [q307_16] at h; cases h
  | succ n ih =>
    intro v2 v3 v4 v5 v6 s r h
    rw [q307_16] at h
    refine Ev.iload H307 i307_16 rfl ?_
    refine Rd.if_lt H307 i307_18 (t := 41) (by decide) h (fun hc h => ?_) (fun hc h => ?_)
    · exact Ev.sub (l := [(0, .ref 512), (2, .int v2), (4, .int v4), (5, .int v5)]) rfl rfl (mm_sub_c rfl (mm_sub_c rfl (mm_sub_c rfl (mm_sub_c rfl mm_sub_n)))) (hk41 _ _ _ _ _ h)
    · refine Ev.aload_n H307 i307_21 rfl ?_
      refine Rd.getR H307 i307_22 ob11 rfl ?_
      refine Ev.iload H307 i307_25 rfl ?_
      refine Ev.iload_n H307 i307_27 rfl ?_
      refine Ev.iconst H307 i307_28 kI_5 ?_
      refine Rd.irem H307 i307_29 h (fun h => ?_)
      refine Rd.iastore H307 i307_30 ar_521 h (fun s1 h => ?_)
      refine Ev.iload_n H307 i307_31 rfl ?_
      refine Ev.iconst H307 i307_32 kI_5 ?_
      refine Rd.idiv H307 i307_33 h (fun h => ?_)
      refine Rd.istore_n H307 i307_34 (Nat.le_of_ble_eq_true rfl) (lv2 := fun x2 => [(3, .int x2), (0, .ref 512), (2, .int v2), (4, .int v4), (5, .int v5), (6, .int v6)]) (fun _ => rfl) h (fun x2 h => ?_)
      refine Rd.iinc H307 i307_35 (Nat.le_of_ble_eq_true rfl) rfl kI_m1 (lv2 := fun x3 => [(6, .int x3), (3, .int x2), (0, .ref 512), (2, .int v2), (4, .int v4), (5, .int v5)]) (fun _ => rfl) h (fun x3 h => ?_)
      refine Ev.goto H307 i307_38 (t := 16) (by decide) ?_
      exact Ev.sub (l := [(0, .ref 512), (2, .int v2), (3, .int x2), (4, .int v4), (5, .int v5), (6, .int x3)]) rfl rfl (mm_sub_c rfl (mm_sub_c rfl (mm_sub_c rfl (mm_sub_c rfl (mm_sub_c rfl (mm_sub_c rfl mm_sub_n)))))) (ih _ _ _ _ _ _ _ h)
def q307_152 (k107 : Int32 → Int32 → Int32 → Int32 → Int32 → mS → Option mQ) (v2 : Int32) (v4 : Int32) (v6 : Int32) (v7 : Int32) (y0 : Int32) (s : mS) : Option mQ := bx (v7 + (1 : Int32)) fun x4 => k107 v2 v4 y0 v6 x4 s
theorem t307_152 {L : Nat} {xs : Nat → Int32} {d : Nat} {k107 : Int32 → Int32 → Int32 → Int32 → Int32 → mS → Option mQ} (hk107 : ∀ (v2 : Int32) (v4 : Int32) (v5 : Int32) (v6 : Int32) (v7 : Int32) (s : mS) (r : mQ), k107 v2 v4 v5 v6 v7 s = some r → Ev L xs d 307 107 [(0, .ref 512), (2, .int v2), (4, .int v4), (5, .int v5), (6, .int v6), (7, .int v7)] [] (hp s) (hr r)) (hd : 4 ≤ d) {v2 : Int32} {v4 : Int32} {v6 : Int32} {v7 : Int32} {y0 : Int32} {s : mS} {r : mQ} (h : q307_152 k107 v2 v4 v6 v7 y0 s = some r) : Ev L xs d 307 152 [(0, .ref 512), (2, .int v2), (4, .int v4), (6, .int v6), (7, .int v7)] [.int y0] (hp s) (hr r) := by
  unfold q307_152 at h
  refine Ev.istore H307 i307_152 (Nat.le_of_ble_eq_true rfl) (lv2 := [(5, .int y0), (0, .ref 512), (2, .int v2), (4, .int v4), (6, .int v6), (7, .int v7)]) rfl ?_
  refine Rd.iinc H307 i307_154 (Nat.le_of_ble_eq_true rfl) rfl kI_1 (lv2 := fun x4 => [(7, .int x4), (5, .int y0), (0, .ref 512), (2, .int v2), (4, .int v4), (6, .int v6)]) (fun _ => rfl) h (fun x4 h => ?_)
  refine Ev.goto H307 i307_157 (t := 107) (by decide) ?_
  exact Ev.sub (l := [(0, .ref 512), (2, .int v2), (4, .int v4), (5, .int y0), (6, .int v6), (7, .int x4)]) rfl rfl (mm_sub_c rfl (mm_sub_c rfl (mm_sub_c rfl (mm_sub_c rfl (mm_sub_c rfl (mm_sub_c rfl mm_sub_n)))))) (hk107 _ _ _ _ _ _ _ h)
def q307_147 (k107 : Int32 → Int32 → Int32 → Int32 → Int32 → mS → Option mQ) (v2 : Int32) (v4 : Int32) (v6 : Int32) (v7 : Int32) (s : mS) : Option mQ := q307_152 k107 v2 v4 v6 v7 (1 : Int32) s
theorem t307_147 {L : Nat} {xs : Nat → Int32} {d : Nat} {k107 : Int32 → Int32 → Int32 → Int32 → Int32 → mS → Option mQ} (hk107 : ∀ (v2 : Int32) (v4 : Int32) (v5 : Int32) (v6 : Int32) (v7 : Int32) (s : mS) (r : mQ), k107 v2 v4 v5 v6 v7 s = some r → Ev L xs d 307 107 [(0, .ref 512), (2, .int v2), (4, .int v4), (5, .int v5), (6, .int v6), (7, .int v7)] [] (hp s) (hr r)) (hd : 4 ≤ d) {v2 : Int32} {v4 : Int32} {v6 : Int32} {v7 : Int32} {s : mS} {r : mQ} (h : q307_147 k107 v2 v4 v6 v7 s = some r) : Ev L xs d 307 147 [(0, .ref 512), (2, .int v2), (4, .int v4), (6, .int v6), (7, .int v7)] [] (hp s) (hr r) := by
  unfold q307_147 at h
  refine Ev.iconst H307 i307_147 kI_1 ?_
  refine Ev.goto H307 i307_148 (t := 152) (by decide) ?_
  exact Ev.sub (l := [(0, .ref 512), (2, .int v2), (4, .int v4), (6, .int v6), (7, .int v7)]) rfl rfl (mm_sub_c rfl (mm_sub_c rfl (mm_sub_c rfl (mm_sub_c rfl (mm_sub_c rfl mm_sub_n))))) (t307_152 (k107 := k107) hk107 hd h)
def q307_107 (k160 : Int32 → Int32 → Int32 → Int32 → mS → Option mQ) : Nat → Int32 → Int32 → Int32 → Int32 → Int32 → mS → Option mQ
  | 0, _, _, _, _, _, _ => none
  | n + 1, v2, v4, v5, v6, v7, s => if v6 ≤ v7 then (k160 v2 v4 v5 v6 s) else (if v5 = 0 then (k160 v2 v4 v5 v6 s) else (gA 5 v7 <| gA 5 v6 <| if ¬ (s.1 521 v7.toNatClampNeg) = (s.1 521 v6.toNatClampNeg) then (q307_147 (q307_107 k160 n) v2 v4 v6 v7 s) else (bN (q302 v7 v6 s) fun x6 s5 => if ¬ x6 = 0 then (q307_152 (q307_107 k160 n) v2 v4 v6 v7 (0 : Int32) s5) else (q307_147 (q307_107 k160 n) v2 v4 v6 v7 s5))))
theorem t307_107 {L : Nat} {xs : Nat → Int32} {d : Nat} {k160 : Int32 → Int32 → Int32 → Int32 → mS → Option mQ} (hk160 : ∀ (v2 : Int32) (v4 : Int32) (v5 : Int32) (v6 : Int32) (s : mS) (r : mQ), k160 v2 v4 v5 v6 s = some r → Ev L xs d 307 160 [(0, .ref 512), (2, .int v2), (4, .int v4), (5, .int v5), (6, .int v6)] [] (hp s) (hr r)) (hd : 4 ≤ d) : ∀ (n : Nat) (v2 : Int32) (v4 : Int32) (v5 : Int32) (v6 : Int32) (v7 : Int32) (s : mS) (r : mQ), q307_107 k160 n v2 v4 v5 v6 v7 s = some r → Ev L xs d 307 107 [(0, .ref 512), (2, .int v2), (4, .int v4), (5, .int v5), (6, .int v6), (7, .int v7)] [] (hp s) (hr r) := by
  intro n
  induction n with
  | zero => intro v2 v4 v5 v6 v7 s r h; rw [q307_107] at h; cases h
  | succ n ih =>
    intro v2 v4 v5 v6 v7 s r h
    rw [q307_107] at h
    refine Ev.iload H307 i307_107 rfl ?_
    refine Ev.iload H307 i307_109 rfl ?_
    refine Rd.ic_ge H307 i307_111 (t := 160) (by decide) h (fun hc h => ?_) (fun hc h => ?_)
    · exact Ev.sub (l := [(0, .ref 512), (2, .int v2), (4, .int v4), (5, .int v5), (6, .int v6)]) rfl rfl (mm_sub_c rfl (mm_sub_c rfl (mm_sub_c rfl (mm_sub_c rfl (mm_sub_c rfl mm_sub_n))))) (hk160 _ _ _ _ _ _ h)
    · refine Ev.iload H307 i307_114 rfl ?_
      refine Rd.if_eq H307 i307_116 (t := 160) (by decide) h (fun hc h => ?_) (fun hc h => ?_)
      · exact Ev.sub (l := [(0, .ref 512), (2, .int v2), (4, .int v4), (5, .int v5), (6, .int v6)]) rfl rfl (mm_sub_c rfl (mm_sub_c rfl (mm_sub_c rfl (mm_sub_c rfl (mm_sub_c rfl mm_sub_n))))) (hk160 _ _ _ _ _ _ h)
      · refine Ev.aload_n H307 i307_119 rfl ?_
        refine Rd.getR H307 i307_120 ob11 rfl ?_
        refine Ev.iload H307 i307_123 rfl ?_
        refine Rd.iaload H307 i307_125 ar_521 h (fun h => ?_)
        refine Ev.aload_n H307 i307_126 rfl ?_
        refine Rd.getR H307 i307_127 ob11 rfl ?_
        refine Ev.iload H307 i307_130 rfl ?_
        refine Rd.iaload H307 i307_132 ar_521 h (fun h => ?_)
        refine Rd.ic_ne H307 i307_133 (t := 147) (by decide) h (fun hc h => ?_) (fun hc h => ?_)
        · exact Ev.sub (l := [(0, .ref 512), (2, .int v2), (4, .int v4), (6, .int v6), (7, .int v7)]) rfl rfl (mm_sub_c rfl (mm_sub_c rfl (mm_sub_c rfl (mm_sub_c rfl (mm_sub_c rfl mm_sub_n))))) (t307_147 (k107 := (q307_107 k160 n)) (fun _ _ _ _ _ _ _ h => ih _ _ _ _ _ _ _ h) hd h)
        · refine Ev.aload_n H307 i307_136 rfl ?_
          refine Ev.iload H307 i307_137 rfl ?_
          refine Ev.iload H307 i307_139 rfl ?_
          refine Rd.cV2vN H307 i307_141 cal302 ob11 (Nat.le_of_ble_eq_true rfl) (Nat.le_of_ble_eq_true rfl) (Nat.lt_of_lt_of_le (by decide) hd) (fun q hq => c302 hq) h (fun x6 s5 h => ?_)
          refine Rd.if_ne H307 i307_144 (t := 151) (by decide) h (fun hc h => ?_) (fun hc h => ?_)
          · refine Ev.iconst H307 i307_151 kI_0 ?_
            exact Ev.sub (l := [(0, .ref 512), (2, .int v2), (4, .int v4), (6, .int v6), (7, .int v7)]) rfl rfl (mm_sub_c rfl (mm_sub_c rfl (mm_sub_c rfl (mm_sub_c rfl (mm_sub_c rfl mm_sub_n))))) (t307_152 (k107 := (q307_107 k160 n)) (fun _ _ _ _ _ _ _ h => ih _ _ _ _ _ _ _ h) hd h)
          · exact Ev.sub (l := [(0, .ref 512), (2, .int v2), (4, .int v4), (6, .int v6), (7, .int v7)]) rfl rfl (mm_sub_c rfl (mm_sub_c rfl (mm_sub_c rfl (mm_sub_c rfl (mm_sub_c rfl mm_sub_n))))) (t307_147 (k107 := (q307_107 k160 n)) (fun _ _ _ _ _ _ _ h => ih _ _ _ _ _ _ _ h) hd h)
def q307_160 (k44 : Int32 → Int32 → Int32 → Int32 → mS → Option mQ) (v2 : Int32) (v4 : Int32) (v5 : Int32) (v6 : Int32) (s : mS) : Option mQ := bx (v6 + (1 : Int32)) fun x7 => k44 v2 v4 v5 x7 s
theorem t307_160 {L : Nat} {xs : Nat → Int32} {d : Nat} {k44 : Int32 → Int32 → Int32 → Int32 → mS → Option mQ} (hk44 : ∀ (v2 : Int32) (v4 : Int32) (v5 : Int32) (v6 : Int32) (s : mS) (r : mQ), k44 v2 v4 v5 v6 s = some r → Ev L xs d 307 44 [(0, .ref 512), (2, .int v2), (4, .int v4), (5, .int v5), (6, .int v6)] [] (hp s) (hr r)) (hd : 4 ≤ d) {v2 : Int32} {v4 : Int32} {v5 : Int32} {v6 : Int32} {s : mS} {r : mQ} (h : q307_160 k44 v2 v4 v5 v6 s = some r) : Ev L xs d 307 160 [(0, .ref 512), (2, .int v2), (4, .int v4), (5, .int v5), (6, .int v6)] [] (hp s) (hr r) := by
  unfold q307_160 at h
  refine Rd.iinc H307 i307_160 (Nat.le_of_ble_eq_true rfl) rfl kI_1 (lv2 := fun x7 => [(6, .int x7), (0, .ref 512), (2, .int v2), (4, .int v4), (5, .int v5)]) (fun _ => rfl) h (fun x7 h => ?_)
  refine Ev.goto H307 i307_163 (t := 44) (by decide) ?_
  exact Ev.sub (l := [(0, .ref 512), (2, .int v2), (4, .int v4), (5, .int v5), (6, .int x7)]) rfl rfl (mm_sub_c rfl (mm_sub_c rfl (mm_sub_c rfl (mm_sub_c rfl (mm_sub_c rfl mm_sub_n))))) (hk44 _ _ _ _ _ _ h)
def q307_86 (k44 : Int32 → Int32 → Int32 → Int32 → mS → Option mQ) (v2 : Int32) (v4 : Int32) (v6 : Int32) (y0 : Int32) (s : mS) : Option mQ := gA 5 v6 <| bx (mxI v4 ((s.1 521 v6.toNatClampNeg) + (1 : Int32))) fun x8 => q307_107 (q307_160 k44) 10000 v2 x8 y0 v6 (0 : Int32) s
theorem t307_86 {L : Nat} {xs : Nat → Int32} {d : Nat} {k44 : Int32 → Int32 → Int32 → Int32 → mS → Option mQ} (hk44 : ∀ (v2 : Int32) (v4 : Int32) (v5 : Int32) (v6 : Int32) (s : mS) (r : mQ), k44 v2 v4 v5 v6 s = some r → Ev L xs d 307 44 [(0, .ref 512), (2, .int v2), (4, .int v4), (5, .int v5), (6, .int v6)] [] (hp s) (hr r)) (hd : 4 ≤ d) {v2 : Int32} {v4 : Int32} {v6 : Int32} {y0 : Int32} {s : mS} {r : mQ} (h : q307_86 k44 v2 v4 v6 y0 s = some r) : Ev L xs d 307 86 [(0, .ref 512), (2, .int v2), (4, .int v4), (6, .int v6)] [.int y0] (hp s) (hr r) := by
  unfold q307_86 at h
  refine Ev.istore H307 i307_86 (Nat.le_of_ble_eq_true rfl) (lv2 := [(5, .int y0), (0, .ref 512), (2, .int v2), (4, .int v4), (6, .int v6)]) rfl ?_
  refine Ev.iload H307 i307_88 rfl ?_
  refine Ev.aload_n H307 i307_90 rfl ?_
  refine Rd.getR H307 i307_91 ob11 rfl ?_
  refine Ev.iload H307 i307_94 rfl ?_
  refine Rd.iaload H307 i307_96 ar_521 h (fun h => ?_)
  refine Ev.iconst H307 i307_97 kI_1 ?_
  refine Ev.iadd H307 i307_98 ?_
  refine Rd.max H307 i307_99 (Nat.le_of_ble_eq_true rfl) ?_
  refine Rd.istore H307 i307_102 (Nat.le_of_ble_eq_true rfl) (lv2 := fun x8 => [(4, .int x8), (5, .int y0), (0, .ref 512), (2, .int v2), (6, .int v6)]) (fun _ => rfl) h (fun x8 h => ?_)
  refine Ev.iconst H307 i307_104 kI_0 ?_
  refine Ev.istore H307 i307_105 (Nat.le_of_ble_eq_true rfl) (lv2 := [(7, .int (0 : Int32)), (4, .int x8), (5, .int y0), (0, .ref 512), (2, .int v2), (6, .int v6)]) rfl ?_
  exact Ev.sub (l := [(0, .ref 512), (2, .int v2), (4, .int x8), (5, .int y0), (6, .int v6), (7, .int (0 : Int32))]) rfl rfl (mm_sub_c rfl (mm_sub_c rfl (mm_sub_c rfl (mm_sub_c rfl (mm_sub_c rfl (mm_sub_c rfl mm_sub_n)))))) (t307_107 (k160 := (q307_160 k44)) (fun _ _ _ _ _ _ h => t307_160 (k44 := k44) hk44 hd h) hd 10000 _ _ _ _ _ _ _ h)
def q307_85 (k44 : Int32 → Int32 → Int32 → Int32 → mS → Option mQ) (v2 : Int32) (v4 : Int32) (v6 : Int32) (s : mS) : Option mQ := q307_86 k44 v2 v4 v6 (0 : Int32) s
theorem t307_85 {L : Nat} {xs : Nat → Int32} {d : Nat} {k44 : Int32 → Int32 → Int32 → Int32 → mS → Option mQ} (hk44 : ∀ (v2 : Int32) (v4 : Int32) (v5 : Int32) (v6 : Int32) (s : mS) (r : mQ), k44 v2 v4 v5 v6 s = some r → Ev L xs d 307 44 [(0, .ref 512), (2, .int v2), (4, .int v4), (5, .int v5), (6, .int v6)] [] (hp s) (hr r)) (hd : 4 ≤ d) {v2 : Int32} {v4 : Int32} {v6 : Int32} {s : mS} {r : mQ} (h : q307_85 k44 v2 v4 v6 s = some r) : Ev L xs d 307 85 [(0, .ref 512), (2, .int v2), (4, .int v4), (6, .int v6)] [] (hp s) (hr r) := by
  unfold q307_85 at h
  refine Ev.iconst H307 i307_85 kI_0 ?_
  exact Ev.sub (l := [(0, .ref 512), (2, .int v2), (4, .int v4), (6, .int v6)]) rfl rfl (mm_sub_c rfl (mm_sub_c rfl (mm_sub_c rfl (mm_sub_c rfl mm_sub_n)))) (t307_86 (k44 := k44) hk44 hd h)
def q307_44 : Nat → Int32 → Int32 → Int32 → Int32 → mS → Option mQ
  | 0, _, _, _, _, _ => none
  | n + 1, v2, v4, v5, v6, s => bN (q198 s) fun x10 s9 => if x10 ≤ v6 then (gB v5 <| rv v5 s9) else (if v5 = 0 then (gB v5 <| rv v5 s9) else (gA 5 v6 <| if v4 < (s9.1 521 v6.toNatClampNeg) then (q307_85 (q307_44 n) v2 v4 v6 s9) else (gA 5 v6 <| if v2 ≤ (s9.1 521 v6.toNatClampNeg) then (q307_85 (q307_44 n) v2 v4 v6 s9) else (q307_86 (q307_44 n) v2 v4 v6 (1 : Int32) s9))))
theorem t307_44 {L : Nat} {xs : Nat → Int32} {d : Nat} (hd : 4 ≤ d) : ∀ (n : Nat) (v2 : Int32) (v4 : Int32) (v5 : Int32) (v6 : Int32) (s : mS) (r : mQ), q307_44 n v2 v4 v5 v6 s = some r → Ev L xs d 307 44 [(0, .ref 512), (2, .int v2), (4, .int v4), (5, .int v5), (6, .int v6)] [] (hp s) (hr r) := by
  intro n
  induction n with
  | zero => intro v2 v4 v5 v6 s r h; rw [q307_44] at h; cases h
  | succ n ih =>
    intro v2 v4 v5 v6 s r h
    rw [q307_44] at h
    refine Ev.iload H307 i307_44 rfl ?_
    refine Ev.aload_n H307 i307_46 rfl ?_
    refine Rd.cV0vN H307 i307_47 cal198 ob11 (Nat.le_of_ble_eq_true rfl) (Nat.le_of_ble_eq_true rfl) (Nat.lt_of_lt_of_le (by decide) hd) (fun q hq => c198 hq) h (fun x10 s9 h => ?_)
    refine Rd.ic_ge H307 i307_50 (t := 166) (by decide) h (fun hc h => ?_) (fun hc h => ?_)
    · refine Ev.iload H307 i307_166 rfl ?_
      exact Rd.ireturnZ H307 i307_168 rfl h
    · refine Ev.iload H307 i307_53 rfl ?_
      refine Rd.if_eq H307 i307_55 (t := 166) (by decide) h (fun hc h => ?_) (fun hc h => ?_)
      · refine Ev.iload H307 i307_166 rfl ?_
        exact Rd.ireturnZ H307 i307_168 rfl h
      · refine Ev.aload_n H307 i307_58 rfl ?_
        refine Rd.getR H307 i307_59 ob11 rfl ?_
        refine Ev.iload H307 i307_62 rfl ?_
        refine Rd.iaload H307 i307_64 ar_521 h (fun h => ?_)
        refine Ev.iload H307 i307_65 rfl ?_
        refine Rd.ic_gt H307 i307_67 (t := 85) (by decide) h (fun hc h => ?_) (fun hc h => ?_)
        · exact Ev.sub (l := [(0, .ref 512), (2, .int v2), (4, .int v4), (6, .int v6)]) rfl rfl (mm_sub_c rfl (mm_sub_c rfl (mm_sub_c rfl (mm_sub_c rfl mm_sub_n)))) (t307_85 (k44 := (q307_44 n)) (fun _ _ _ _ _ _ h => ih _ _ _ _ _ _ h) hd h)
        · refine Ev.aload_n H307 i307_70 rfl ?_
          refine Rd.getR H307 i307_71 ob11 rfl ?_
          refine Ev.iload H307 i307_74 rfl ?_
          refine Rd.iaload H307 i307_76 ar_521 h (fun h => ?_)
          refine Ev.iload_n H307 i307_77 rfl ?_
          refine Rd.ic_ge H307 i307_78 (t := 85) (by decide) h (fun hc h => ?_) (fun hc h => ?_)
          · exact Ev.sub (l := [(0, .ref 512), (2, .int v2), (4, .int v4), (6, .int v6)]) rfl rfl (mm_sub_c rfl (mm_sub_c rfl (mm_sub_c rfl (mm_sub_c rfl mm_sub_n)))) (t307_85 (k44 := (q307_44 n)) (fun _ _ _ _ _ _ h => ih _ _ _ _ _ _ h) hd h)
          · refine Ev.iconst H307 i307_81 kI_1 ?_
            refine Ev.goto H307 i307_82 (t := 86) (by decide) ?_
            exact Ev.sub (l := [(0, .ref 512), (2, .int v2), (4, .int v4), (6, .int v6)]) rfl rfl (mm_sub_c rfl (mm_sub_c rfl (mm_sub_c rfl (mm_sub_c rfl mm_sub_n)))) (t307_86 (k44 := (q307_44 n)) (fun _ _ _ _ _ _ h => ih _ _ _ _ _ _ h) hd h)
def q307_41 (v2 : Int32) (v4 : Int32) (v5 : Int32) (s : mS) : Option mQ := q307_44 10000 v2 v4 v5 (0 : Int32) s
theorem t307_41 {L : Nat} {xs : Nat → Int32} {d : Nat} (hd : 4 ≤ d) {v2 : Int32} {v4 : Int32} {v5 : Int32} {s : mS} {r : mQ} (h : q307_41 v2 v4 v5 s = some r) : Ev L xs d 307 41 [(0, .ref 512), (2, .int v2), (4, .int v4), (5, .int v5)] [] (hp s) (hr r) := by
  unfold q307_41 at h
  refine Ev.iconst H307 i307_41 kI_0 ?_
  refine Ev.istore H307 i307_42 (Nat.le_of_ble_eq_true rfl) (lv2 := [(6, .int (0 : Int32)), (0, .ref 512), (2, .int v2), (4, .int v4), (5, .int v5)]) rfl ?_
  exact Ev.sub (l := [(0, .ref 512), (2, .int v2), (4, .int v4), (5, .int v5), (6, .int (0 : Int32))]) rfl rfl (mm_sub_c rfl (mm_sub_c rfl (mm_sub_c rfl (mm_sub_c rfl (mm_sub_c rfl mm_sub_n))))) (t307_44 hd 10000 _ _ _ _ _ _ h)
/-- SerialGateModel.areRounds(II)Z -/
def q307 (v1 : Int32) (v2 : Int32) (s : mS) : Option mQ := bN (q198 s) fun x12 s11 => bx (x12 - (1 : Int32)) fun x13 => q307_16 (q307_41) 10000 v2 v1 (0 : Int32) (1 : Int32) x13 s11
theorem c307 {L : Nat} {xs : Nat → Int32} {v1 : Int32} {v2 : Int32} {s : mS} {r : mQ} (h : q307 v1 v2 s = some r) : ∀ d, 4 ≤ d → Cl L xs d 307 [.ref 512, .int v1, .int v2] (hp s) (hr r) := by
  intro d hd
  show Ev L xs d 307 0 [(0, .ref 512), (1, .int v1), (2, .int v2)] [] (hp s) (hr r)
  unfold q307 at h
  refine Ev.iload_n H307 i307_0 rfl ?_
  refine Ev.istore_n H307 i307_1 (Nat.le_of_ble_eq_true rfl) (lv2 := [(3, .int v1), (0, .ref 512), (1, .int v1), (2, .int v2)]) rfl ?_
  refine Ev.iconst H307 i307_2 kI_0 ?_
  refine Ev.istore H307 i307_3 (Nat.le_of_ble_eq_true rfl) (lv2 := [(4, .int (0 : Int32)), (3, .int v1), (0, .ref 512), (1, .int v1), (2, .int v2)]) rfl ?_
  refine Ev.iconst H307 i307_5 kI_1 ?_
  refine Ev.istore H307 i307_6 (Nat.le_of_ble_eq_true rfl) (lv2 := [(5, .int (1 : Int32)), (4, .int (0 : Int32)), (3, .int v1), (0, .ref 512), (1, .int v1), (2, .int v2)]) rfl ?_
  refine Ev.aload_n H307 i307_8 rfl ?_
  refine Rd.cV0vN H307 i307_9 cal198 ob11 (Nat.le_of_ble_eq_true rfl) (Nat.le_of_ble_eq_true rfl) (Nat.lt_of_lt_of_le (by decide) hd) (fun q hq => c198 hq) h (fun x12 s11 h => ?_)
  refine Ev.iconst H307 i307_12 kI_1 ?_
  refine Ev.isub H307 i307_13 ?_
  refine Rd.istore H307 i307_14 (Nat.le_of_ble_eq_true rfl) (lv2 := fun x13 => [(6, .int x13), (5, .int (1 : Int32)), (4, .int (0 : Int32)), (3, .int v1), (0, .ref 512), (1, .int v1), (2, .int v2)]) (fun _ => rfl) h (fun x13 h => ?_)
  exact Ev.sub (l := [(0, .ref 512), (2, .int v2), (3, .int v1), (4, .int (0 : Int32)), (5, .int (1 : Int32)), (6, .int x13)]) rfl rfl (mm_sub_c rfl (mm_sub_c rfl (mm_sub_c rfl (mm_sub_c rfl (mm_sub_c rfl (mm_sub_c rfl mm_sub_n)))))) (t307_16 (k41 := (q307_41)) (fun _ _ _ _ _ h => t307_41 hd h) hd 10000 _ _ _ _ _ _ _ h)
theorem i308_0 : mm_cd 308 0 = some (.iconst 1, 1, 0, 0) := rfl
theorem i308_1 : mm_cd 308 1 = some (.istore_n 1, 1, 0, 0) := rfl
theorem i308_2 : mm_cd 308 2 = some (.iconst 0, 1, 0, 0) := rfl
theorem i308_3 : mm_cd 308 3 = some (.istore_n 2, 1, 0, 0) := rfl
theorem i308_4 : mm_cd 308 4 = some (.iload_n 2, 1, 0, 0) := rfl
theorem i308_5 : mm_cd 308 5 = some (.aload_n 0, 1, 0, 0) := rfl
theorem i308_6 : mm_cd 308 6 = some (.invokevirtual 129, 3, 0, 198) := rfl
theorem i308_9 : mm_cd 308 9 = some (.if_icmp .ge 13, 3, 0, 0) := rfl
theorem i308_12 : mm_cd 308 12 = some (.iload_n 1, 1, 0, 0) := rfl
theorem i308_13 : mm_cd 308 13 = some (.iconst 5, 1, 0, 0) := rfl
theorem i308_14 : mm_cd 308 14 = some (.imul, 1, 0, 0) := rfl
theorem i308_15 : mm_cd 308 15 = some (.istore_n 1, 1, 0, 0) := rfl
theorem i308_16 : mm_cd 308 16 = some (.iinc 2 1, 3, 0, 0) := rfl
theorem i308_19 : mm_cd 308 19 = some (.goto (-15), 3, 0, 0) := rfl
theorem i308_22 : mm_cd 308 22 = some (.aload_n 0, 1, 0, 0) := rfl
theorem i308_23 : mm_cd 308 23 = some (.iconst 0, 1, 0, 0) := rfl
theorem i308_24 : mm_cd 308 24 = some (.putfield 435, 3, ((11 : Nat) : Int), 20) := rfl
theorem i308_27 : mm_cd 308 27 = some (.aload_n 0, 1, 0, 0) := rfl
theorem i308_28 : mm_cd 308 28 = some (.invokevirtual 129, 3, 0, 198) := rfl
theorem i308_31 : mm_cd 308 31 = some (.ifCond .ne 7, 3, 0, 0) := rfl
theorem i308_34 : mm_cd 308 34 = some (.iconst 1, 1, 0, 0) := rfl
theorem i308_35 : mm_cd 308 35 = some (.goto 4, 3, 0, 0) := rfl
theorem i308_38 : mm_cd 308 38 = some (.iconst 0, 1, 0, 0) := rfl
theorem i308_39 : mm_cd 308 39 = some (.istore_n 2, 1, 0, 0) := rfl
theorem i308_40 : mm_cd 308 40 = some (.iload_n 2, 1, 0, 0) := rfl
theorem i308_41 : mm_cd 308 41 = some (.ifCond .ne 43, 3, 0, 0) := rfl
theorem i308_44 : mm_cd 308 44 = some (.aload_n 0, 1, 0, 0) := rfl
theorem i308_45 : mm_cd 308 45 = some (.dup, 1, 0, 0) := rfl
theorem i308_46 : mm_cd 308 46 = some (.getfield 435, 3, ((11 : Nat) : Int), 20) := rfl
theorem i308_49 : mm_cd 308 49 = some (.iconst 1, 1, 0, 0) := rfl
theorem i308_50 : mm_cd 308 50 = some (.iadd, 1, 0, 0) := rfl
theorem i308_51 : mm_cd 308 51 = some (.putfield 435, 3, ((11 : Nat) : Int), 20) := rfl
theorem i308_54 : mm_cd 308 54 = some (.iconst 0, 1, 0, 0) := rfl
theorem i308_55 : mm_cd 308 55 = some (.istore_n 3, 1, 0, 0) := rfl
theorem i308_56 : mm_cd 308 56 = some (.iload_n 3, 1, 0, 0) := rfl
theorem i308_57 : mm_cd 308 57 = some (.iload_n 1, 1, 0, 0) := rfl
theorem i308_58 : mm_cd 308 58 = some (.if_icmp .ge 23, 3, 0, 0) := rfl
theorem i308_61 : mm_cd 308 61 = some (.iload_n 2, 1, 0, 0) := rfl
theorem i308_62 : mm_cd 308 62 = some (.ifCond .ne 19, 3, 0, 0) := rfl
theorem i308_65 : mm_cd 308 65 = some (.aload_n 0, 1, 0, 0) := rfl
theorem i308_66 : mm_cd 308 66 = some (.iload_n 3, 1, 0, 0) := rfl
theorem i308_67 : mm_cd 308 67 = some (.aload_n 0, 1, 0, 0) := rfl
theorem i308_68 : mm_cd 308 68 = some (.getfield 435, 3, ((11 : Nat) : Int), 20) := rfl
theorem i308_71 : mm_cd 308 71 = some (.invokevirtual 438, 3, 0, 307) := rfl
theorem i308_74 : mm_cd 308 74 = some (.istore_n 2, 1, 0, 0) := rfl
theorem i308_75 : mm_cd 308 75 = some (.iinc 3 1, 3, 0, 0) := rfl
theorem i308_78 : mm_cd 308 78 = some (.goto (-22), 3, 0, 0) := rfl
theorem i308_81 : mm_cd 308 81 = some (.goto (-41), 3, 0, 0) := rfl
theorem i308_84 : mm_cd 308 84 = some (.return_, 1, 0, 0) := rfl
def q308_4 (k22 : Int32 → mS → Option mQ) : Nat → Int32 → Int32 → mS → Option mQ
  | 0, _, _, _ => none
  | n + 1, v1, v2, s => bN (q198 s) fun x2 s1 => if x2 ≤ v2 then (k22 v1 s1) else (bx (v1 * (5 : Int32)) fun x3 => bx (v2 + (1 : Int32)) fun x4 => q308_4 k22 n x3 x4 s1)
theorem t308_4 {L : Nat} {xs : Nat → Int32} {d : Nat} {k22 : Int32 → mS → Option mQ} (hk22 : ∀ (v1 : Int32) (s : mS) (r : mQ), k22 v1 s = some r → Ev L xs d 308 22 [(0, .ref 512), (1, .int v1)] [] (hp s) (hr r)) (hd : 5 ≤ d) : ∀ (n : Nat) (v1 : Int32) (v2 : Int32) (s : mS) (r : mQ), q308_4 k22 n v1 v2 s = some r → Ev L xs d 308 4 [(0, .ref 512), (1, .int v1), (2, .int v2)] [] (hp s) (hr r) := by
  intro n
  induction n with
  | zero => intro v1 v2 s r h; rw [q308_4] at h; cases h
  | succ n ih =>
    intro v1 v2 s r h
    rw [q308_4] at h
    refine Ev.iload_n H308 i308_4 rfl ?_
    refine Ev.aload_n H308 i308_5 rfl ?_
    refine Rd.cV0vN H308 i308_6 cal198 ob11 (Nat.le_of_ble_eq_true rfl) (Nat.le_of_ble_eq_true rfl) (Nat.lt_of_lt_of_le (by decide) hd) (fun q hq => c198 hq) h (fun x2 s1 h => ?_)
    refine Rd.ic_ge H308 i308_9 (t := 22) (by decide) h (fun hc h => ?_) (fun hc h => ?_)
    · exact Ev.sub (l := [(0, .ref 512), (1, .int v1)]) rfl rfl (mm_sub_c rfl (mm_sub_c rfl mm_sub_n)) (hk22 _ _ _ h)
    · refine Ev.iload_n H308 i308_12 rfl ?_
      refine Ev.iconst H308 i308_13 kI_5 ?_
      refine Ev.imul H308 i308_14 ?_
      refine Rd.istore_n H308 i308_15 (Nat.le_of_ble_eq_true rfl) (lv2 := fun x3 => [(1, .int x3), (0, .ref 512), (2, .int v2)]) (fun _ => rfl) h (fun x3 h => ?_)
      refine Rd.iinc H308 i308_16 (Nat.le_of_ble_eq_true rfl) rfl kI_1 (lv2 := fun x4 => [(2, .int x4), (1, .int x3), (0, .ref 512)]) (fun _ => rfl) h (fun x4 h => ?_)
      refine Ev.goto H308 i308_19 (t := 4) (by decide) ?_
      exact Ev.sub (l := [(0, .ref 512), (1, .int x3), (2, .int x4)]) rfl rfl (mm_sub_c rfl (mm_sub_c rfl (mm_sub_c rfl mm_sub_n))) (ih _ _ _ _ h)
def q308_56 (k81 : Int32 → Int32 → mS → Option mQ) : Nat → Int32 → Int32 → Int32 → mS → Option mQ
  | 0, _, _, _, _ => none
  | n + 1, v1, v2, v3, s => if v1 ≤ v3 then (k81 v1 v2 s) else (if ¬ v2 = 0 then (k81 v1 v2 s) else (bN (q307 v3 (s.1 512 20) s) fun x6 s5 => bx (v3 + (1 : Int32)) fun x7 => q308_56 k81 n v1 x6 x7 s5))
theorem t308_56 {L : Nat} {xs : Nat → Int32} {d : Nat} {k81 : Int32 → Int32 → mS → Option mQ} (hk81 : ∀ (v1 : Int32) (v2 : Int32) (s : mS) (r : mQ), k81 v1 v2 s = some r → Ev L xs d 308 81 [(0, .ref 512), (1, .int v1), (2, .int v2)] [] (hp s) (hr r)) (hd : 5 ≤ d) : ∀ (n : Nat) (v1 : Int32) (v2 : Int32) (v3 : Int32) (s : mS) (r : mQ), q308_56 k81 n v1 v2 v3 s = some r → Ev L xs d 308 56 [(0, .ref 512), (1, .int v1), (2, .int v2), (3, .int v3)] [] (hp s) (hr r) := by
  intro n
  induction n with
  | zero => intro v1 v2 v3 s r h; rw [q308_56] at h; cases h
  | succ n ih =>
    intro v1 v2 v3 s r h
    rw [q308_56] at h
    refine Ev.iload_n H308 i308_56 rfl ?_
    refine Ev.iload_n H308 i308_57 rfl ?_
    refine Rd.ic_ge H308 i308_58 (t := 81) (by decide) h (fun hc h => ?_) (fun hc h => ?_)
    · exact Ev.sub (l := [(0, .ref 512), (1, .int v1), (2, .int v2)]) rfl rfl (mm_sub_c rfl (mm_sub_c rfl (mm_sub_c rfl mm_sub_n))) (hk81 _ _ _ _ h)
    · refine Ev.iload_n H308 i308_61 rfl ?_
      refine Rd.if_ne H308 i308_62 (t := 81) (by decide) h (fun hc h => ?_) (fun hc h => ?_)
      · exact Ev.sub (l := [(0, .ref 512), (1, .int v1), (2, .int v2)]) rfl rfl (mm_sub_c rfl (mm_sub_c rfl (mm_sub_c rfl mm_sub_n))) (hk81 _ _ _ _ h)
      · refine Ev.aload_n H308 i308_65 rfl ?_
        refine Ev.iload_n H308 i308_66 rfl ?_
        refine Ev.aload_n H308 i308_67 rfl ?_
        refine Rd.getI H308 i308_68 ob11 rfl ?_
        refine Rd.cV2vN H308 i308_71 cal307 ob11 (Nat.le_of_ble_eq_true rfl) (Nat.le_of_ble_eq_true rfl) (Nat.lt_of_lt_of_le (by decide) hd) (fun q hq => c307 hq) h (fun x6 s5 h => ?_)
        refine Ev.istore_n H308 i308_74 (Nat.le_of_ble_eq_true rfl) (lv2 := [(2, .int x6), (0, .ref 512), (1, .int v1), (3, .int v3)]) rfl ?_
        refine Rd.iinc H308 i308_75 (Nat.le_of_ble_eq_true rfl) rfl kI_1 (lv2 := fun x7 => [(3, .int x7), (2, .int x6), (0, .ref 512), (1, .int v1)]) (fun _ => rfl) h (fun x7 h => ?_)
        refine Ev.goto H308 i308_78 (t := 56) (by decide) ?_
        exact Ev.sub (l := [(0, .ref 512), (1, .int v1), (2, .int x6), (3, .int x7)]) rfl rfl (mm_sub_c rfl (mm_sub_c rfl (mm_sub_c rfl (mm_sub_c rfl mm_sub_n)))) (ih _ _ _ _ _ h)
def q308_81 (k40 : Int32 → Int32 → mS → Option mQ) (v1 : Int32) (v2 : Int32) (s : mS) : Option mQ := k40 v1 v2 s
theorem t308_81 {L : Nat} {xs : Nat → Int32} {d : Nat} {k40 : Int32 → Int32 → mS → Option mQ} (hk40 : ∀ (v1 : Int32) (v2 : Int32) (s : mS) (r : mQ), k40 v1 v2 s = some r → Ev L xs d 308 40 [(0, .ref 512), (1, .int v1), (2, .int v2)] [] (hp s) (hr r)) (hd : 5 ≤ d) {v1 : Int32} {v2 : Int32} {s : mS} {r : mQ} (h : q308_81 k40 v1 v2 s = some r) : Ev L xs d 308 81 [(0, .ref 512), (1, .int v1), (2, .int v2)] [] (hp s) (hr r) := by
  unfold q308_81 at h
  refine Ev.goto H308 i308_81 (t := 40) (by decide) ?_
  exact Ev.sub (l := [(0, .ref 512), (1, .int v1), (2, .int v2)]) rfl rfl (mm_sub_c rfl (mm_sub_c rfl (mm_sub_c rfl mm_sub_n))) (hk40 _ _ _ _ h)
def q308_40 : Nat → Int32 → Int32 → mS → Option mQ
  | 0, _, _, _ => none
  | n + 1, v1, v2, s => if ¬ v2 = 0 then (ru s) else (sp (sI s 512 20 ((s.1 512 20) + (1 : Int32))) fun s8 => q308_56 (q308_81 (q308_40 n)) 10000 v1 v2 (0 : Int32) s8)
theorem t308_40 {L : Nat} {xs : Nat → Int32} {d : Nat} (hd : 5 ≤ d) : ∀ (n : Nat) (v1 : Int32) (v2 : Int32) (s : mS) (r : mQ), q308_40 n v1 v2 s = some r → Ev L xs d 308 40 [(0, .ref 512), (1, .int v1), (2, .int v2)] [] (hp s) (hr r) := by
  intro n
  induction n with
  | zero => intro v1 v2 s r h; rw [q308_40] at h; cases h
  | succ n ih =>
    intro v1 v2 s r h
    rw [q308_40] at h
    refine Ev.iload_n H308 i308_40 rfl ?_
    refine Rd.if_ne H308 i308_41 (t := 84) (by decide) h (fun hc h => ?_) (fun hc h => ?_)
    · exact Rd.return_ H308 i308_84 rfl h
    · refine Ev.aload_n H308 i308_44 rfl ?_
      refine Ev.dup H308 i308_45 rfl ?_
      refine Rd.getI H308 i308_46 ob11 rfl ?_
      refine Ev.iconst H308 i308_49 kI_1 ?_
      refine Ev.iadd H308 i308_50 ?_
      refine Rd.putI H308 i308_51 ob11 rfl ty11_20.1 ty11_20.2 h (fun s8 h => ?_)
      refine Ev.iconst H308 i308_54 kI_0 ?_
      refine Ev.istore_n H308 i308_55 (Nat.le_of_ble_eq_true rfl) (lv2 := [(3, .int (0 : Int32)), (0, .ref 512), (1, .int v1), (2, .int v2)]) rfl ?_
      exact Ev.sub (l := [(0, .ref 512), (1, .int v1), (2, .int v2), (3, .int (0 : Int32))]) rfl rfl (mm_sub_c rfl (mm_sub_c rfl (mm_sub_c rfl (mm_sub_c rfl mm_sub_n)))) (t308_56 (k81 := (q308_81 (q308_40 n))) (fun _ _ _ _ h => t308_81 (k40 := (q308_40 n)) (fun _ _ _ _ h => ih _ _ _ _ h) hd h) hd 10000 _ _ _ _ _ h)
def q308_39 (v1 : Int32) (y0 : Int32) (s : mS) : Option mQ := q308_40 10000 v1 y0 s
theorem t308_39 {L : Nat} {xs : Nat → Int32} {d : Nat} (hd : 5 ≤ d) {v1 : Int32} {y0 : Int32} {s : mS} {r : mQ} (h : q308_39 v1 y0 s = some r) : Ev L xs d 308 39 [(0, .ref 512), (1, .int v1)] [.int y0] (hp s) (hr r) := by
  unfold q308_39 at h
  refine Ev.istore_n H308 i308_39 (Nat.le_of_ble_eq_true rfl) (lv2 := [(2, .int y0), (0, .ref 512), (1, .int v1)]) rfl ?_
  exact Ev.sub (l := [(0, .ref 512), (1, .int v1), (2, .int y0)]) rfl rfl (mm_sub_c rfl (mm_sub_c rfl (mm_sub_c rfl mm_sub_n))) (t308_40 hd 10000 _ _ _ _ h)
def q308_22 (v1 : Int32) (s : mS) : Option mQ := sp (sI s 512 20 (0 : Int32)) fun s9 => bN (q198 s9) fun x11 s10 => if ¬ x11 = 0 then (q308_39 v1 (0 : Int32) s10) else (q308_39 v1 (1 : Int32) s10)
theorem t308_22 {L : Nat} {xs : Nat → Int32} {d : Nat} (hd : 5 ≤ d) {v1 : Int32} {s : mS} {r : mQ} (h : q308_22 v1 s = some r) : Ev L xs d 308 22 [(0, .ref 512), (1, .int v1)] [] (hp s) (hr r) := by
  unfold q308_22 at h
  refine Ev.aload_n H308 i308_22 rfl ?_
  refine Ev.iconst H308 i308_23 kI_0 ?_
  refine Rd.putI H308 i308_24 ob11 rfl ty11_20.1 ty11_20.2 h (fun s9 h => ?_)
  refine Ev.aload_n H308 i308_27 rfl ?_
  refine Rd.cV0vN H308 i308_28 cal198 ob11 (Nat.le_of_ble_eq_true rfl) (Nat.le_of_ble_eq_true rfl) (Nat.lt_of_lt_of_le (by decide) hd) (fun q hq => c198 hq) h (fun x11 s10 h => ?_)
  refine Rd.if_ne H308 i308_31 (t := 38) (by decide) h (fun hc h => ?_) (fun hc h => ?_)
  · refine Ev.iconst H308 i308_38 kI_0 ?_
    exact Ev.sub (l := [(0, .ref 512), (1, .int v1)]) rfl rfl (mm_sub_c rfl (mm_sub_c rfl mm_sub_n)) (t308_39 hd h)
  · refine Ev.iconst H308 i308_34 kI_1 ?_
    refine Ev.goto H308 i308_35 (t := 39) (by decide) ?_
    exact Ev.sub (l := [(0, .ref 512), (1, .int v1)]) rfl rfl (mm_sub_c rfl (mm_sub_c rfl mm_sub_n)) (t308_39 hd h)
/-- SerialGateModel.laysRounds()V -/
def q308 (s : mS) : Option mQ := q308_4 (q308_22) 10000 (1 : Int32) (0 : Int32) s
theorem c308 {L : Nat} {xs : Nat → Int32} {s : mS} {r : mQ} (h : q308 s = some r) : ∀ d, 5 ≤ d → Cl L xs d 308 [.ref 512] (hp s) (hr r) := by
  intro d hd
  show Ev L xs d 308 0 [(0, .ref 512)] [] (hp s) (hr r)
  unfold q308 at h
  refine Ev.iconst H308 i308_0 kI_1 ?_
  refine Ev.istore_n H308 i308_1 (Nat.le_of_ble_eq_true rfl) (lv2 := [(1, .int (1 : Int32)), (0, .ref 512)]) rfl ?_
  refine Ev.iconst H308 i308_2 kI_0 ?_
  refine Ev.istore_n H308 i308_3 (Nat.le_of_ble_eq_true rfl) (lv2 := [(2, .int (0 : Int32)), (1, .int (1 : Int32)), (0, .ref 512)]) rfl ?_
  exact Ev.sub (l := [(0, .ref 512), (1, .int (1 : Int32)), (2, .int (0 : Int32))]) rfl rfl (mm_sub_c rfl (mm_sub_c rfl (mm_sub_c rfl mm_sub_n))) (t308_4 (k22 := (q308_22)) (fun _ _ _ h => t308_22 hd h) hd 10000 _ _ _ _ h)
theorem i280_0 : mm_cd 280 0 = some (.aload_n 0, 1, 0, 0) := rfl
theorem i280_1 : mm_cd 280 1 = some (.iconst 0, 1, 0, 0) := rfl
theorem i280_2 : mm_cd 280 2 = some (.putfield 3, 3, ((11 : Nat) : Int), 0) := rfl
theorem i280_5 : mm_cd 280 5 = some (.aload_n 0, 1, 0, 0) := rfl
theorem i280_6 : mm_cd 280 6 = some (.aload_n 0, 1, 0, 0) := rfl
theorem i280_7 : mm_cd 280 7 = some (.iload_n 1, 1, 0, 0) := rfl
theorem i280_8 : mm_cd 280 8 = some (.invokevirtual 380, 3, 0, 275) := rfl
theorem i280_11 : mm_cd 280 11 = some (.iconst 1, 1, 0, 0) := rfl
theorem i280_12 : mm_cd 280 12 = some (.invokevirtual 249, 3, 0, 188) := rfl
theorem i280_15 : mm_cd 280 15 = some (.ifCond .ne 26, 3, 0, 0) := rfl
theorem i280_18 : mm_cd 280 18 = some (.aload_n 0, 1, 0, 0) := rfl
theorem i280_19 : mm_cd 280 19 = some (.iload_n 2, 1, 0, 0) := rfl
theorem i280_20 : mm_cd 280 20 = some (.iconst 0, 1, 0, 0) := rfl
theorem i280_21 : mm_cd 280 21 = some (.bipush 8, 2, 0, 0) := rfl
theorem i280_23 : mm_cd 280 23 = some (.invokestatic 371, 3, 0, 189) := rfl
theorem i280_26 : mm_cd 280 26 = some (.ifCond .ne 7, 3, 0, 0) := rfl
theorem i280_29 : mm_cd 280 29 = some (.iconst 1, 1, 0, 0) := rfl
theorem i280_30 : mm_cd 280 30 = some (.goto 4, 3, 0, 0) := rfl
theorem i280_33 : mm_cd 280 33 = some (.iconst 0, 1, 0, 0) := rfl
theorem i280_34 : mm_cd 280 34 = some (.iconst 2, 1, 0, 0) := rfl
theorem i280_35 : mm_cd 280 35 = some (.invokevirtual 249, 3, 0, 188) := rfl
theorem i280_38 : mm_cd 280 38 = some (.ifCond .eq 5, 3, 0, 0) := rfl
theorem i280_41 : mm_cd 280 41 = some (.iconst 0, 1, 0, 0) := rfl
theorem i280_42 : mm_cd 280 42 = some (.ireturn, 1, 0, 0) := rfl
theorem i280_43 : mm_cd 280 43 = some (.iload_n 2, 1, 0, 0) := rfl
theorem i280_44 : mm_cd 280 44 = some (.tableswitch 81 5 8 #[32, 38, 44, 55], 32, 0, 0) := rfl
theorem i280_76 : mm_cd 280 76 = some (.aload_n 0, 1, 0, 0) := rfl
theorem i280_77 : mm_cd 280 77 = some (.iload_n 1, 1, 0, 0) := rfl
theorem i280_78 : mm_cd 280 78 = some (.invokevirtual 346, 3, 0, 209) := rfl
theorem i280_81 : mm_cd 280 81 = some (.ireturn, 1, 0, 0) := rfl
theorem i280_82 : mm_cd 280 82 = some (.aload_n 0, 1, 0, 0) := rfl
theorem i280_83 : mm_cd 280 83 = some (.iload_n 1, 1, 0, 0) := rfl
theorem i280_84 : mm_cd 280 84 = some (.invokevirtual 352, 3, 0, 270) := rfl
theorem i280_87 : mm_cd 280 87 = some (.ireturn, 1, 0, 0) := rfl
theorem i280_88 : mm_cd 280 88 = some (.aload_n 0, 1, 0, 0) := rfl
theorem i280_89 : mm_cd 280 89 = some (.invokevirtual 383, 3, 0, 308) := rfl
theorem i280_92 : mm_cd 280 92 = some (.aload_n 0, 1, 0, 0) := rfl
theorem i280_93 : mm_cd 280 93 = some (.getfield 42, 3, ((11 : Nat) : Int), 19) := rfl
theorem i280_96 : mm_cd 280 96 = some (.iload_n 1, 1, 0, 0) := rfl
theorem i280_97 : mm_cd 280 97 = some (.iaload, 1, 0, 0) := rfl
theorem i280_98 : mm_cd 280 98 = some (.ireturn, 1, 0, 0) := rfl
theorem i280_99 : mm_cd 280 99 = some (.aload_n 0, 1, 0, 0) := rfl
theorem i280_100 : mm_cd 280 100 = some (.invokevirtual 386, 3, 0, 279) := rfl
theorem i280_103 : mm_cd 280 103 = some (.ifCond .ne 7, 3, 0, 0) := rfl
theorem i280_106 : mm_cd 280 106 = some (.iconst 0, 1, 0, 0) := rfl
theorem i280_107 : mm_cd 280 107 = some (.goto 17, 3, 0, 0) := rfl
theorem i280_110 : mm_cd 280 110 = some (.bipush 100, 2, 0, 0) := rfl
theorem i280_112 : mm_cd 280 112 = some (.aload_n 0, 1, 0, 0) := rfl
theorem i280_113 : mm_cd 280 113 = some (.iload_n 1, 1, 0, 0) := rfl
theorem i280_114 : mm_cd 280 114 = some (.iconst 4, 1, 0, 0) := rfl
theorem i280_115 : mm_cd 280 115 = some (.invokevirtual 72, 3, 0, 202) := rfl
theorem i280_118 : mm_cd 280 118 = some (.imul, 1, 0, 0) := rfl
theorem i280_119 : mm_cd 280 119 = some (.aload_n 0, 1, 0, 0) := rfl
theorem i280_120 : mm_cd 280 120 = some (.invokevirtual 386, 3, 0, 279) := rfl
theorem i280_123 : mm_cd 280 123 = some (.idiv, 1, 0, 0) := rfl
theorem i280_124 : mm_cd 280 124 = some (.ireturn, 1, 0, 0) := rfl
theorem i280_125 : mm_cd 280 125 = some (.aload_n 0, 1, 0, 0) := rfl
theorem i280_126 : mm_cd 280 126 = some (.iload_n 1, 1, 0, 0) := rfl
theorem i280_127 : mm_cd 280 127 = some (.iload_n 2, 1, 0, 0) := rfl
theorem i280_128 : mm_cd 280 128 = some (.invokevirtual 72, 3, 0, 202) := rfl
theorem i280_131 : mm_cd 280 131 = some (.ireturn, 1, 0, 0) := rfl
def q280_34 (v1 : Int32) (v2 : Int32) (y1 : Int32) (s : mS) : Option mQ := bN (q188 y1 (2 : Int32) s) fun x2 s1 => if x2 = 0 then (if v2 = (5 : Int32) then (bN (q209 v1 s1) fun x4 s3 => rv x4 s3) else if v2 = (6 : Int32) then (bN (q270 v1 s1) fun x6 s5 => rv x6 s5) else if v2 = (7 : Int32) then (bM (q308 s1) fun s7 => gA 5 v1 <| rv (s7.1 521 v1.toNatClampNeg) s7) else if v2 = (8 : Int32) then (bN (q279 s1) fun x9 s8 => if ¬ x9 = 0 then (bN (q202 v1 (4 : Int32) s8) fun x11 s10 => bN (q279 s10) fun x13 s12 => gZ x13 <| rv (((100 : Int32) * x11) / x13) s12) else (rv (0 : Int32) s8)) else (bN (q202 v1 v2 s1) fun x15 s14 => rv x15 s14)) else (rv (0 : Int32) s1)
theorem t280_34 {L : Nat} {xs : Nat → Int32} {d : Nat} (hd : 6 ≤ d) {v1 : Int32} {v2 : Int32} {y1 : Int32} {s : mS} {r : mQ} (h : q280_34 v1 v2 y1 s = some r) : Ev L xs d 280 34 [(0, .ref 512), (1, .int v1), (2, .int v2)] [.int y1, .ref 512] (hp s) (hr r) := by
  unfold q280_34 at h
  refine Ev.iconst H280 i280_34 kI_2 ?_
  refine Rd.cV2vN H280 i280_35 cal188 ob11 (Nat.le_of_ble_eq_true rfl) (Nat.le_of_ble_eq_true rfl) (Nat.lt_of_lt_of_le (by decide) hd) (fun q hq => c188 hq) h (fun x2 s1 h => ?_)
  refine Rd.if_eq H280 i280_38 (t := 43) (by decide) h (fun hc h => ?_) (fun hc h => ?_)
  · refine Ev.iload_n H280 i280_43 rfl ?_
    refine Rd.sw h (fun hc h => ?_) (fun hc0 h => ?_)
    · refine Rd.tsw H280 i280_44 (t := 76) (by rw [hc]; decide) ?_
      refine Ev.aload_n H280 i280_76 rfl ?_
      refine Ev.iload_n H280 i280_77 rfl ?_
      refine Rd.cV1vN H280 i280_78 cal209 ob11 (Nat.le_of_ble_eq_true rfl) (Nat.le_of_ble_eq_true rfl) (Nat.lt_of_lt_of_le (by decide) hd) (fun q hq => c209 hq) h (fun x4 s3 h => ?_)
      exact Rd.ireturn H280 i280_81 rfl h
    refine Rd.sw h (fun hc h => ?_) (fun hc1 h => ?_)
    · refine Rd.tsw H280 i280_44 (t := 82) (by rw [hc]; decide) ?_
      refine Ev.aload_n H280 i280_82 rfl ?_
      refine Ev.iload_n H280 i280_83 rfl ?_
      refine Rd.cV1vN H280 i280_84 cal270 ob11 (Nat.le_of_ble_eq_true rfl) (Nat.le_of_ble_eq_true rfl) (Nat.lt_of_lt_of_le (by decide) hd) (fun q hq => c270 hq) h (fun x6 s5 h => ?_)
      exact Rd.ireturn H280 i280_87 rfl h
    refine Rd.sw h (fun hc h => ?_) (fun hc2 h => ?_)
    · refine Rd.tsw H280 i280_44 (t := 88) (by rw [hc]; decide) ?_
      refine Ev.aload_n H280 i280_88 rfl ?_
      refine Rd.cV0uN H280 i280_89 cal308 ob11 (Nat.le_of_ble_eq_true rfl) (Nat.le_of_ble_eq_true rfl) (Nat.lt_of_lt_of_le (by decide) hd) (fun q hq => c308 hq) h (fun s7 h => ?_)
      refine Ev.aload_n H280 i280_92 rfl ?_
      refine Rd.getR H280 i280_93 ob11 rfl ?_
      refine Ev.iload_n H280 i280_96 rfl ?_
      refine Rd.iaload H280 i280_97 ar_521 h (fun h => ?_)
      exact Rd.ireturn H280 i280_98 rfl h
    refine Rd.sw h (fun hc h => ?_) (fun hc3 h => ?_)
    · refine Rd.tsw H280 i280_44 (t := 99) (by rw [hc]; decide) ?_
      refine Ev.aload_n H280 i280_99 rfl ?_
      refine Rd.cV0vN H280 i280_100 cal279 ob11 (Nat.le_of_ble_eq_true rfl) (Nat.le_of_ble_eq_true rfl) (Nat.lt_of_lt_of_le (by decide) hd) (fun q hq => c279 hq) h (fun x9 s8 h => ?_)
      refine Rd.if_ne H280 i280_103 (t := 110) (by decide) h (fun hc h => ?_) (fun hc h => ?_)
      · refine Ev.bipush H280 i280_110 kB_100 ?_
        refine Ev.aload_n H280 i280_112 rfl ?_
        refine Ev.iload_n H280 i280_113 rfl ?_
        refine Ev.iconst H280 i280_114 kI_4 ?_
        refine Rd.cV2vN H280 i280_115 cal202 ob11 (Nat.le_of_ble_eq_true rfl) (Nat.le_of_ble_eq_true rfl) (Nat.lt_of_lt_of_le (by decide) hd) (fun q hq => c202 hq) h (fun x11 s10 h => ?_)
        refine Ev.imul H280 i280_118 ?_
        refine Ev.aload_n H280 i280_119 rfl ?_
        refine Rd.cV0vN H280 i280_120 cal279 ob11 (Nat.le_of_ble_eq_true rfl) (Nat.le_of_ble_eq_true rfl) (Nat.lt_of_lt_of_le (by decide) hd) (fun q hq => c279 hq) h (fun x13 s12 h => ?_)
        refine Rd.idiv H280 i280_123 h (fun h => ?_)
        exact Rd.ireturn H280 i280_124 rfl h
      · refine Ev.iconst H280 i280_106 kI_0 ?_
        refine Ev.goto H280 i280_107 (t := 124) (by decide) ?_
        exact Rd.ireturn H280 i280_124 rfl h
    have hsw : ∀ k : Nat, k < 4 → ¬ v2 = Int32.ofInt (5 + k) := fun k hk => match k, hk with
      | 0, _ => hc0
      | 1, _ => hc1
      | 2, _ => hc2
      | 3, _ => hc3
      | k + 4, hk => absurd hk (by omega)
    have hsq : v2.toInt < 5 ∨ 8 < v2.toInt := by have hq := mm_sw hsw; omega
    refine Rd.tsw H280 i280_44 (t := 125) (by rw [if_pos hsq]; decide) ?_
    refine Ev.aload_n H280 i280_125 rfl ?_
    refine Ev.iload_n H280 i280_126 rfl ?_
    refine Ev.iload_n H280 i280_127 rfl ?_
    refine Rd.cV2vN H280 i280_128 cal202 ob11 (Nat.le_of_ble_eq_true rfl) (Nat.le_of_ble_eq_true rfl) (Nat.lt_of_lt_of_le (by decide) hd) (fun q hq => c202 hq) h (fun x15 s14 h => ?_)
    exact Rd.ireturn H280 i280_131 rfl h
  · refine Ev.iconst H280 i280_41 kI_0 ?_
    exact Rd.ireturn H280 i280_42 rfl h
/-- SerialGateModel.client(II)I -/
def q280 (v1 : Int32) (v2 : Int32) (s : mS) : Option mQ := sp (sI s 512 0 (0 : Int32)) fun s16 => bN (q275 v1 s16) fun x18 s17 => bN (q188 x18 (1 : Int32) s17) fun x20 s19 => if ¬ x20 = 0 then (rv (0 : Int32) s19) else (bN (q189 v2 (0 : Int32) (8 : Int32) s19) fun x22 s21 => if ¬ x22 = 0 then (q280_34 v1 v2 (0 : Int32) s21) else (q280_34 v1 v2 (1 : Int32) s21))
theorem c280 {L : Nat} {xs : Nat → Int32} {v1 : Int32} {v2 : Int32} {s : mS} {r : mQ} (h : q280 v1 v2 s = some r) : ∀ d, 6 ≤ d → Cl L xs d 280 [.ref 512, .int v1, .int v2] (hp s) (hr r) := by
  intro d hd
  show Ev L xs d 280 0 [(0, .ref 512), (1, .int v1), (2, .int v2)] [] (hp s) (hr r)
  unfold q280 at h
  refine Ev.aload_n H280 i280_0 rfl ?_
  refine Ev.iconst H280 i280_1 kI_0 ?_
  refine Rd.putI H280 i280_2 ob11 rfl ty11_0.1 ty11_0.2 h (fun s16 h => ?_)
  refine Ev.aload_n H280 i280_5 rfl ?_
  refine Ev.aload_n H280 i280_6 rfl ?_
  refine Ev.iload_n H280 i280_7 rfl ?_
  refine Rd.cV1vN H280 i280_8 cal275 ob11 (Nat.le_of_ble_eq_true rfl) (Nat.le_of_ble_eq_true rfl) (Nat.lt_of_lt_of_le (by decide) hd) (fun q hq => c275 hq) h (fun x18 s17 h => ?_)
  refine Ev.iconst H280 i280_11 kI_1 ?_
  refine Rd.cV2vN H280 i280_12 cal188 ob11 (Nat.le_of_ble_eq_true rfl) (Nat.le_of_ble_eq_true rfl) (Nat.lt_of_lt_of_le (by decide) hd) (fun q hq => c188 hq) h (fun x20 s19 h => ?_)
  refine Rd.if_ne H280 i280_15 (t := 41) (by decide) h (fun hc h => ?_) (fun hc h => ?_)
  · refine Ev.iconst H280 i280_41 kI_0 ?_
    exact Rd.ireturn H280 i280_42 rfl h
  · refine Ev.aload_n H280 i280_18 rfl ?_
    refine Ev.iload_n H280 i280_19 rfl ?_
    refine Ev.iconst H280 i280_20 kI_0 ?_
    refine Ev.bipush H280 i280_21 kB_8 ?_
    refine Rd.cS3vN H280 i280_23 cal189 (Nat.le_of_ble_eq_true rfl) (Nat.le_of_ble_eq_true rfl) (Nat.lt_of_lt_of_le (by decide) hd) (fun q hq => c189 hq) h (fun x22 s21 h => ?_)
    refine Rd.if_ne H280 i280_26 (t := 33) (by decide) h (fun hc h => ?_) (fun hc h => ?_)
    · refine Ev.iconst H280 i280_33 kI_0 ?_
      exact Ev.sub (l := [(0, .ref 512), (1, .int v1), (2, .int v2)]) rfl rfl (mm_sub_c rfl (mm_sub_c rfl (mm_sub_c rfl mm_sub_n))) (t280_34 hd h)
    · refine Ev.iconst H280 i280_29 kI_1 ?_
      refine Ev.goto H280 i280_30 (t := 34) (by decide) ?_
      exact Ev.sub (l := [(0, .ref 512), (1, .int v1), (2, .int v2)]) rfl rfl (mm_sub_c rfl (mm_sub_c rfl (mm_sub_c rfl mm_sub_n))) (t280_34 hd h)
theorem i281_0 : mm_cd 281 0 = some (.aload_n 0, 1, 0, 0) := rfl
theorem i281_1 : mm_cd 281 1 = some (.iconst 0, 1, 0, 0) := rfl
theorem i281_2 : mm_cd 281 2 = some (.putfield 3, 3, ((11 : Nat) : Int), 0) := rfl
theorem i281_5 : mm_cd 281 5 = some (.aload_n 0, 1, 0, 0) := rfl
theorem i281_6 : mm_cd 281 6 = some (.iload_n 1, 1, 0, 0) := rfl
theorem i281_7 : mm_cd 281 7 = some (.iconst 1, 1, 0, 0) := rfl
theorem i281_8 : mm_cd 281 8 = some (.bipush 60, 2, 0, 0) := rfl
theorem i281_10 : mm_cd 281 10 = some (.invokestatic 371, 3, 0, 189) := rfl
theorem i281_13 : mm_cd 281 13 = some (.ifCond .ne 7, 3, 0, 0) := rfl
theorem i281_16 : mm_cd 281 16 = some (.iconst 1, 1, 0, 0) := rfl
theorem i281_17 : mm_cd 281 17 = some (.goto 4, 3, 0, 0) := rfl
theorem i281_20 : mm_cd 281 20 = some (.iconst 0, 1, 0, 0) := rfl
theorem i281_21 : mm_cd 281 21 = some (.iconst 1, 1, 0, 0) := rfl
theorem i281_22 : mm_cd 281 22 = some (.invokevirtual 249, 3, 0, 188) := rfl
theorem i281_25 : mm_cd 281 25 = some (.ifCond .eq 5, 3, 0, 0) := rfl
theorem i281_28 : mm_cd 281 28 = some (.iconst 0, 1, 0, 0) := rfl
theorem i281_29 : mm_cd 281 29 = some (.ireturn, 1, 0, 0) := rfl
theorem i281_30 : mm_cd 281 30 = some (.aload_n 0, 1, 0, 0) := rfl
theorem i281_31 : mm_cd 281 31 = some (.invokevirtual 389, 3, 0, 194) := rfl
theorem i281_34 : mm_cd 281 34 = some (.aload_n 0, 1, 0, 0) := rfl
theorem i281_35 : mm_cd 281 35 = some (.iload_n 1, 1, 0, 0) := rfl
theorem i281_36 : mm_cd 281 36 = some (.invokevirtual 392, 3, 0, 272) := rfl
theorem i281_39 : mm_cd 281 39 = some (.ireturn, 1, 0, 0) := rfl
def q281_21 (v1 : Int32) (y1 : Int32) (s : mS) : Option mQ := bN (q188 y1 (1 : Int32) s) fun x2 s1 => if x2 = 0 then (bM (q194 s1) fun s3 => bN (q272 v1 s3) fun x5 s4 => rv x5 s4) else (rv (0 : Int32) s1)
theorem t281_21 {L : Nat} {xs : Nat → Int32} {d : Nat} (hd : 13 ≤ d) {v1 : Int32} {y1 : Int32} {s : mS} {r : mQ} (h : q281_21 v1 y1 s = some r) : Ev L xs d 281 21 [(0, .ref 512), (1, .int v1)] [.int y1, .ref 512] (hp s) (hr r) := by
  unfold q281_21 at h
  refine Ev.iconst H281 i281_21 kI_1 ?_
  refine Rd.cV2vN H281 i281_22 cal188 ob11 (Nat.le_of_ble_eq_true rfl) (Nat.le_of_ble_eq_true rfl) (Nat.lt_of_lt_of_le (by decide) hd) (fun q hq => c188 hq) h (fun x2 s1 h => ?_)
  refine Rd.if_eq H281 i281_25 (t := 30) (by decide) h (fun hc h => ?_) (fun hc h => ?_)
  · refine Ev.aload_n H281 i281_30 rfl ?_
    refine Rd.cV0uN H281 i281_31 cal194 ob11 (Nat.le_of_ble_eq_true rfl) (Nat.le_of_ble_eq_true rfl) (Nat.lt_of_lt_of_le (by decide) hd) (fun q hq => c194 hq) h (fun s3 h => ?_)
    refine Ev.aload_n H281 i281_34 rfl ?_
    refine Ev.iload_n H281 i281_35 rfl ?_
    refine Rd.cV1vN H281 i281_36 cal272 ob11 (Nat.le_of_ble_eq_true rfl) (Nat.le_of_ble_eq_true rfl) (Nat.lt_of_lt_of_le (by decide) hd) (fun q hq => c272 hq) h (fun x5 s4 h => ?_)
    exact Rd.ireturn H281 i281_39 rfl h
  · refine Ev.iconst H281 i281_28 kI_0 ?_
    exact Rd.ireturn H281 i281_29 rfl h
/-- SerialGateModel.ticks(I)I -/
def q281 (v1 : Int32) (s : mS) : Option mQ := sp (sI s 512 0 (0 : Int32)) fun s6 => bN (q189 v1 (1 : Int32) (60 : Int32) s6) fun x8 s7 => if ¬ x8 = 0 then (q281_21 v1 (0 : Int32) s7) else (q281_21 v1 (1 : Int32) s7)
theorem c281 {L : Nat} {xs : Nat → Int32} {v1 : Int32} {s : mS} {r : mQ} (h : q281 v1 s = some r) : ∀ d, 13 ≤ d → Cl L xs d 281 [.ref 512, .int v1] (hp s) (hr r) := by
  intro d hd
  show Ev L xs d 281 0 [(0, .ref 512), (1, .int v1)] [] (hp s) (hr r)
  unfold q281 at h
  refine Ev.aload_n H281 i281_0 rfl ?_
  refine Ev.iconst H281 i281_1 kI_0 ?_
  refine Rd.putI H281 i281_2 ob11 rfl ty11_0.1 ty11_0.2 h (fun s6 h => ?_)
  refine Ev.aload_n H281 i281_5 rfl ?_
  refine Ev.iload_n H281 i281_6 rfl ?_
  refine Ev.iconst H281 i281_7 kI_1 ?_
  refine Ev.bipush H281 i281_8 kB_60 ?_
  refine Rd.cS3vN H281 i281_10 cal189 (Nat.le_of_ble_eq_true rfl) (Nat.le_of_ble_eq_true rfl) (Nat.lt_of_lt_of_le (by decide) hd) (fun q hq => c189 hq) h (fun x8 s7 h => ?_)
  refine Rd.if_ne H281 i281_13 (t := 20) (by decide) h (fun hc h => ?_) (fun hc h => ?_)
  · refine Ev.iconst H281 i281_20 kI_0 ?_
    exact Ev.sub (l := [(0, .ref 512), (1, .int v1)]) rfl rfl (mm_sub_c rfl (mm_sub_c rfl mm_sub_n)) (t281_21 hd h)
  · refine Ev.iconst H281 i281_16 kI_1 ?_
    refine Ev.goto H281 i281_17 (t := 21) (by decide) ?_
    exact Ev.sub (l := [(0, .ref 512), (1, .int v1)]) rfl rfl (mm_sub_c rfl (mm_sub_c rfl mm_sub_n)) (t281_21 hd h)
theorem i282_0 : mm_cd 282 0 = some (.aload_n 0, 1, 0, 0) := rfl
theorem i282_1 : mm_cd 282 1 = some (.iconst 0, 1, 0, 0) := rfl
theorem i282_2 : mm_cd 282 2 = some (.putfield 3, 3, ((11 : Nat) : Int), 0) := rfl
theorem i282_5 : mm_cd 282 5 = some (.aload_n 0, 1, 0, 0) := rfl
theorem i282_6 : mm_cd 282 6 = some (.aload_n 0, 1, 0, 0) := rfl
theorem i282_7 : mm_cd 282 7 = some (.iload_n 1, 1, 0, 0) := rfl
theorem i282_8 : mm_cd 282 8 = some (.invokevirtual 380, 3, 0, 275) := rfl
theorem i282_11 : mm_cd 282 11 = some (.iconst 1, 1, 0, 0) := rfl
theorem i282_12 : mm_cd 282 12 = some (.invokevirtual 249, 3, 0, 188) := rfl
theorem i282_15 : mm_cd 282 15 = some (.ifCond .ne 33, 3, 0, 0) := rfl
theorem i282_18 : mm_cd 282 18 = some (.aload_n 0, 1, 0, 0) := rfl
theorem i282_19 : mm_cd 282 19 = some (.aload_n 0, 1, 0, 0) := rfl
theorem i282_20 : mm_cd 282 20 = some (.iload_n 1, 1, 0, 0) := rfl
theorem i282_21 : mm_cd 282 21 = some (.invokevirtual 346, 3, 0, 209) := rfl
theorem i282_24 : mm_cd 282 24 = some (.iconst (-1), 1, 0, 0) := rfl
theorem i282_25 : mm_cd 282 25 = some (.if_icmp .ne 11, 3, 0, 0) := rfl
theorem i282_28 : mm_cd 282 28 = some (.aload_n 0, 1, 0, 0) := rfl
theorem i282_29 : mm_cd 282 29 = some (.iconst 0, 1, 0, 0) := rfl
theorem i282_30 : mm_cd 282 30 = some (.invokevirtual 313, 3, 0, 208) := rfl
theorem i282_33 : mm_cd 282 33 = some (.ifCond .ne 7, 3, 0, 0) := rfl
theorem i282_36 : mm_cd 282 36 = some (.iconst 1, 1, 0, 0) := rfl
theorem i282_37 : mm_cd 282 37 = some (.goto 4, 3, 0, 0) := rfl
theorem i282_40 : mm_cd 282 40 = some (.iconst 0, 1, 0, 0) := rfl
theorem i282_41 : mm_cd 282 41 = some (.iconst 2, 1, 0, 0) := rfl
theorem i282_42 : mm_cd 282 42 = some (.invokevirtual 249, 3, 0, 188) := rfl
theorem i282_45 : mm_cd 282 45 = some (.ifCond .eq 5, 3, 0, 0) := rfl
theorem i282_48 : mm_cd 282 48 = some (.iconst 0, 1, 0, 0) := rfl
theorem i282_49 : mm_cd 282 49 = some (.ireturn, 1, 0, 0) := rfl
theorem i282_50 : mm_cd 282 50 = some (.aload_n 0, 1, 0, 0) := rfl
theorem i282_51 : mm_cd 282 51 = some (.invokevirtual 389, 3, 0, 194) := rfl
theorem i282_54 : mm_cd 282 54 = some (.aload_n 0, 1, 0, 0) := rfl
theorem i282_55 : mm_cd 282 55 = some (.iload_n 1, 1, 0, 0) := rfl
theorem i282_56 : mm_cd 282 56 = some (.invokevirtual 355, 3, 0, 262) := rfl
theorem i282_59 : mm_cd 282 59 = some (.ireturn, 1, 0, 0) := rfl
def q282_41 (v1 : Int32) (y1 : Int32) (s : mS) : Option mQ := bN (q188 y1 (2 : Int32) s) fun x2 s1 => if x2 = 0 then (bM (q194 s1) fun s3 => bN (q262 v1 s3) fun x5 s4 => rv x5 s4) else (rv (0 : Int32) s1)
theorem t282_41 {L : Nat} {xs : Nat → Int32} {d : Nat} (hd : 4 ≤ d) {v1 : Int32} {y1 : Int32} {s : mS} {r : mQ} (h : q282_41 v1 y1 s = some r) : Ev L xs d 282 41 [(0, .ref 512), (1, .int v1)] [.int y1, .ref 512] (hp s) (hr r) := by
  unfold q282_41 at h
  refine Ev.iconst H282 i282_41 kI_2 ?_
  refine Rd.cV2vN H282 i282_42 cal188 ob11 (Nat.le_of_ble_eq_true rfl) (Nat.le_of_ble_eq_true rfl) (Nat.lt_of_lt_of_le (by decide) hd) (fun q hq => c188 hq) h (fun x2 s1 h => ?_)
  refine Rd.if_eq H282 i282_45 (t := 50) (by decide) h (fun hc h => ?_) (fun hc h => ?_)
  · refine Ev.aload_n H282 i282_50 rfl ?_
    refine Rd.cV0uN H282 i282_51 cal194 ob11 (Nat.le_of_ble_eq_true rfl) (Nat.le_of_ble_eq_true rfl) (Nat.lt_of_lt_of_le (by decide) hd) (fun q hq => c194 hq) h (fun s3 h => ?_)
    refine Ev.aload_n H282 i282_54 rfl ?_
    refine Ev.iload_n H282 i282_55 rfl ?_
    refine Rd.cV1vN H282 i282_56 cal262 ob11 (Nat.le_of_ble_eq_true rfl) (Nat.le_of_ble_eq_true rfl) (Nat.lt_of_lt_of_le (by decide) hd) (fun q hq => c262 hq) h (fun x5 s4 h => ?_)
    exact Rd.ireturn H282 i282_59 rfl h
  · refine Ev.iconst H282 i282_48 kI_0 ?_
    exact Rd.ireturn H282 i282_49 rfl h
def q282_36 (v1 : Int32) (s : mS) : Option mQ := q282_41 v1 (1 : Int32) s
theorem t282_36 {L : Nat} {xs : Nat → Int32} {d : Nat} (hd : 4 ≤ d) {v1 : Int32} {s : mS} {r : mQ} (h : q282_36 v1 s = some r) : Ev L xs d 282 36 [(0, .ref 512), (1, .int v1)] [.ref 512] (hp s) (hr r) := by
  unfold q282_36 at h
  refine Ev.iconst H282 i282_36 kI_1 ?_
  refine Ev.goto H282 i282_37 (t := 41) (by decide) ?_
  exact Ev.sub (l := [(0, .ref 512), (1, .int v1)]) rfl rfl (mm_sub_c rfl (mm_sub_c rfl mm_sub_n)) (t282_41 hd h)
/-- SerialGateModel.begin(I)I -/
def q282 (v1 : Int32) (s : mS) : Option mQ := sp (sI s 512 0 (0 : Int32)) fun s6 => bN (q275 v1 s6) fun x8 s7 => bN (q188 x8 (1 : Int32) s7) fun x10 s9 => if ¬ x10 = 0 then (rv (0 : Int32) s9) else (bN (q209 v1 s9) fun x12 s11 => if ¬ x12 = (-1 : Int32) then (q282_36 v1 s11) else (bN (q208 (0 : Int32) s11) fun x14 s13 => if ¬ x14 = 0 then (q282_41 v1 (0 : Int32) s13) else (q282_36 v1 s13)))
theorem c282 {L : Nat} {xs : Nat → Int32} {v1 : Int32} {s : mS} {r : mQ} (h : q282 v1 s = some r) : ∀ d, 4 ≤ d → Cl L xs d 282 [.ref 512, .int v1] (hp s) (hr r) := by
  intro d hd
  show Ev L xs d 282 0 [(0, .ref 512), (1, .int v1)] [] (hp s) (hr r)
  unfold q282 at h
  refine Ev.aload_n H282 i282_0 rfl ?_
  refine Ev.iconst H282 i282_1 kI_0 ?_
  refine Rd.putI H282 i282_2 ob11 rfl ty11_0.1 ty11_0.2 h (fun s6 h => ?_)
  refine Ev.aload_n H282 i282_5 rfl ?_
  refine Ev.aload_n H282 i282_6 rfl ?_
  refine Ev.iload_n H282 i282_7 rfl ?_
  refine Rd.cV1vN H282 i282_8 cal275 ob11 (Nat.le_of_ble_eq_true rfl) (Nat.le_of_ble_eq_true rfl) (Nat.lt_of_lt_of_le (by decide) hd) (fun q hq => c275 hq) h (fun x8 s7 h => ?_)
  refine Ev.iconst H282 i282_11 kI_1 ?_
  refine Rd.cV2vN H282 i282_12 cal188 ob11 (Nat.le_of_ble_eq_true rfl) (Nat.le_of_ble_eq_true rfl) (Nat.lt_of_lt_of_le (by decide) hd) (fun q hq => c188 hq) h (fun x10 s9 h => ?_)
  refine Rd.if_ne H282 i282_15 (t := 48) (by decide) h (fun hc h => ?_) (fun hc h => ?_)
  · refine Ev.iconst H282 i282_48 kI_0 ?_
    exact Rd.ireturn H282 i282_49 rfl h
  · refine Ev.aload_n H282 i282_18 rfl ?_
    refine Ev.aload_n H282 i282_19 rfl ?_
    refine Ev.iload_n H282 i282_20 rfl ?_
    refine Rd.cV1vN H282 i282_21 cal209 ob11 (Nat.le_of_ble_eq_true rfl) (Nat.le_of_ble_eq_true rfl) (Nat.lt_of_lt_of_le (by decide) hd) (fun q hq => c209 hq) h (fun x12 s11 h => ?_)
    refine Ev.iconst H282 i282_24 kI_m1 ?_
    refine Rd.ic_ne H282 i282_25 (t := 36) (by decide) h (fun hc h => ?_) (fun hc h => ?_)
    · exact Ev.sub (l := [(0, .ref 512), (1, .int v1)]) rfl rfl (mm_sub_c rfl (mm_sub_c rfl mm_sub_n)) (t282_36 hd h)
    · refine Ev.aload_n H282 i282_28 rfl ?_
      refine Ev.iconst H282 i282_29 kI_0 ?_
      refine Rd.cV1vN H282 i282_30 cal208 ob11 (Nat.le_of_ble_eq_true rfl) (Nat.le_of_ble_eq_true rfl) (Nat.lt_of_lt_of_le (by decide) hd) (fun q hq => c208 hq) h (fun x14 s13 h => ?_)
      refine Rd.if_ne H282 i282_33 (t := 40) (by decide) h (fun hc h => ?_) (fun hc h => ?_)
      · refine Ev.iconst H282 i282_40 kI_0 ?_
        exact Ev.sub (l := [(0, .ref 512), (1, .int v1)]) rfl rfl (mm_sub_c rfl (mm_sub_c rfl mm_sub_n)) (t282_41 hd h)
      · exact Ev.sub (l := [(0, .ref 512), (1, .int v1)]) rfl rfl (mm_sub_c rfl (mm_sub_c rfl mm_sub_n)) (t282_36 hd h)
theorem i283_0 : mm_cd 283 0 = some (.aload_n 0, 1, 0, 0) := rfl
theorem i283_1 : mm_cd 283 1 = some (.iconst 0, 1, 0, 0) := rfl
theorem i283_2 : mm_cd 283 2 = some (.putfield 3, 3, ((11 : Nat) : Int), 0) := rfl
theorem i283_5 : mm_cd 283 5 = some (.aload_n 0, 1, 0, 0) := rfl
theorem i283_6 : mm_cd 283 6 = some (.iload_n 1, 1, 0, 0) := rfl
theorem i283_7 : mm_cd 283 7 = some (.invokestatic 374, 3, 0, 273) := rfl
theorem i283_10 : mm_cd 283 10 = some (.ifCond .ne 10, 3, 0, 0) := rfl
theorem i283_13 : mm_cd 283 13 = some (.iload_n 2, 1, 0, 0) := rfl
theorem i283_14 : mm_cd 283 14 = some (.invokestatic 377, 3, 0, 274) := rfl
theorem i283_17 : mm_cd 283 17 = some (.ifCond .eq 7, 3, 0, 0) := rfl
theorem i283_20 : mm_cd 283 20 = some (.iconst 1, 1, 0, 0) := rfl
theorem i283_21 : mm_cd 283 21 = some (.goto 4, 3, 0, 0) := rfl
theorem i283_24 : mm_cd 283 24 = some (.iconst 0, 1, 0, 0) := rfl
theorem i283_25 : mm_cd 283 25 = some (.iconst 1, 1, 0, 0) := rfl
theorem i283_26 : mm_cd 283 26 = some (.invokevirtual 249, 3, 0, 188) := rfl
theorem i283_29 : mm_cd 283 29 = some (.ireturn, 1, 0, 0) := rfl
def q283_25 (y1 : Int32) (s : mS) : Option mQ := bN (q188 y1 (1 : Int32) s) fun x2 s1 => gB x2 <| rv x2 s1
theorem t283_25 {L : Nat} {xs : Nat → Int32} {d : Nat} (hd : 2 ≤ d) {y1 : Int32} {s : mS} {r : mQ} (h : q283_25 y1 s = some r) : Ev L xs d 283 25 [] [.int y1, .ref 512] (hp s) (hr r) := by
  unfold q283_25 at h
  refine Ev.iconst H283 i283_25 kI_1 ?_
  refine Rd.cV2vN H283 i283_26 cal188 ob11 (Nat.le_of_ble_eq_true rfl) (Nat.le_of_ble_eq_true rfl) (Nat.lt_of_lt_of_le (by decide) hd) (fun q hq => c188 hq) h (fun x2 s1 h => ?_)
  exact Rd.ireturnZ H283 i283_29 rfl h
def q283_20 (s : mS) : Option mQ := q283_25 (1 : Int32) s
theorem t283_20 {L : Nat} {xs : Nat → Int32} {d : Nat} (hd : 2 ≤ d) {s : mS} {r : mQ} (h : q283_20 s = some r) : Ev L xs d 283 20 [] [.ref 512] (hp s) (hr r) := by
  unfold q283_20 at h
  refine Ev.iconst H283 i283_20 kI_1 ?_
  refine Ev.goto H283 i283_21 (t := 25) (by decide) ?_
  exact Ev.sub (l := []) rfl rfl mm_sub_n (t283_25 hd h)
/-- SerialGateModel.noBoth(II)Z -/
def q283 (v1 : Int32) (v2 : Int32) (s : mS) : Option mQ := sp (sI s 512 0 (0 : Int32)) fun s3 => bN (q273 v1 s3) fun x5 s4 => if ¬ x5 = 0 then (q283_20 s4) else (bN (q274 v2 s4) fun x7 s6 => if x7 = 0 then (q283_25 (0 : Int32) s6) else (q283_20 s6))
theorem c283 {L : Nat} {xs : Nat → Int32} {v1 : Int32} {v2 : Int32} {s : mS} {r : mQ} (h : q283 v1 v2 s = some r) : ∀ d, 2 ≤ d → Cl L xs d 283 [.ref 512, .int v1, .int v2] (hp s) (hr r) := by
  intro d hd
  show Ev L xs d 283 0 [(0, .ref 512), (1, .int v1), (2, .int v2)] [] (hp s) (hr r)
  unfold q283 at h
  refine Ev.aload_n H283 i283_0 rfl ?_
  refine Ev.iconst H283 i283_1 kI_0 ?_
  refine Rd.putI H283 i283_2 ob11 rfl ty11_0.1 ty11_0.2 h (fun s3 h => ?_)
  refine Ev.aload_n H283 i283_5 rfl ?_
  refine Ev.iload_n H283 i283_6 rfl ?_
  refine Rd.cS1vN H283 i283_7 cal273 (Nat.le_of_ble_eq_true rfl) (Nat.le_of_ble_eq_true rfl) (Nat.lt_of_lt_of_le (by decide) hd) (fun q hq => c273 hq) h (fun x5 s4 h => ?_)
  refine Rd.if_ne H283 i283_10 (t := 20) (by decide) h (fun hc h => ?_) (fun hc h => ?_)
  · exact Ev.sub (l := []) rfl rfl mm_sub_n (t283_20 hd h)
  · refine Ev.iload_n H283 i283_13 rfl ?_
    refine Rd.cS1vN H283 i283_14 cal274 (Nat.le_of_ble_eq_true rfl) (Nat.le_of_ble_eq_true rfl) (Nat.lt_of_lt_of_le (by decide) hd) (fun q hq => c274 hq) h (fun x7 s6 h => ?_)
    refine Rd.if_eq H283 i283_17 (t := 24) (by decide) h (fun hc h => ?_) (fun hc h => ?_)
    · refine Ev.iconst H283 i283_24 kI_0 ?_
      exact Ev.sub (l := []) rfl rfl mm_sub_n (t283_25 hd h)
    · exact Ev.sub (l := []) rfl rfl mm_sub_n (t283_20 hd h)
theorem i284_0 : mm_cd 284 0 = some (.aload_n 0, 1, 0, 0) := rfl
theorem i284_1 : mm_cd 284 1 = some (.iload_n 1, 1, 0, 0) := rfl
theorem i284_2 : mm_cd 284 2 = some (.iload_n 2, 1, 0, 0) := rfl
theorem i284_3 : mm_cd 284 3 = some (.invokevirtual 395, 3, 0, 283) := rfl
theorem i284_6 : mm_cd 284 6 = some (.ifCond .ne 24, 3, 0, 0) := rfl
theorem i284_9 : mm_cd 284 9 = some (.aload_n 0, 1, 0, 0) := rfl
theorem i284_10 : mm_cd 284 10 = some (.aload_n 0, 1, 0, 0) := rfl
theorem i284_11 : mm_cd 284 11 = some (.iload_n 1, 1, 0, 0) := rfl
theorem i284_12 : mm_cd 284 12 = some (.invokevirtual 75, 3, 0, 205) := rfl
theorem i284_15 : mm_cd 284 15 = some (.ifCond .ne 7, 3, 0, 0) := rfl
theorem i284_18 : mm_cd 284 18 = some (.iconst 1, 1, 0, 0) := rfl
theorem i284_19 : mm_cd 284 19 = some (.goto 4, 3, 0, 0) := rfl
theorem i284_22 : mm_cd 284 22 = some (.iconst 0, 1, 0, 0) := rfl
theorem i284_23 : mm_cd 284 23 = some (.iconst 2, 1, 0, 0) := rfl
theorem i284_24 : mm_cd 284 24 = some (.invokevirtual 249, 3, 0, 188) := rfl
theorem i284_27 : mm_cd 284 27 = some (.ifCond .eq 5, 3, 0, 0) := rfl
theorem i284_30 : mm_cd 284 30 = some (.iconst 0, 1, 0, 0) := rfl
theorem i284_31 : mm_cd 284 31 = some (.ireturn, 1, 0, 0) := rfl
theorem i284_32 : mm_cd 284 32 = some (.aload_n 0, 1, 0, 0) := rfl
theorem i284_33 : mm_cd 284 33 = some (.invokevirtual 389, 3, 0, 194) := rfl
theorem i284_36 : mm_cd 284 36 = some (.aload_n 0, 1, 0, 0) := rfl
theorem i284_37 : mm_cd 284 37 = some (.iload_n 1, 1, 0, 0) := rfl
theorem i284_38 : mm_cd 284 38 = some (.bipush 11, 2, 0, 0) := rfl
theorem i284_40 : mm_cd 284 40 = some (.iload_n 2, 1, 0, 0) := rfl
theorem i284_41 : mm_cd 284 41 = some (.iadd, 1, 0, 0) := rfl
theorem i284_42 : mm_cd 284 42 = some (.invokevirtual 69, 3, 0, 204) := rfl
theorem i284_45 : mm_cd 284 45 = some (.aload_n 0, 1, 0, 0) := rfl
theorem i284_46 : mm_cd 284 46 = some (.iload_n 1, 1, 0, 0) := rfl
theorem i284_47 : mm_cd 284 47 = some (.bipush 6, 2, 0, 0) := rfl
theorem i284_49 : mm_cd 284 49 = some (.invokevirtual 69, 3, 0, 204) := rfl
theorem i284_52 : mm_cd 284 52 = some (.iload_n 2, 1, 0, 0) := rfl
theorem i284_53 : mm_cd 284 53 = some (.invokestatic 79, 3, 0, 190) := rfl
theorem i284_56 : mm_cd 284 56 = some (.ifCond .eq 7, 3, 0, 0) := rfl
theorem i284_59 : mm_cd 284 59 = some (.iconst 1, 1, 0, 0) := rfl
theorem i284_60 : mm_cd 284 60 = some (.goto 4, 3, 0, 0) := rfl
theorem i284_63 : mm_cd 284 63 = some (.iconst 0, 1, 0, 0) := rfl
theorem i284_64 : mm_cd 284 64 = some (.iadd, 1, 0, 0) := rfl
theorem i284_65 : mm_cd 284 65 = some (.istore_n 3, 1, 0, 0) := rfl
theorem i284_66 : mm_cd 284 66 = some (.aload_n 0, 1, 0, 0) := rfl
theorem i284_67 : mm_cd 284 67 = some (.iload_n 1, 1, 0, 0) := rfl
theorem i284_68 : mm_cd 284 68 = some (.iload_n 2, 1, 0, 0) := rfl
theorem i284_69 : mm_cd 284 69 = some (.invokevirtual 358, 3, 0, 263) := rfl
theorem i284_72 : mm_cd 284 72 = some (.aload_n 0, 1, 0, 0) := rfl
theorem i284_73 : mm_cd 284 73 = some (.iload_n 1, 1, 0, 0) := rfl
theorem i284_74 : mm_cd 284 74 = some (.invokevirtual 75, 3, 0, 205) := rfl
theorem i284_77 : mm_cd 284 77 = some (.ifCond .eq 7, 3, 0, 0) := rfl
theorem i284_80 : mm_cd 284 80 = some (.iload_n 3, 1, 0, 0) := rfl
theorem i284_81 : mm_cd 284 81 = some (.goto 4, 3, 0, 0) := rfl
theorem i284_84 : mm_cd 284 84 = some (.iconst (-1), 1, 0, 0) := rfl
theorem i284_85 : mm_cd 284 85 = some (.ireturn, 1, 0, 0) := rfl
def q284_64 (v1 : Int32) (v2 : Int32) (y0 : Int32) (y1 : Int32) (s : mS) : Option mQ := bx (y0 + y1) fun x1 => bM (q263 v1 v2 s) fun s2 => bN (q205 v1 s2) fun x4 s3 => if x4 = 0 then (rv (-1 : Int32) s3) else (rv x1 s3)
theorem t284_64 {L : Nat} {xs : Nat → Int32} {d : Nat} (hd : 11 ≤ d) {v1 : Int32} {v2 : Int32} {y0 : Int32} {y1 : Int32} {s : mS} {r : mQ} (h : q284_64 v1 v2 y0 y1 s = some r) : Ev L xs d 284 64 [(0, .ref 512), (1, .int v1), (2, .int v2)] [.int y1, .int y0] (hp s) (hr r) := by
  unfold q284_64 at h
  refine Ev.iadd H284 i284_64 ?_
  refine Rd.istore_n H284 i284_65 (Nat.le_of_ble_eq_true rfl) (lv2 := fun x1 => [(3, .int x1), (0, .ref 512), (1, .int v1), (2, .int v2)]) (fun _ => rfl) h (fun x1 h => ?_)
  refine Ev.aload_n H284 i284_66 rfl ?_
  refine Ev.iload_n H284 i284_67 rfl ?_
  refine Ev.iload_n H284 i284_68 rfl ?_
  refine Rd.cV2uN H284 i284_69 cal263 ob11 (Nat.le_of_ble_eq_true rfl) (Nat.le_of_ble_eq_true rfl) (Nat.lt_of_lt_of_le (by decide) hd) (fun q hq => c263 hq) h (fun s2 h => ?_)
  refine Ev.aload_n H284 i284_72 rfl ?_
  refine Ev.iload_n H284 i284_73 rfl ?_
  refine Rd.cV1vN H284 i284_74 cal205 ob11 (Nat.le_of_ble_eq_true rfl) (Nat.le_of_ble_eq_true rfl) (Nat.lt_of_lt_of_le (by decide) hd) (fun q hq => c205 hq) h (fun x4 s3 h => ?_)
  refine Rd.if_eq H284 i284_77 (t := 84) (by decide) h (fun hc h => ?_) (fun hc h => ?_)
  · refine Ev.iconst H284 i284_84 kI_m1 ?_
    exact Rd.ireturn H284 i284_85 rfl h
  · refine Ev.iload_n H284 i284_80 rfl ?_
    refine Ev.goto H284 i284_81 (t := 85) (by decide) ?_
    exact Rd.ireturn H284 i284_85 rfl h
def q284_23 (v1 : Int32) (v2 : Int32) (y1 : Int32) (s : mS) : Option mQ := bN (q188 y1 (2 : Int32) s) fun x6 s5 => if x6 = 0 then (bM (q194 s5) fun s7 => bN (q204 v1 ((11 : Int32) + v2) s7) fun x9 s8 => bN (q204 v1 (6 : Int32) s8) fun x11 s10 => bN (q190 x11 v2 s10) fun x13 s12 => if x13 = 0 then (q284_64 v1 v2 x9 (0 : Int32) s12) else (q284_64 v1 v2 x9 (1 : Int32) s12)) else (rv (0 : Int32) s5)
theorem t284_23 {L : Nat} {xs : Nat → Int32} {d : Nat} (hd : 11 ≤ d) {v1 : Int32} {v2 : Int32} {y1 : Int32} {s : mS} {r : mQ} (h : q284_23 v1 v2 y1 s = some r) : Ev L xs d 284 23 [(0, .ref 512), (1, .int v1), (2, .int v2)] [.int y1, .ref 512] (hp s) (hr r) := by
  unfold q284_23 at h
  refine Ev.iconst H284 i284_23 kI_2 ?_
  refine Rd.cV2vN H284 i284_24 cal188 ob11 (Nat.le_of_ble_eq_true rfl) (Nat.le_of_ble_eq_true rfl) (Nat.lt_of_lt_of_le (by decide) hd) (fun q hq => c188 hq) h (fun x6 s5 h => ?_)
  refine Rd.if_eq H284 i284_27 (t := 32) (by decide) h (fun hc h => ?_) (fun hc h => ?_)
  · refine Ev.aload_n H284 i284_32 rfl ?_
    refine Rd.cV0uN H284 i284_33 cal194 ob11 (Nat.le_of_ble_eq_true rfl) (Nat.le_of_ble_eq_true rfl) (Nat.lt_of_lt_of_le (by decide) hd) (fun q hq => c194 hq) h (fun s7 h => ?_)
    refine Ev.aload_n H284 i284_36 rfl ?_
    refine Ev.iload_n H284 i284_37 rfl ?_
    refine Ev.bipush H284 i284_38 kB_11 ?_
    refine Ev.iload_n H284 i284_40 rfl ?_
    refine Ev.iadd H284 i284_41 ?_
    refine Rd.cV2vN H284 i284_42 cal204 ob11 (Nat.le_of_ble_eq_true rfl) (Nat.le_of_ble_eq_true rfl) (Nat.lt_of_lt_of_le (by decide) hd) (fun q hq => c204 hq) h (fun x9 s8 h => ?_)
    refine Ev.aload_n H284 i284_45 rfl ?_
    refine Ev.iload_n H284 i284_46 rfl ?_
    refine Ev.bipush H284 i284_47 kB_6 ?_
    refine Rd.cV2vN H284 i284_49 cal204 ob11 (Nat.le_of_ble_eq_true rfl) (Nat.le_of_ble_eq_true rfl) (Nat.lt_of_lt_of_le (by decide) hd) (fun q hq => c204 hq) h (fun x11 s10 h => ?_)
    refine Ev.iload_n H284 i284_52 rfl ?_
    refine Rd.cS2vN H284 i284_53 cal190 (Nat.le_of_ble_eq_true rfl) (Nat.le_of_ble_eq_true rfl) (Nat.lt_of_lt_of_le (by decide) hd) (fun q hq => c190 hq) h (fun x13 s12 h => ?_)
    refine Rd.if_eq H284 i284_56 (t := 63) (by decide) h (fun hc h => ?_) (fun hc h => ?_)
    · refine Ev.iconst H284 i284_63 kI_0 ?_
      exact Ev.sub (l := [(0, .ref 512), (1, .int v1), (2, .int v2)]) rfl rfl (mm_sub_c rfl (mm_sub_c rfl (mm_sub_c rfl mm_sub_n))) (t284_64 hd h)
    · refine Ev.iconst H284 i284_59 kI_1 ?_
      refine Ev.goto H284 i284_60 (t := 64) (by decide) ?_
      exact Ev.sub (l := [(0, .ref 512), (1, .int v1), (2, .int v2)]) rfl rfl (mm_sub_c rfl (mm_sub_c rfl (mm_sub_c rfl mm_sub_n))) (t284_64 hd h)
  · refine Ev.iconst H284 i284_30 kI_0 ?_
    exact Rd.ireturn H284 i284_31 rfl h
/-- SerialGateModel.read(II)I -/
def q284 (v1 : Int32) (v2 : Int32) (s : mS) : Option mQ := bN (q283 v1 v2 s) fun x15 s14 => if ¬ x15 = 0 then (rv (0 : Int32) s14) else (bN (q205 v1 s14) fun x17 s16 => if ¬ x17 = 0 then (q284_23 v1 v2 (0 : Int32) s16) else (q284_23 v1 v2 (1 : Int32) s16))
theorem c284 {L : Nat} {xs : Nat → Int32} {v1 : Int32} {v2 : Int32} {s : mS} {r : mQ} (h : q284 v1 v2 s = some r) : ∀ d, 11 ≤ d → Cl L xs d 284 [.ref 512, .int v1, .int v2] (hp s) (hr r) := by
  intro d hd
  show Ev L xs d 284 0 [(0, .ref 512), (1, .int v1), (2, .int v2)] [] (hp s) (hr r)
  unfold q284 at h
  refine Ev.aload_n H284 i284_0 rfl ?_
  refine Ev.iload_n H284 i284_1 rfl ?_
  refine Ev.iload_n H284 i284_2 rfl ?_
  refine Rd.cV2vN H284 i284_3 cal283 ob11 (Nat.le_of_ble_eq_true rfl) (Nat.le_of_ble_eq_true rfl) (Nat.lt_of_lt_of_le (by decide) hd) (fun q hq => c283 hq) h (fun x15 s14 h => ?_)
  refine Rd.if_ne H284 i284_6 (t := 30) (by decide) h (fun hc h => ?_) (fun hc h => ?_)
  · refine Ev.iconst H284 i284_30 kI_0 ?_
    exact Rd.ireturn H284 i284_31 rfl h
  · refine Ev.aload_n H284 i284_9 rfl ?_
    refine Ev.aload_n H284 i284_10 rfl ?_
    refine Ev.iload_n H284 i284_11 rfl ?_
    refine Rd.cV1vN H284 i284_12 cal205 ob11 (Nat.le_of_ble_eq_true rfl) (Nat.le_of_ble_eq_true rfl) (Nat.lt_of_lt_of_le (by decide) hd) (fun q hq => c205 hq) h (fun x17 s16 h => ?_)
    refine Rd.if_ne H284 i284_15 (t := 22) (by decide) h (fun hc h => ?_) (fun hc h => ?_)
    · refine Ev.iconst H284 i284_22 kI_0 ?_
      exact Ev.sub (l := [(0, .ref 512), (1, .int v1), (2, .int v2)]) rfl rfl (mm_sub_c rfl (mm_sub_c rfl (mm_sub_c rfl mm_sub_n))) (t284_23 hd h)
    · refine Ev.iconst H284 i284_18 kI_1 ?_
      refine Ev.goto H284 i284_19 (t := 23) (by decide) ?_
      exact Ev.sub (l := [(0, .ref 512), (1, .int v1), (2, .int v2)]) rfl rfl (mm_sub_c rfl (mm_sub_c rfl (mm_sub_c rfl mm_sub_n))) (t284_23 hd h)
theorem i285_0 : mm_cd 285 0 = some (.aload_n 0, 1, 0, 0) := rfl
theorem i285_1 : mm_cd 285 1 = some (.iload_n 1, 1, 0, 0) := rfl
theorem i285_2 : mm_cd 285 2 = some (.iload_n 2, 1, 0, 0) := rfl
theorem i285_3 : mm_cd 285 3 = some (.invokevirtual 395, 3, 0, 283) := rfl
theorem i285_6 : mm_cd 285 6 = some (.ifCond .ne 41, 3, 0, 0) := rfl
theorem i285_9 : mm_cd 285 9 = some (.aload_n 0, 1, 0, 0) := rfl
theorem i285_10 : mm_cd 285 10 = some (.aload_n 0, 1, 0, 0) := rfl
theorem i285_11 : mm_cd 285 11 = some (.iload_n 1, 1, 0, 0) := rfl
theorem i285_12 : mm_cd 285 12 = some (.invokevirtual 75, 3, 0, 205) := rfl
theorem i285_15 : mm_cd 285 15 = some (.ifCond .eq 20, 3, 0, 0) := rfl
theorem i285_18 : mm_cd 285 18 = some (.aload_n 0, 1, 0, 0) := rfl
theorem i285_19 : mm_cd 285 19 = some (.iload_n 1, 1, 0, 0) := rfl
theorem i285_20 : mm_cd 285 20 = some (.invokevirtual 282, 3, 0, 207) := rfl
theorem i285_23 : mm_cd 285 23 = some (.ifCond .ne 12, 3, 0, 0) := rfl
theorem i285_26 : mm_cd 285 26 = some (.aload_n 0, 1, 0, 0) := rfl
theorem i285_27 : mm_cd 285 27 = some (.iload_n 1, 1, 0, 0) := rfl
theorem i285_28 : mm_cd 285 28 = some (.iload_n 2, 1, 0, 0) := rfl
theorem i285_29 : mm_cd 285 29 = some (.invokevirtual 360, 3, 0, 264) := rfl
theorem i285_32 : mm_cd 285 32 = some (.ifCond .eq 7, 3, 0, 0) := rfl
theorem i285_35 : mm_cd 285 35 = some (.iconst 1, 1, 0, 0) := rfl
theorem i285_36 : mm_cd 285 36 = some (.goto 4, 3, 0, 0) := rfl
theorem i285_39 : mm_cd 285 39 = some (.iconst 0, 1, 0, 0) := rfl
theorem i285_40 : mm_cd 285 40 = some (.iconst 2, 1, 0, 0) := rfl
theorem i285_41 : mm_cd 285 41 = some (.invokevirtual 249, 3, 0, 188) := rfl
theorem i285_44 : mm_cd 285 44 = some (.ifCond .eq 5, 3, 0, 0) := rfl
theorem i285_47 : mm_cd 285 47 = some (.iconst 0, 1, 0, 0) := rfl
theorem i285_48 : mm_cd 285 48 = some (.ireturn, 1, 0, 0) := rfl
theorem i285_49 : mm_cd 285 49 = some (.aload_n 0, 1, 0, 0) := rfl
theorem i285_50 : mm_cd 285 50 = some (.invokevirtual 389, 3, 0, 194) := rfl
theorem i285_53 : mm_cd 285 53 = some (.aload_n 0, 1, 0, 0) := rfl
theorem i285_54 : mm_cd 285 54 = some (.iload_n 1, 1, 0, 0) := rfl
theorem i285_55 : mm_cd 285 55 = some (.iload_n 2, 1, 0, 0) := rfl
theorem i285_56 : mm_cd 285 56 = some (.invokevirtual 363, 3, 0, 265) := rfl
theorem i285_59 : mm_cd 285 59 = some (.aload_n 0, 1, 0, 0) := rfl
theorem i285_60 : mm_cd 285 60 = some (.iload_n 1, 1, 0, 0) := rfl
theorem i285_61 : mm_cd 285 61 = some (.invokevirtual 75, 3, 0, 205) := rfl
theorem i285_64 : mm_cd 285 64 = some (.ireturn, 1, 0, 0) := rfl
def q285_40 (v1 : Int32) (v2 : Int32) (y1 : Int32) (s : mS) : Option mQ := bN (q188 y1 (2 : Int32) s) fun x2 s1 => if x2 = 0 then (bM (q194 s1) fun s3 => bM (q265 v1 v2 s3) fun s4 => bN (q205 v1 s4) fun x6 s5 => gB x6 <| rv x6 s5) else (rv (0 : Int32) s1)
theorem t285_40 {L : Nat} {xs : Nat → Int32} {d : Nat} (hd : 11 ≤ d) {v1 : Int32} {v2 : Int32} {y1 : Int32} {s : mS} {r : mQ} (h : q285_40 v1 v2 y1 s = some r) : Ev L xs d 285 40 [(0, .ref 512), (1, .int v1), (2, .int v2)] [.int y1, .ref 512] (hp s) (hr r) := by
  unfold q285_40 at h
  refine Ev.iconst H285 i285_40 kI_2 ?_
  refine Rd.cV2vN H285 i285_41 cal188 ob11 (Nat.le_of_ble_eq_true rfl) (Nat.le_of_ble_eq_true rfl) (Nat.lt_of_lt_of_le (by decide) hd) (fun q hq => c188 hq) h (fun x2 s1 h => ?_)
  refine Rd.if_eq H285 i285_44 (t := 49) (by decide) h (fun hc h => ?_) (fun hc h => ?_)
  · refine Ev.aload_n H285 i285_49 rfl ?_
    refine Rd.cV0uN H285 i285_50 cal194 ob11 (Nat.le_of_ble_eq_true rfl) (Nat.le_of_ble_eq_true rfl) (Nat.lt_of_lt_of_le (by decide) hd) (fun q hq => c194 hq) h (fun s3 h => ?_)
    refine Ev.aload_n H285 i285_53 rfl ?_
    refine Ev.iload_n H285 i285_54 rfl ?_
    refine Ev.iload_n H285 i285_55 rfl ?_
    refine Rd.cV2uN H285 i285_56 cal265 ob11 (Nat.le_of_ble_eq_true rfl) (Nat.le_of_ble_eq_true rfl) (Nat.lt_of_lt_of_le (by decide) hd) (fun q hq => c265 hq) h (fun s4 h => ?_)
    refine Ev.aload_n H285 i285_59 rfl ?_
    refine Ev.iload_n H285 i285_60 rfl ?_
    refine Rd.cV1vN H285 i285_61 cal205 ob11 (Nat.le_of_ble_eq_true rfl) (Nat.le_of_ble_eq_true rfl) (Nat.lt_of_lt_of_le (by decide) hd) (fun q hq => c205 hq) h (fun x6 s5 h => ?_)
    exact Rd.ireturnZ H285 i285_64 rfl h
  · refine Ev.iconst H285 i285_47 kI_0 ?_
    exact Rd.ireturnK H285 i285_48 rfl (Or.inl rfl) h
def q285_35 (v1 : Int32) (v2 : Int32) (s : mS) : Option mQ := q285_40 v1 v2 (1 : Int32) s
theorem t285_35 {L : Nat} {xs : Nat → Int32} {d : Nat} (hd : 11 ≤ d) {v1 : Int32} {v2 : Int32} {s : mS} {r : mQ} (h : q285_35 v1 v2 s = some r) : Ev L xs d 285 35 [(0, .ref 512), (1, .int v1), (2, .int v2)] [.ref 512] (hp s) (hr r) := by
  unfold q285_35 at h
  refine Ev.iconst H285 i285_35 kI_1 ?_
  refine Ev.goto H285 i285_36 (t := 40) (by decide) ?_
  exact Ev.sub (l := [(0, .ref 512), (1, .int v1), (2, .int v2)]) rfl rfl (mm_sub_c rfl (mm_sub_c rfl (mm_sub_c rfl mm_sub_n))) (t285_40 hd h)
/-- SerialGateModel.write(II)Z -/
def q285 (v1 : Int32) (v2 : Int32) (s : mS) : Option mQ := bN (q283 v1 v2 s) fun x8 s7 => if ¬ x8 = 0 then (rv (0 : Int32) s7) else (bN (q205 v1 s7) fun x10 s9 => if x10 = 0 then (q285_35 v1 v2 s9) else (bN (q207 v1 s9) fun x12 s11 => if ¬ x12 = 0 then (q285_35 v1 v2 s11) else (bN (q264 v1 v2 s11) fun x14 s13 => if x14 = 0 then (q285_40 v1 v2 (0 : Int32) s13) else (q285_35 v1 v2 s13))))
theorem c285 {L : Nat} {xs : Nat → Int32} {v1 : Int32} {v2 : Int32} {s : mS} {r : mQ} (h : q285 v1 v2 s = some r) : ∀ d, 11 ≤ d → Cl L xs d 285 [.ref 512, .int v1, .int v2] (hp s) (hr r) := by
  intro d hd
  show Ev L xs d 285 0 [(0, .ref 512), (1, .int v1), (2, .int v2)] [] (hp s) (hr r)
  unfold q285 at h
  refine Ev.aload_n H285 i285_0 rfl ?_
  refine Ev.iload_n H285 i285_1 rfl ?_
  refine Ev.iload_n H285 i285_2 rfl ?_
  refine Rd.cV2vN H285 i285_3 cal283 ob11 (Nat.le_of_ble_eq_true rfl) (Nat.le_of_ble_eq_true rfl) (Nat.lt_of_lt_of_le (by decide) hd) (fun q hq => c283 hq) h (fun x8 s7 h => ?_)
  refine Rd.if_ne H285 i285_6 (t := 47) (by decide) h (fun hc h => ?_) (fun hc h => ?_)
  · refine Ev.iconst H285 i285_47 kI_0 ?_
    exact Rd.ireturnK H285 i285_48 rfl (Or.inl rfl) h
  · refine Ev.aload_n H285 i285_9 rfl ?_
    refine Ev.aload_n H285 i285_10 rfl ?_
    refine Ev.iload_n H285 i285_11 rfl ?_
    refine Rd.cV1vN H285 i285_12 cal205 ob11 (Nat.le_of_ble_eq_true rfl) (Nat.le_of_ble_eq_true rfl) (Nat.lt_of_lt_of_le (by decide) hd) (fun q hq => c205 hq) h (fun x10 s9 h => ?_)
    refine Rd.if_eq H285 i285_15 (t := 35) (by decide) h (fun hc h => ?_) (fun hc h => ?_)
    · exact Ev.sub (l := [(0, .ref 512), (1, .int v1), (2, .int v2)]) rfl rfl (mm_sub_c rfl (mm_sub_c rfl (mm_sub_c rfl mm_sub_n))) (t285_35 hd h)
    · refine Ev.aload_n H285 i285_18 rfl ?_
      refine Ev.iload_n H285 i285_19 rfl ?_
      refine Rd.cV1vN H285 i285_20 cal207 ob11 (Nat.le_of_ble_eq_true rfl) (Nat.le_of_ble_eq_true rfl) (Nat.lt_of_lt_of_le (by decide) hd) (fun q hq => c207 hq) h (fun x12 s11 h => ?_)
      refine Rd.if_ne H285 i285_23 (t := 35) (by decide) h (fun hc h => ?_) (fun hc h => ?_)
      · exact Ev.sub (l := [(0, .ref 512), (1, .int v1), (2, .int v2)]) rfl rfl (mm_sub_c rfl (mm_sub_c rfl (mm_sub_c rfl mm_sub_n))) (t285_35 hd h)
      · refine Ev.aload_n H285 i285_26 rfl ?_
        refine Ev.iload_n H285 i285_27 rfl ?_
        refine Ev.iload_n H285 i285_28 rfl ?_
        refine Rd.cV2vN H285 i285_29 cal264 ob11 (Nat.le_of_ble_eq_true rfl) (Nat.le_of_ble_eq_true rfl) (Nat.lt_of_lt_of_le (by decide) hd) (fun q hq => c264 hq) h (fun x14 s13 h => ?_)
        refine Rd.if_eq H285 i285_32 (t := 39) (by decide) h (fun hc h => ?_) (fun hc h => ?_)
        · refine Ev.iconst H285 i285_39 kI_0 ?_
          exact Ev.sub (l := [(0, .ref 512), (1, .int v1), (2, .int v2)]) rfl rfl (mm_sub_c rfl (mm_sub_c rfl (mm_sub_c rfl mm_sub_n))) (t285_40 hd h)
        · exact Ev.sub (l := [(0, .ref 512), (1, .int v1), (2, .int v2)]) rfl rfl (mm_sub_c rfl (mm_sub_c rfl (mm_sub_c rfl mm_sub_n))) (t285_35 hd h)
theorem i286_0 : mm_cd 286 0 = some (.aload_n 0, 1, 0, 0) := rfl
theorem i286_1 : mm_cd 286 1 = some (.iconst 0, 1, 0, 0) := rfl
theorem i286_2 : mm_cd 286 2 = some (.putfield 3, 3, ((11 : Nat) : Int), 0) := rfl
theorem i286_5 : mm_cd 286 5 = some (.aload_n 0, 1, 0, 0) := rfl
theorem i286_6 : mm_cd 286 6 = some (.iload_n 1, 1, 0, 0) := rfl
theorem i286_7 : mm_cd 286 7 = some (.invokestatic 374, 3, 0, 273) := rfl
theorem i286_10 : mm_cd 286 10 = some (.iconst 1, 1, 0, 0) := rfl
theorem i286_11 : mm_cd 286 11 = some (.invokevirtual 249, 3, 0, 188) := rfl
theorem i286_14 : mm_cd 286 14 = some (.ifCond .ne 24, 3, 0, 0) := rfl
theorem i286_17 : mm_cd 286 17 = some (.aload_n 0, 1, 0, 0) := rfl
theorem i286_18 : mm_cd 286 18 = some (.aload_n 0, 1, 0, 0) := rfl
theorem i286_19 : mm_cd 286 19 = some (.iload_n 1, 1, 0, 0) := rfl
theorem i286_20 : mm_cd 286 20 = some (.invokevirtual 75, 3, 0, 205) := rfl
theorem i286_23 : mm_cd 286 23 = some (.ifCond .ne 7, 3, 0, 0) := rfl
theorem i286_26 : mm_cd 286 26 = some (.iconst 1, 1, 0, 0) := rfl
theorem i286_27 : mm_cd 286 27 = some (.goto 4, 3, 0, 0) := rfl
theorem i286_30 : mm_cd 286 30 = some (.iconst 0, 1, 0, 0) := rfl
theorem i286_31 : mm_cd 286 31 = some (.iconst 2, 1, 0, 0) := rfl
theorem i286_32 : mm_cd 286 32 = some (.invokevirtual 249, 3, 0, 188) := rfl
theorem i286_35 : mm_cd 286 35 = some (.ifCond .eq 7, 3, 0, 0) := rfl
theorem i286_38 : mm_cd 286 38 = some (.iconst 1, 1, 0, 0) := rfl
theorem i286_39 : mm_cd 286 39 = some (.goto 4, 3, 0, 0) := rfl
theorem i286_42 : mm_cd 286 42 = some (.iconst 0, 1, 0, 0) := rfl
theorem i286_43 : mm_cd 286 43 = some (.ireturn, 1, 0, 0) := rfl
def q286_38 (s : mS) : Option mQ := rv (1 : Int32) s
theorem t286_38 {L : Nat} {xs : Nat → Int32} {d : Nat} (hd : 3 ≤ d) {s : mS} {r : mQ} (h : q286_38 s = some r) : Ev L xs d 286 38 [] [] (hp s) (hr r) := by
  unfold q286_38 at h
  refine Ev.iconst H286 i286_38 kI_1 ?_
  refine Ev.goto H286 i286_39 (t := 43) (by decide) ?_
  exact Rd.ireturnK H286 i286_43 rfl (Or.inr rfl) h
def q286_31 (y1 : Int32) (s : mS) : Option mQ := bN (q188 y1 (2 : Int32) s) fun x2 s1 => if x2 = 0 then (rv (0 : Int32) s1) else (q286_38 s1)
theorem t286_31 {L : Nat} {xs : Nat → Int32} {d : Nat} (hd : 3 ≤ d) {y1 : Int32} {s : mS} {r : mQ} (h : q286_31 y1 s = some r) : Ev L xs d 286 31 [] [.int y1, .ref 512] (hp s) (hr r) := by
  unfold q286_31 at h
  refine Ev.iconst H286 i286_31 kI_2 ?_
  refine Rd.cV2vN H286 i286_32 cal188 ob11 (Nat.le_of_ble_eq_true rfl) (Nat.le_of_ble_eq_true rfl) (Nat.lt_of_lt_of_le (by decide) hd) (fun q hq => c188 hq) h (fun x2 s1 h => ?_)
  refine Rd.if_eq H286 i286_35 (t := 42) (by decide) h (fun hc h => ?_) (fun hc h => ?_)
  · refine Ev.iconst H286 i286_42 kI_0 ?_
    exact Rd.ireturnK H286 i286_43 rfl (Or.inl rfl) h
  · exact Ev.sub (l := []) rfl rfl mm_sub_n (t286_38 hd h)
/-- SerialGateModel.notRunning(I)Z -/
def q286 (v1 : Int32) (s : mS) : Option mQ := sp (sI s 512 0 (0 : Int32)) fun s3 => bN (q273 v1 s3) fun x5 s4 => bN (q188 x5 (1 : Int32) s4) fun x7 s6 => if ¬ x7 = 0 then (q286_38 s6) else (bN (q205 v1 s6) fun x9 s8 => if ¬ x9 = 0 then (q286_31 (0 : Int32) s8) else (q286_31 (1 : Int32) s8))
theorem c286 {L : Nat} {xs : Nat → Int32} {v1 : Int32} {s : mS} {r : mQ} (h : q286 v1 s = some r) : ∀ d, 3 ≤ d → Cl L xs d 286 [.ref 512, .int v1] (hp s) (hr r) := by
  intro d hd
  show Ev L xs d 286 0 [(0, .ref 512), (1, .int v1)] [] (hp s) (hr r)
  unfold q286 at h
  refine Ev.aload_n H286 i286_0 rfl ?_
  refine Ev.iconst H286 i286_1 kI_0 ?_
  refine Rd.putI H286 i286_2 ob11 rfl ty11_0.1 ty11_0.2 h (fun s3 h => ?_)
  refine Ev.aload_n H286 i286_5 rfl ?_
  refine Ev.iload_n H286 i286_6 rfl ?_
  refine Rd.cS1vN H286 i286_7 cal273 (Nat.le_of_ble_eq_true rfl) (Nat.le_of_ble_eq_true rfl) (Nat.lt_of_lt_of_le (by decide) hd) (fun q hq => c273 hq) h (fun x5 s4 h => ?_)
  refine Ev.iconst H286 i286_10 kI_1 ?_
  refine Rd.cV2vN H286 i286_11 cal188 ob11 (Nat.le_of_ble_eq_true rfl) (Nat.le_of_ble_eq_true rfl) (Nat.lt_of_lt_of_le (by decide) hd) (fun q hq => c188 hq) h (fun x7 s6 h => ?_)
  refine Rd.if_ne H286 i286_14 (t := 38) (by decide) h (fun hc h => ?_) (fun hc h => ?_)
  · exact Ev.sub (l := []) rfl rfl mm_sub_n (t286_38 hd h)
  · refine Ev.aload_n H286 i286_17 rfl ?_
    refine Ev.aload_n H286 i286_18 rfl ?_
    refine Ev.iload_n H286 i286_19 rfl ?_
    refine Rd.cV1vN H286 i286_20 cal205 ob11 (Nat.le_of_ble_eq_true rfl) (Nat.le_of_ble_eq_true rfl) (Nat.lt_of_lt_of_le (by decide) hd) (fun q hq => c205 hq) h (fun x9 s8 h => ?_)
    refine Rd.if_ne H286 i286_23 (t := 30) (by decide) h (fun hc h => ?_) (fun hc h => ?_)
    · refine Ev.iconst H286 i286_30 kI_0 ?_
      exact Ev.sub (l := []) rfl rfl mm_sub_n (t286_31 hd h)
    · refine Ev.iconst H286 i286_26 kI_1 ?_
      refine Ev.goto H286 i286_27 (t := 31) (by decide) ?_
      exact Ev.sub (l := []) rfl rfl mm_sub_n (t286_31 hd h)
theorem i287_0 : mm_cd 287 0 = some (.aload_n 0, 1, 0, 0) := rfl
theorem i287_1 : mm_cd 287 1 = some (.iload_n 1, 1, 0, 0) := rfl
theorem i287_2 : mm_cd 287 2 = some (.invokevirtual 398, 3, 0, 286) := rfl
theorem i287_5 : mm_cd 287 5 = some (.ifCond .eq 5, 3, 0, 0) := rfl
theorem i287_8 : mm_cd 287 8 = some (.iconst 0, 1, 0, 0) := rfl
theorem i287_9 : mm_cd 287 9 = some (.ireturn, 1, 0, 0) := rfl
theorem i287_10 : mm_cd 287 10 = some (.aload_n 0, 1, 0, 0) := rfl
theorem i287_11 : mm_cd 287 11 = some (.invokevirtual 389, 3, 0, 194) := rfl
theorem i287_14 : mm_cd 287 14 = some (.aload_n 0, 1, 0, 0) := rfl
theorem i287_15 : mm_cd 287 15 = some (.iload_n 1, 1, 0, 0) := rfl
theorem i287_16 : mm_cd 287 16 = some (.invokevirtual 365, 3, 0, 268) := rfl
theorem i287_19 : mm_cd 287 19 = some (.ireturn, 1, 0, 0) := rfl
/-- SerialGateModel.commit(I)I -/
def q287 (v1 : Int32) (s : mS) : Option mQ := bN (q286 v1 s) fun x2 s1 => if x2 = 0 then (bM (q194 s1) fun s3 => bN (q268 v1 s3) fun x5 s4 => rv x5 s4) else (rv (0 : Int32) s1)
theorem c287 {L : Nat} {xs : Nat → Int32} {v1 : Int32} {s : mS} {r : mQ} (h : q287 v1 s = some r) : ∀ d, 11 ≤ d → Cl L xs d 287 [.ref 512, .int v1] (hp s) (hr r) := by
  intro d hd
  show Ev L xs d 287 0 [(0, .ref 512), (1, .int v1)] [] (hp s) (hr r)
  unfold q287 at h
  refine Ev.aload_n H287 i287_0 rfl ?_
  refine Ev.iload_n H287 i287_1 rfl ?_
  refine Rd.cV1vN H287 i287_2 cal286 ob11 (Nat.le_of_ble_eq_true rfl) (Nat.le_of_ble_eq_true rfl) (Nat.lt_of_lt_of_le (by decide) hd) (fun q hq => c286 hq) h (fun x2 s1 h => ?_)
  refine Rd.if_eq H287 i287_5 (t := 10) (by decide) h (fun hc h => ?_) (fun hc h => ?_)
  · refine Ev.aload_n H287 i287_10 rfl ?_
    refine Rd.cV0uN H287 i287_11 cal194 ob11 (Nat.le_of_ble_eq_true rfl) (Nat.le_of_ble_eq_true rfl) (Nat.lt_of_lt_of_le (by decide) hd) (fun q hq => c194 hq) h (fun s3 h => ?_)
    refine Ev.aload_n H287 i287_14 rfl ?_
    refine Ev.iload_n H287 i287_15 rfl ?_
    refine Rd.cV1vN H287 i287_16 cal268 ob11 (Nat.le_of_ble_eq_true rfl) (Nat.le_of_ble_eq_true rfl) (Nat.lt_of_lt_of_le (by decide) hd) (fun q hq => c268 hq) h (fun x5 s4 h => ?_)
    exact Rd.ireturn H287 i287_19 rfl h
  · refine Ev.iconst H287 i287_8 kI_0 ?_
    exact Rd.ireturn H287 i287_9 rfl h
theorem i288_0 : mm_cd 288 0 = some (.aload_n 0, 1, 0, 0) := rfl
theorem i288_1 : mm_cd 288 1 = some (.iload_n 1, 1, 0, 0) := rfl
theorem i288_2 : mm_cd 288 2 = some (.invokevirtual 398, 3, 0, 286) := rfl
theorem i288_5 : mm_cd 288 5 = some (.ifCond .eq 5, 3, 0, 0) := rfl
theorem i288_8 : mm_cd 288 8 = some (.iconst 0, 1, 0, 0) := rfl
theorem i288_9 : mm_cd 288 9 = some (.ireturn, 1, 0, 0) := rfl
theorem i288_10 : mm_cd 288 10 = some (.aload_n 0, 1, 0, 0) := rfl
theorem i288_11 : mm_cd 288 11 = some (.invokevirtual 389, 3, 0, 194) := rfl
theorem i288_14 : mm_cd 288 14 = some (.aload_n 0, 1, 0, 0) := rfl
theorem i288_15 : mm_cd 288 15 = some (.iload_n 1, 1, 0, 0) := rfl
theorem i288_16 : mm_cd 288 16 = some (.iconst 1, 1, 0, 0) := rfl
theorem i288_17 : mm_cd 288 17 = some (.invokevirtual 69, 3, 0, 204) := rfl
theorem i288_20 : mm_cd 288 20 = some (.istore_n 2, 1, 0, 0) := rfl
theorem i288_21 : mm_cd 288 21 = some (.aload_n 0, 1, 0, 0) := rfl
theorem i288_22 : mm_cd 288 22 = some (.iload_n 1, 1, 0, 0) := rfl
theorem i288_23 : mm_cd 288 23 = some (.iconst 4, 1, 0, 0) := rfl
theorem i288_24 : mm_cd 288 24 = some (.invokevirtual 307, 3, 0, 254) := rfl
theorem i288_27 : mm_cd 288 27 = some (.aload_n 0, 1, 0, 0) := rfl
theorem i288_28 : mm_cd 288 28 = some (.invokevirtual 252, 3, 0, 261) := rfl
theorem i288_31 : mm_cd 288 31 = some (.iload_n 2, 1, 0, 0) := rfl
theorem i288_32 : mm_cd 288 32 = some (.ireturn, 1, 0, 0) := rfl
/-- SerialGateModel.abort(I)I -/
def q288 (v1 : Int32) (s : mS) : Option mQ := bN (q286 v1 s) fun x2 s1 => if x2 = 0 then (bM (q194 s1) fun s3 => bN (q204 v1 (1 : Int32) s3) fun x5 s4 => bM (q254 v1 (4 : Int32) s4) fun s6 => bM (q261 s6) fun s7 => rv x5 s7) else (rv (0 : Int32) s1)
theorem c288 {L : Nat} {xs : Nat → Int32} {v1 : Int32} {s : mS} {r : mQ} (h : q288 v1 s = some r) : ∀ d, 6 ≤ d → Cl L xs d 288 [.ref 512, .int v1] (hp s) (hr r) := by
  intro d hd
  show Ev L xs d 288 0 [(0, .ref 512), (1, .int v1)] [] (hp s) (hr r)
  unfold q288 at h
  refine Ev.aload_n H288 i288_0 rfl ?_
  refine Ev.iload_n H288 i288_1 rfl ?_
  refine Rd.cV1vN H288 i288_2 cal286 ob11 (Nat.le_of_ble_eq_true rfl) (Nat.le_of_ble_eq_true rfl) (Nat.lt_of_lt_of_le (by decide) hd) (fun q hq => c286 hq) h (fun x2 s1 h => ?_)
  refine Rd.if_eq H288 i288_5 (t := 10) (by decide) h (fun hc h => ?_) (fun hc h => ?_)
  · refine Ev.aload_n H288 i288_10 rfl ?_
    refine Rd.cV0uN H288 i288_11 cal194 ob11 (Nat.le_of_ble_eq_true rfl) (Nat.le_of_ble_eq_true rfl) (Nat.lt_of_lt_of_le (by decide) hd) (fun q hq => c194 hq) h (fun s3 h => ?_)
    refine Ev.aload_n H288 i288_14 rfl ?_
    refine Ev.iload_n H288 i288_15 rfl ?_
    refine Ev.iconst H288 i288_16 kI_1 ?_
    refine Rd.cV2vN H288 i288_17 cal204 ob11 (Nat.le_of_ble_eq_true rfl) (Nat.le_of_ble_eq_true rfl) (Nat.lt_of_lt_of_le (by decide) hd) (fun q hq => c204 hq) h (fun x5 s4 h => ?_)
    refine Ev.istore_n H288 i288_20 (Nat.le_of_ble_eq_true rfl) (lv2 := [(2, .int x5), (0, .ref 512), (1, .int v1)]) rfl ?_
    refine Ev.aload_n H288 i288_21 rfl ?_
    refine Ev.iload_n H288 i288_22 rfl ?_
    refine Ev.iconst H288 i288_23 kI_4 ?_
    refine Rd.cV2uN H288 i288_24 cal254 ob11 (Nat.le_of_ble_eq_true rfl) (Nat.le_of_ble_eq_true rfl) (Nat.lt_of_lt_of_le (by decide) hd) (fun q hq => c254 hq) h (fun s6 h => ?_)
    refine Ev.aload_n H288 i288_27 rfl ?_
    refine Rd.cV0uN H288 i288_28 cal261 ob11 (Nat.le_of_ble_eq_true rfl) (Nat.le_of_ble_eq_true rfl) (Nat.lt_of_lt_of_le (by decide) hd) (fun q hq => c261 hq) h (fun s7 h => ?_)
    refine Ev.iload_n H288 i288_31 rfl ?_
    exact Rd.ireturn H288 i288_32 rfl h
  · refine Ev.iconst H288 i288_8 kI_0 ?_
    exact Rd.ireturn H288 i288_9 rfl h
theorem i289_0 : mm_cd 289 0 = some (.aload_n 0, 1, 0, 0) := rfl
theorem i289_1 : mm_cd 289 1 = some (.iconst 0, 1, 0, 0) := rfl
theorem i289_2 : mm_cd 289 2 = some (.putfield 3, 3, ((11 : Nat) : Int), 0) := rfl
theorem i289_5 : mm_cd 289 5 = some (.aload_n 0, 1, 0, 0) := rfl
theorem i289_6 : mm_cd 289 6 = some (.iload_n 1, 1, 0, 0) := rfl
theorem i289_7 : mm_cd 289 7 = some (.iconst 0, 1, 0, 0) := rfl
theorem i289_8 : mm_cd 289 8 = some (.bipush 6, 2, 0, 0) := rfl
theorem i289_10 : mm_cd 289 10 = some (.invokestatic 371, 3, 0, 189) := rfl
theorem i289_13 : mm_cd 289 13 = some (.ifCond .ne 7, 3, 0, 0) := rfl
theorem i289_16 : mm_cd 289 16 = some (.iconst 1, 1, 0, 0) := rfl
theorem i289_17 : mm_cd 289 17 = some (.goto 4, 3, 0, 0) := rfl
theorem i289_20 : mm_cd 289 20 = some (.iconst 0, 1, 0, 0) := rfl
theorem i289_21 : mm_cd 289 21 = some (.iconst 1, 1, 0, 0) := rfl
theorem i289_22 : mm_cd 289 22 = some (.invokevirtual 249, 3, 0, 188) := rfl
theorem i289_25 : mm_cd 289 25 = some (.ifCond .eq 5, 3, 0, 0) := rfl
theorem i289_28 : mm_cd 289 28 = some (.iconst 0, 1, 0, 0) := rfl
theorem i289_29 : mm_cd 289 29 = some (.ireturn, 1, 0, 0) := rfl
theorem i289_30 : mm_cd 289 30 = some (.aload_n 0, 1, 0, 0) := rfl
theorem i289_31 : mm_cd 289 31 = some (.invokevirtual 389, 3, 0, 194) := rfl
theorem i289_34 : mm_cd 289 34 = some (.aload_n 0, 1, 0, 0) := rfl
theorem i289_35 : mm_cd 289 35 = some (.getfield 13, 3, ((11 : Nat) : Int), 1) := rfl
theorem i289_38 : mm_cd 289 38 = some (.iconst 4, 1, 0, 0) := rfl
theorem i289_39 : mm_cd 289 39 = some (.iaload, 1, 0, 0) := rfl
theorem i289_40 : mm_cd 289 40 = some (.istore_n 2, 1, 0, 0) := rfl
theorem i289_41 : mm_cd 289 41 = some (.aload_n 0, 1, 0, 0) := rfl
theorem i289_42 : mm_cd 289 42 = some (.getfield 13, 3, ((11 : Nat) : Int), 1) := rfl
theorem i289_45 : mm_cd 289 45 = some (.iconst 4, 1, 0, 0) := rfl
theorem i289_46 : mm_cd 289 46 = some (.iload_n 1, 1, 0, 0) := rfl
theorem i289_47 : mm_cd 289 47 = some (.iastore, 1, 0, 0) := rfl
theorem i289_48 : mm_cd 289 48 = some (.aload_n 0, 1, 0, 0) := rfl
theorem i289_49 : mm_cd 289 49 = some (.invokevirtual 252, 3, 0, 261) := rfl
theorem i289_52 : mm_cd 289 52 = some (.iload_n 2, 1, 0, 0) := rfl
theorem i289_53 : mm_cd 289 53 = some (.ireturn, 1, 0, 0) := rfl
def q289_21 (v1 : Int32) (y1 : Int32) (s : mS) : Option mQ := bN (q188 y1 (1 : Int32) s) fun x2 s1 => if x2 = 0 then (bM (q194 s1) fun s3 => gA 2468 (4 : Int32) <| bx (s3.1 513 (4 : Int32).toNatClampNeg) fun x4 => gA 2468 (4 : Int32) <| sp (sI s3 513 (4 : Int32).toNatClampNeg v1) fun s5 => bM (q261 s5) fun s6 => rv x4 s6) else (rv (0 : Int32) s1)
theorem t289_21 {L : Nat} {xs : Nat → Int32} {d : Nat} (hd : 6 ≤ d) {v1 : Int32} {y1 : Int32} {s : mS} {r : mQ} (h : q289_21 v1 y1 s = some r) : Ev L xs d 289 21 [(0, .ref 512), (1, .int v1)] [.int y1, .ref 512] (hp s) (hr r) := by
  unfold q289_21 at h
  refine Ev.iconst H289 i289_21 kI_1 ?_
  refine Rd.cV2vN H289 i289_22 cal188 ob11 (Nat.le_of_ble_eq_true rfl) (Nat.le_of_ble_eq_true rfl) (Nat.lt_of_lt_of_le (by decide) hd) (fun q hq => c188 hq) h (fun x2 s1 h => ?_)
  refine Rd.if_eq H289 i289_25 (t := 30) (by decide) h (fun hc h => ?_) (fun hc h => ?_)
  · refine Ev.aload_n H289 i289_30 rfl ?_
    refine Rd.cV0uN H289 i289_31 cal194 ob11 (Nat.le_of_ble_eq_true rfl) (Nat.le_of_ble_eq_true rfl) (Nat.lt_of_lt_of_le (by decide) hd) (fun q hq => c194 hq) h (fun s3 h => ?_)
    refine Ev.aload_n H289 i289_34 rfl ?_
    refine Rd.getR H289 i289_35 ob11 rfl ?_
    refine Ev.iconst H289 i289_38 kI_4 ?_
    refine Rd.iaload H289 i289_39 ar_513 h (fun h => ?_)
    refine Rd.istore_n H289 i289_40 (Nat.le_of_ble_eq_true rfl) (lv2 := fun x4 => [(2, .int x4), (0, .ref 512), (1, .int v1)]) (fun _ => rfl) h (fun x4 h => ?_)
    refine Ev.aload_n H289 i289_41 rfl ?_
    refine Rd.getR H289 i289_42 ob11 rfl ?_
    refine Ev.iconst H289 i289_45 kI_4 ?_
    refine Ev.iload_n H289 i289_46 rfl ?_
    refine Rd.iastore H289 i289_47 ar_513 h (fun s5 h => ?_)
    refine Ev.aload_n H289 i289_48 rfl ?_
    refine Rd.cV0uN H289 i289_49 cal261 ob11 (Nat.le_of_ble_eq_true rfl) (Nat.le_of_ble_eq_true rfl) (Nat.lt_of_lt_of_le (by decide) hd) (fun q hq => c261 hq) h (fun s6 h => ?_)
    refine Ev.iload_n H289 i289_52 rfl ?_
    exact Rd.ireturn H289 i289_53 rfl h
  · refine Ev.iconst H289 i289_28 kI_0 ?_
    exact Rd.ireturn H289 i289_29 rfl h
/-- SerialGateModel.keep(I)I -/
def q289 (v1 : Int32) (s : mS) : Option mQ := sp (sI s 512 0 (0 : Int32)) fun s7 => bN (q189 v1 (0 : Int32) (6 : Int32) s7) fun x9 s8 => if ¬ x9 = 0 then (q289_21 v1 (0 : Int32) s8) else (q289_21 v1 (1 : Int32) s8)
theorem c289 {L : Nat} {xs : Nat → Int32} {v1 : Int32} {s : mS} {r : mQ} (h : q289 v1 s = some r) : ∀ d, 6 ≤ d → Cl L xs d 289 [.ref 512, .int v1] (hp s) (hr r) := by
  intro d hd
  show Ev L xs d 289 0 [(0, .ref 512), (1, .int v1)] [] (hp s) (hr r)
  unfold q289 at h
  refine Ev.aload_n H289 i289_0 rfl ?_
  refine Ev.iconst H289 i289_1 kI_0 ?_
  refine Rd.putI H289 i289_2 ob11 rfl ty11_0.1 ty11_0.2 h (fun s7 h => ?_)
  refine Ev.aload_n H289 i289_5 rfl ?_
  refine Ev.iload_n H289 i289_6 rfl ?_
  refine Ev.iconst H289 i289_7 kI_0 ?_
  refine Ev.bipush H289 i289_8 kB_6 ?_
  refine Rd.cS3vN H289 i289_10 cal189 (Nat.le_of_ble_eq_true rfl) (Nat.le_of_ble_eq_true rfl) (Nat.lt_of_lt_of_le (by decide) hd) (fun q hq => c189 hq) h (fun x9 s8 h => ?_)
  refine Rd.if_ne H289 i289_13 (t := 20) (by decide) h (fun hc h => ?_) (fun hc h => ?_)
  · refine Ev.iconst H289 i289_20 kI_0 ?_
    exact Ev.sub (l := [(0, .ref 512), (1, .int v1)]) rfl rfl (mm_sub_c rfl (mm_sub_c rfl mm_sub_n)) (t289_21 hd h)
  · refine Ev.iconst H289 i289_16 kI_1 ?_
    refine Ev.goto H289 i289_17 (t := 21) (by decide) ?_
    exact Ev.sub (l := [(0, .ref 512), (1, .int v1)]) rfl rfl (mm_sub_c rfl (mm_sub_c rfl mm_sub_n)) (t289_21 hd h)
theorem i290_0 : mm_cd 290 0 = some (.aload_n 0, 1, 0, 0) := rfl
theorem i290_1 : mm_cd 290 1 = some (.iconst 0, 1, 0, 0) := rfl
theorem i290_2 : mm_cd 290 2 = some (.putfield 3, 3, ((11 : Nat) : Int), 0) := rfl
theorem i290_5 : mm_cd 290 5 = some (.aload_n 0, 1, 0, 0) := rfl
theorem i290_6 : mm_cd 290 6 = some (.iload_n 1, 1, 0, 0) := rfl
theorem i290_7 : mm_cd 290 7 = some (.invokestatic 374, 3, 0, 273) := rfl
theorem i290_10 : mm_cd 290 10 = some (.ifCond .ne 15, 3, 0, 0) := rfl
theorem i290_13 : mm_cd 290 13 = some (.iload_n 3, 1, 0, 0) := rfl
theorem i290_14 : mm_cd 290 14 = some (.invokestatic 377, 3, 0, 274) := rfl
theorem i290_17 : mm_cd 290 17 = some (.ifCond .eq 12, 3, 0, 0) := rfl
theorem i290_20 : mm_cd 290 20 = some (.iload_n 2, 1, 0, 0) := rfl
theorem i290_21 : mm_cd 290 21 = some (.iconst 2, 1, 0, 0) := rfl
theorem i290_22 : mm_cd 290 22 = some (.if_icmp .eq 7, 3, 0, 0) := rfl
theorem i290_25 : mm_cd 290 25 = some (.iconst 1, 1, 0, 0) := rfl
theorem i290_26 : mm_cd 290 26 = some (.goto 4, 3, 0, 0) := rfl
theorem i290_29 : mm_cd 290 29 = some (.iconst 0, 1, 0, 0) := rfl
theorem i290_30 : mm_cd 290 30 = some (.iconst 1, 1, 0, 0) := rfl
theorem i290_31 : mm_cd 290 31 = some (.invokevirtual 249, 3, 0, 188) := rfl
theorem i290_34 : mm_cd 290 34 = some (.ifCond .ne 46, 3, 0, 0) := rfl
theorem i290_37 : mm_cd 290 37 = some (.aload_n 0, 1, 0, 0) := rfl
theorem i290_38 : mm_cd 290 38 = some (.iload_n 2, 1, 0, 0) := rfl
theorem i290_39 : mm_cd 290 39 = some (.iconst 0, 1, 0, 0) := rfl
theorem i290_40 : mm_cd 290 40 = some (.iconst 2, 1, 0, 0) := rfl
theorem i290_41 : mm_cd 290 41 = some (.invokestatic 371, 3, 0, 189) := rfl
theorem i290_44 : mm_cd 290 44 = some (.ifCond .ne 7, 3, 0, 0) := rfl
theorem i290_47 : mm_cd 290 47 = some (.iconst 1, 1, 0, 0) := rfl
theorem i290_48 : mm_cd 290 48 = some (.goto 4, 3, 0, 0) := rfl
theorem i290_51 : mm_cd 290 51 = some (.iconst 0, 1, 0, 0) := rfl
theorem i290_52 : mm_cd 290 52 = some (.iconst 2, 1, 0, 0) := rfl
theorem i290_53 : mm_cd 290 53 = some (.invokevirtual 249, 3, 0, 188) := rfl
theorem i290_56 : mm_cd 290 56 = some (.ifCond .ne 24, 3, 0, 0) := rfl
theorem i290_59 : mm_cd 290 59 = some (.aload_n 0, 1, 0, 0) := rfl
theorem i290_60 : mm_cd 290 60 = some (.aload_n 0, 1, 0, 0) := rfl
theorem i290_61 : mm_cd 290 61 = some (.iload_n 1, 1, 0, 0) := rfl
theorem i290_62 : mm_cd 290 62 = some (.invokevirtual 75, 3, 0, 205) := rfl
theorem i290_65 : mm_cd 290 65 = some (.ifCond .ne 7, 3, 0, 0) := rfl
theorem i290_68 : mm_cd 290 68 = some (.iconst 1, 1, 0, 0) := rfl
theorem i290_69 : mm_cd 290 69 = some (.goto 4, 3, 0, 0) := rfl
theorem i290_72 : mm_cd 290 72 = some (.iconst 0, 1, 0, 0) := rfl
theorem i290_73 : mm_cd 290 73 = some (.iconst 3, 1, 0, 0) := rfl
theorem i290_74 : mm_cd 290 74 = some (.invokevirtual 249, 3, 0, 188) := rfl
theorem i290_77 : mm_cd 290 77 = some (.ifCond .eq 5, 3, 0, 0) := rfl
theorem i290_80 : mm_cd 290 80 = some (.iconst 0, 1, 0, 0) := rfl
theorem i290_81 : mm_cd 290 81 = some (.ireturn, 1, 0, 0) := rfl
theorem i290_82 : mm_cd 290 82 = some (.aload_n 0, 1, 0, 0) := rfl
theorem i290_83 : mm_cd 290 83 = some (.invokevirtual 401, 3, 0, 196) := rfl
theorem i290_86 : mm_cd 290 86 = some (.aload_n 0, 1, 0, 0) := rfl
theorem i290_87 : mm_cd 290 87 = some (.iconst 0, 1, 0, 0) := rfl
theorem i290_88 : mm_cd 290 88 = some (.putfield 292, 3, ((11 : Nat) : Int), 18) := rfl
theorem i290_91 : mm_cd 290 91 = some (.iload_n 2, 1, 0, 0) := rfl
theorem i290_92 : mm_cd 290 92 = some (.ifCond .ne 12, 3, 0, 0) := rfl
theorem i290_95 : mm_cd 290 95 = some (.aload_n 0, 1, 0, 0) := rfl
theorem i290_96 : mm_cd 290 96 = some (.iload_n 1, 1, 0, 0) := rfl
theorem i290_97 : mm_cd 290 97 = some (.iload_n 3, 1, 0, 0) := rfl
theorem i290_98 : mm_cd 290 98 = some (.invokevirtual 358, 3, 0, 263) := rfl
theorem i290_101 : mm_cd 290 101 = some (.goto 40, 3, 0, 0) := rfl
theorem i290_104 : mm_cd 290 104 = some (.iload_n 2, 1, 0, 0) := rfl
theorem i290_105 : mm_cd 290 105 = some (.iconst 2, 1, 0, 0) := rfl
theorem i290_106 : mm_cd 290 106 = some (.if_icmp .ne 12, 3, 0, 0) := rfl
theorem i290_109 : mm_cd 290 109 = some (.aload_n 0, 1, 0, 0) := rfl
theorem i290_110 : mm_cd 290 110 = some (.iload_n 1, 1, 0, 0) := rfl
theorem i290_111 : mm_cd 290 111 = some (.invokevirtual 365, 3, 0, 268) := rfl
theorem i290_114 : mm_cd 290 114 = some (.pop, 1, 0, 0) := rfl
theorem i290_115 : mm_cd 290 115 = some (.goto 26, 3, 0, 0) := rfl
theorem i290_118 : mm_cd 290 118 = some (.aload_n 0, 1, 0, 0) := rfl
theorem i290_119 : mm_cd 290 119 = some (.iload_n 1, 1, 0, 0) := rfl
theorem i290_120 : mm_cd 290 120 = some (.invokevirtual 282, 3, 0, 207) := rfl
theorem i290_123 : mm_cd 290 123 = some (.ifCond .ne 18, 3, 0, 0) := rfl
theorem i290_126 : mm_cd 290 126 = some (.aload_n 0, 1, 0, 0) := rfl
theorem i290_127 : mm_cd 290 127 = some (.iload_n 1, 1, 0, 0) := rfl
theorem i290_128 : mm_cd 290 128 = some (.iload_n 3, 1, 0, 0) := rfl
theorem i290_129 : mm_cd 290 129 = some (.invokevirtual 360, 3, 0, 264) := rfl
theorem i290_132 : mm_cd 290 132 = some (.ifCond .ne 9, 3, 0, 0) := rfl
theorem i290_135 : mm_cd 290 135 = some (.aload_n 0, 1, 0, 0) := rfl
theorem i290_136 : mm_cd 290 136 = some (.iload_n 1, 1, 0, 0) := rfl
theorem i290_137 : mm_cd 290 137 = some (.iload_n 3, 1, 0, 0) := rfl
theorem i290_138 : mm_cd 290 138 = some (.invokevirtual 363, 3, 0, 265) := rfl
theorem i290_141 : mm_cd 290 141 = some (.aload_n 0, 1, 0, 0) := rfl
theorem i290_142 : mm_cd 290 142 = some (.invokevirtual 404, 3, 0, 197) := rfl
theorem i290_145 : mm_cd 290 145 = some (.aload_n 0, 1, 0, 0) := rfl
theorem i290_146 : mm_cd 290 146 = some (.getfield 292, 3, ((11 : Nat) : Int), 18) := rfl
theorem i290_149 : mm_cd 290 149 = some (.ireturn, 1, 0, 0) := rfl
def q290_141 (s : mS) : Option mQ := bM (q197 s) fun s1 => rv (s1.1 512 18) s1
theorem t290_141 {L : Nat} {xs : Nat → Int32} {d : Nat} (hd : 11 ≤ d) {s : mS} {r : mQ} (h : q290_141 s = some r) : Ev L xs d 290 141 [(0, .ref 512)] [] (hp s) (hr r) := by
  unfold q290_141 at h
  refine Ev.aload_n H290 i290_141 rfl ?_
  refine Rd.cV0uN H290 i290_142 cal197 ob11 (Nat.le_of_ble_eq_true rfl) (Nat.le_of_ble_eq_true rfl) (Nat.lt_of_lt_of_le (by decide) hd) (fun q hq => c197 hq) h (fun s1 h => ?_)
  refine Ev.aload_n H290 i290_145 rfl ?_
  refine Rd.getI H290 i290_146 ob11 rfl ?_
  exact Rd.ireturn H290 i290_149 rfl h
def q290_73 (v1 : Int32) (v2 : Int32) (v3 : Int32) (y1 : Int32) (s : mS) : Option mQ := bN (q188 y1 (3 : Int32) s) fun x3 s2 => if x3 = 0 then (bM (q196 s2) fun s4 => sp (sI s4 512 18 (0 : Int32)) fun s5 => if ¬ v2 = 0 then (if ¬ v2 = (2 : Int32) then (bN (q207 v1 s5) fun x7 s6 => if ¬ x7 = 0 then (q290_141 s6) else (bN (q264 v1 v3 s6) fun x9 s8 => if ¬ x9 = 0 then (q290_141 s8) else (bM (q265 v1 v3 s8) fun s10 => q290_141 s10))) else (bN (q268 v1 s5) fun x12 s11 => q290_141 s11)) else (bM (q263 v1 v3 s5) fun s13 => q290_141 s13)) else (rv (0 : Int32) s2)
theorem t290_73 {L : Nat} {xs : Nat → Int32} {d : Nat} (hd : 11 ≤ d) {v1 : Int32} {v2 : Int32} {v3 : Int32} {y1 : Int32} {s : mS} {r : mQ} (h : q290_73 v1 v2 v3 y1 s = some r) : Ev L xs d 290 73 [(0, .ref 512), (1, .int v1), (2, .int v2), (3, .int v3)] [.int y1, .ref 512] (hp s) (hr r) := by
  unfold q290_73 at h
  refine Ev.iconst H290 i290_73 kI_3 ?_
  refine Rd.cV2vN H290 i290_74 cal188 ob11 (Nat.le_of_ble_eq_true rfl) (Nat.le_of_ble_eq_true rfl) (Nat.lt_of_lt_of_le (by decide) hd) (fun q hq => c188 hq) h (fun x3 s2 h => ?_)
  refine Rd.if_eq H290 i290_77 (t := 82) (by decide) h (fun hc h => ?_) (fun hc h => ?_)
  · refine Ev.aload_n H290 i290_82 rfl ?_
    refine Rd.cV0uN H290 i290_83 cal196 ob11 (Nat.le_of_ble_eq_true rfl) (Nat.le_of_ble_eq_true rfl) (Nat.lt_of_lt_of_le (by decide) hd) (fun q hq => c196 hq) h (fun s4 h => ?_)
    refine Ev.aload_n H290 i290_86 rfl ?_
    refine Ev.iconst H290 i290_87 kI_0 ?_
    refine Rd.putI H290 i290_88 ob11 rfl ty11_18.1 ty11_18.2 h (fun s5 h => ?_)
    refine Ev.iload_n H290 i290_91 rfl ?_
    refine Rd.if_ne H290 i290_92 (t := 104) (by decide) h (fun hc h => ?_) (fun hc h => ?_)
    · refine Ev.iload_n H290 i290_104 rfl ?_
      refine Ev.iconst H290 i290_105 kI_2 ?_
      refine Rd.ic_ne H290 i290_106 (t := 118) (by decide) h (fun hc h => ?_) (fun hc h => ?_)
      · refine Ev.aload_n H290 i290_118 rfl ?_
        refine Ev.iload_n H290 i290_119 rfl ?_
        refine Rd.cV1vN H290 i290_120 cal207 ob11 (Nat.le_of_ble_eq_true rfl) (Nat.le_of_ble_eq_true rfl) (Nat.lt_of_lt_of_le (by decide) hd) (fun q hq => c207 hq) h (fun x7 s6 h => ?_)
        refine Rd.if_ne H290 i290_123 (t := 141) (by decide) h (fun hc h => ?_) (fun hc h => ?_)
        · exact Ev.sub (l := [(0, .ref 512)]) rfl rfl (mm_sub_c rfl mm_sub_n) (t290_141 hd h)
        · refine Ev.aload_n H290 i290_126 rfl ?_
          refine Ev.iload_n H290 i290_127 rfl ?_
          refine Ev.iload_n H290 i290_128 rfl ?_
          refine Rd.cV2vN H290 i290_129 cal264 ob11 (Nat.le_of_ble_eq_true rfl) (Nat.le_of_ble_eq_true rfl) (Nat.lt_of_lt_of_le (by decide) hd) (fun q hq => c264 hq) h (fun x9 s8 h => ?_)
          refine Rd.if_ne H290 i290_132 (t := 141) (by decide) h (fun hc h => ?_) (fun hc h => ?_)
          · exact Ev.sub (l := [(0, .ref 512)]) rfl rfl (mm_sub_c rfl mm_sub_n) (t290_141 hd h)
          · refine Ev.aload_n H290 i290_135 rfl ?_
            refine Ev.iload_n H290 i290_136 rfl ?_
            refine Ev.iload_n H290 i290_137 rfl ?_
            refine Rd.cV2uN H290 i290_138 cal265 ob11 (Nat.le_of_ble_eq_true rfl) (Nat.le_of_ble_eq_true rfl) (Nat.lt_of_lt_of_le (by decide) hd) (fun q hq => c265 hq) h (fun s10 h => ?_)
            exact Ev.sub (l := [(0, .ref 512)]) rfl rfl (mm_sub_c rfl mm_sub_n) (t290_141 hd h)
      · refine Ev.aload_n H290 i290_109 rfl ?_
        refine Ev.iload_n H290 i290_110 rfl ?_
        refine Rd.cV1vN H290 i290_111 cal268 ob11 (Nat.le_of_ble_eq_true rfl) (Nat.le_of_ble_eq_true rfl) (Nat.lt_of_lt_of_le (by decide) hd) (fun q hq => c268 hq) h (fun x12 s11 h => ?_)
        refine Ev.pop H290 i290_114 rfl ?_
        refine Ev.goto H290 i290_115 (t := 141) (by decide) ?_
        exact Ev.sub (l := [(0, .ref 512)]) rfl rfl (mm_sub_c rfl mm_sub_n) (t290_141 hd h)
    · refine Ev.aload_n H290 i290_95 rfl ?_
      refine Ev.iload_n H290 i290_96 rfl ?_
      refine Ev.iload_n H290 i290_97 rfl ?_
      refine Rd.cV2uN H290 i290_98 cal263 ob11 (Nat.le_of_ble_eq_true rfl) (Nat.le_of_ble_eq_true rfl) (Nat.lt_of_lt_of_le (by decide) hd) (fun q hq => c263 hq) h (fun s13 h => ?_)
      refine Ev.goto H290 i290_101 (t := 141) (by decide) ?_
      exact Ev.sub (l := [(0, .ref 512)]) rfl rfl (mm_sub_c rfl mm_sub_n) (t290_141 hd h)
  · refine Ev.iconst H290 i290_80 kI_0 ?_
    exact Rd.ireturn H290 i290_81 rfl h
def q290_52 (v1 : Int32) (v2 : Int32) (v3 : Int32) (y1 : Int32) (s : mS) : Option mQ := bN (q188 y1 (2 : Int32) s) fun x15 s14 => if ¬ x15 = 0 then (rv (0 : Int32) s14) else (bN (q205 v1 s14) fun x17 s16 => if ¬ x17 = 0 then (q290_73 v1 v2 v3 (0 : Int32) s16) else (q290_73 v1 v2 v3 (1 : Int32) s16))
theorem t290_52 {L : Nat} {xs : Nat → Int32} {d : Nat} (hd : 11 ≤ d) {v1 : Int32} {v2 : Int32} {v3 : Int32} {y1 : Int32} {s : mS} {r : mQ} (h : q290_52 v1 v2 v3 y1 s = some r) : Ev L xs d 290 52 [(0, .ref 512), (1, .int v1), (2, .int v2), (3, .int v3)] [.int y1, .ref 512] (hp s) (hr r) := by
  unfold q290_52 at h
  refine Ev.iconst H290 i290_52 kI_2 ?_
  refine Rd.cV2vN H290 i290_53 cal188 ob11 (Nat.le_of_ble_eq_true rfl) (Nat.le_of_ble_eq_true rfl) (Nat.lt_of_lt_of_le (by decide) hd) (fun q hq => c188 hq) h (fun x15 s14 h => ?_)
  refine Rd.if_ne H290 i290_56 (t := 80) (by decide) h (fun hc h => ?_) (fun hc h => ?_)
  · refine Ev.iconst H290 i290_80 kI_0 ?_
    exact Rd.ireturn H290 i290_81 rfl h
  · refine Ev.aload_n H290 i290_59 rfl ?_
    refine Ev.aload_n H290 i290_60 rfl ?_
    refine Ev.iload_n H290 i290_61 rfl ?_
    refine Rd.cV1vN H290 i290_62 cal205 ob11 (Nat.le_of_ble_eq_true rfl) (Nat.le_of_ble_eq_true rfl) (Nat.lt_of_lt_of_le (by decide) hd) (fun q hq => c205 hq) h (fun x17 s16 h => ?_)
    refine Rd.if_ne H290 i290_65 (t := 72) (by decide) h (fun hc h => ?_) (fun hc h => ?_)
    · refine Ev.iconst H290 i290_72 kI_0 ?_
      exact Ev.sub (l := [(0, .ref 512), (1, .int v1), (2, .int v2), (3, .int v3)]) rfl rfl (mm_sub_c rfl (mm_sub_c rfl (mm_sub_c rfl (mm_sub_c rfl mm_sub_n)))) (t290_73 hd h)
    · refine Ev.iconst H290 i290_68 kI_1 ?_
      refine Ev.goto H290 i290_69 (t := 73) (by decide) ?_
      exact Ev.sub (l := [(0, .ref 512), (1, .int v1), (2, .int v2), (3, .int v3)]) rfl rfl (mm_sub_c rfl (mm_sub_c rfl (mm_sub_c rfl (mm_sub_c rfl mm_sub_n)))) (t290_73 hd h)
def q290_30 (v1 : Int32) (v2 : Int32) (v3 : Int32) (y1 : Int32) (s : mS) : Option mQ := bN (q188 y1 (1 : Int32) s) fun x19 s18 => if ¬ x19 = 0 then (rv (0 : Int32) s18) else (bN (q189 v2 (0 : Int32) (2 : Int32) s18) fun x21 s20 => if ¬ x21 = 0 then (q290_52 v1 v2 v3 (0 : Int32) s20) else (q290_52 v1 v2 v3 (1 : Int32) s20))
theorem t290_30 {L : Nat} {xs : Nat → Int32} {d : Nat} (hd : 11 ≤ d) {v1 : Int32} {v2 : Int32} {v3 : Int32} {y1 : Int32} {s : mS} {r : mQ} (h : q290_30 v1 v2 v3 y1 s = some r) : Ev L xs d 290 30 [(0, .ref 512), (1, .int v1), (2, .int v2), (3, .int v3)] [.int y1, .ref 512] (hp s) (hr r) := by
  unfold q290_30 at h
  refine Ev.iconst H290 i290_30 kI_1 ?_
  refine Rd.cV2vN H290 i290_31 cal188 ob11 (Nat.le_of_ble_eq_true rfl) (Nat.le_of_ble_eq_true rfl) (Nat.lt_of_lt_of_le (by decide) hd) (fun q hq => c188 hq) h (fun x19 s18 h => ?_)
  refine Rd.if_ne H290 i290_34 (t := 80) (by decide) h (fun hc h => ?_) (fun hc h => ?_)
  · refine Ev.iconst H290 i290_80 kI_0 ?_
    exact Rd.ireturn H290 i290_81 rfl h
  · refine Ev.aload_n H290 i290_37 rfl ?_
    refine Ev.iload_n H290 i290_38 rfl ?_
    refine Ev.iconst H290 i290_39 kI_0 ?_
    refine Ev.iconst H290 i290_40 kI_2 ?_
    refine Rd.cS3vN H290 i290_41 cal189 (Nat.le_of_ble_eq_true rfl) (Nat.le_of_ble_eq_true rfl) (Nat.lt_of_lt_of_le (by decide) hd) (fun q hq => c189 hq) h (fun x21 s20 h => ?_)
    refine Rd.if_ne H290 i290_44 (t := 51) (by decide) h (fun hc h => ?_) (fun hc h => ?_)
    · refine Ev.iconst H290 i290_51 kI_0 ?_
      exact Ev.sub (l := [(0, .ref 512), (1, .int v1), (2, .int v2), (3, .int v3)]) rfl rfl (mm_sub_c rfl (mm_sub_c rfl (mm_sub_c rfl (mm_sub_c rfl mm_sub_n)))) (t290_52 hd h)
    · refine Ev.iconst H290 i290_47 kI_1 ?_
      refine Ev.goto H290 i290_48 (t := 52) (by decide) ?_
      exact Ev.sub (l := [(0, .ref 512), (1, .int v1), (2, .int v2), (3, .int v3)]) rfl rfl (mm_sub_c rfl (mm_sub_c rfl (mm_sub_c rfl (mm_sub_c rfl mm_sub_n)))) (t290_52 hd h)
def q290_25 (v1 : Int32) (v2 : Int32) (v3 : Int32) (s : mS) : Option mQ := q290_30 v1 v2 v3 (1 : Int32) s
theorem t290_25 {L : Nat} {xs : Nat → Int32} {d : Nat} (hd : 11 ≤ d) {v1 : Int32} {v2 : Int32} {v3 : Int32} {s : mS} {r : mQ} (h : q290_25 v1 v2 v3 s = some r) : Ev L xs d 290 25 [(0, .ref 512), (1, .int v1), (2, .int v2), (3, .int v3)] [.ref 512] (hp s) (hr r) := by
  unfold q290_25 at h
  refine Ev.iconst H290 i290_25 kI_1 ?_
  refine Ev.goto H290 i290_26 (t := 30) (by decide) ?_
  exact Ev.sub (l := [(0, .ref 512), (1, .int v1), (2, .int v2), (3, .int v3)]) rfl rfl (mm_sub_c rfl (mm_sub_c rfl (mm_sub_c rfl (mm_sub_c rfl mm_sub_n)))) (t290_30 hd h)
def q290_29 (v1 : Int32) (v2 : Int32) (v3 : Int32) (s : mS) : Option mQ := q290_30 v1 v2 v3 (0 : Int32) s
theorem t290_29 {L : Nat} {xs : Nat → Int32} {d : Nat} (hd : 11 ≤ d) {v1 : Int32} {v2 : Int32} {v3 : Int32} {s : mS} {r : mQ} (h : q290_29 v1 v2 v3 s = some r) : Ev L xs d 290 29 [(0, .ref 512), (1, .int v1), (2, .int v2), (3, .int v3)] [.ref 512] (hp s) (hr r) := by
  unfold q290_29 at h
  refine Ev.iconst H290 i290_29 kI_0 ?_
  exact Ev.sub (l := [(0, .ref 512), (1, .int v1), (2, .int v2), (3, .int v3)]) rfl rfl (mm_sub_c rfl (mm_sub_c rfl (mm_sub_c rfl (mm_sub_c rfl mm_sub_n)))) (t290_30 hd h)
/-- SerialGateModel.dooms(III)I -/
def q290 (v1 : Int32) (v2 : Int32) (v3 : Int32) (s : mS) : Option mQ := sp (sI s 512 0 (0 : Int32)) fun s22 => bN (q273 v1 s22) fun x24 s23 => if ¬ x24 = 0 then (q290_25 v1 v2 v3 s23) else (bN (q274 v3 s23) fun x26 s25 => if x26 = 0 then (q290_29 v1 v2 v3 s25) else (if v2 = (2 : Int32) then (q290_29 v1 v2 v3 s25) else (q290_25 v1 v2 v3 s25)))
theorem c290 {L : Nat} {xs : Nat → Int32} {v1 : Int32} {v2 : Int32} {v3 : Int32} {s : mS} {r : mQ} (h : q290 v1 v2 v3 s = some r) : ∀ d, 11 ≤ d → Cl L xs d 290 [.ref 512, .int v1, .int v2, .int v3] (hp s) (hr r) := by
  intro d hd
  show Ev L xs d 290 0 [(0, .ref 512), (1, .int v1), (2, .int v2), (3, .int v3)] [] (hp s) (hr r)
  unfold q290 at h
  refine Ev.aload_n H290 i290_0 rfl ?_
  refine Ev.iconst H290 i290_1 kI_0 ?_
  refine Rd.putI H290 i290_2 ob11 rfl ty11_0.1 ty11_0.2 h (fun s22 h => ?_)
  refine Ev.aload_n H290 i290_5 rfl ?_
  refine Ev.iload_n H290 i290_6 rfl ?_
  refine Rd.cS1vN H290 i290_7 cal273 (Nat.le_of_ble_eq_true rfl) (Nat.le_of_ble_eq_true rfl) (Nat.lt_of_lt_of_le (by decide) hd) (fun q hq => c273 hq) h (fun x24 s23 h => ?_)
  refine Rd.if_ne H290 i290_10 (t := 25) (by decide) h (fun hc h => ?_) (fun hc h => ?_)
  · exact Ev.sub (l := [(0, .ref 512), (1, .int v1), (2, .int v2), (3, .int v3)]) rfl rfl (mm_sub_c rfl (mm_sub_c rfl (mm_sub_c rfl (mm_sub_c rfl mm_sub_n)))) (t290_25 hd h)
  · refine Ev.iload_n H290 i290_13 rfl ?_
    refine Rd.cS1vN H290 i290_14 cal274 (Nat.le_of_ble_eq_true rfl) (Nat.le_of_ble_eq_true rfl) (Nat.lt_of_lt_of_le (by decide) hd) (fun q hq => c274 hq) h (fun x26 s25 h => ?_)
    refine Rd.if_eq H290 i290_17 (t := 29) (by decide) h (fun hc h => ?_) (fun hc h => ?_)
    · exact Ev.sub (l := [(0, .ref 512), (1, .int v1), (2, .int v2), (3, .int v3)]) rfl rfl (mm_sub_c rfl (mm_sub_c rfl (mm_sub_c rfl (mm_sub_c rfl mm_sub_n)))) (t290_29 hd h)
    · refine Ev.iload_n H290 i290_20 rfl ?_
      refine Ev.iconst H290 i290_21 kI_2 ?_
      refine Rd.ic_eq H290 i290_22 (t := 29) (by decide) h (fun hc h => ?_) (fun hc h => ?_)
      · exact Ev.sub (l := [(0, .ref 512), (1, .int v1), (2, .int v2), (3, .int v3)]) rfl rfl (mm_sub_c rfl (mm_sub_c rfl (mm_sub_c rfl (mm_sub_c rfl mm_sub_n)))) (t290_29 hd h)
      · exact Ev.sub (l := [(0, .ref 512), (1, .int v1), (2, .int v2), (3, .int v3)]) rfl rfl (mm_sub_c rfl (mm_sub_c rfl (mm_sub_c rfl (mm_sub_c rfl mm_sub_n)))) (t290_25 hd h)
theorem i291_0 : mm_cd 291 0 = some (.aload_n 0, 1, 0, 0) := rfl
theorem i291_1 : mm_cd 291 1 = some (.iconst 0, 1, 0, 0) := rfl
theorem i291_2 : mm_cd 291 2 = some (.putfield 3, 3, ((11 : Nat) : Int), 0) := rfl
theorem i291_5 : mm_cd 291 5 = some (.iconst 0, 1, 0, 0) := rfl
theorem i291_6 : mm_cd 291 6 = some (.istore_n 1, 1, 0, 0) := rfl
theorem i291_7 : mm_cd 291 7 = some (.iconst 0, 1, 0, 0) := rfl
theorem i291_8 : mm_cd 291 8 = some (.istore_n 2, 1, 0, 0) := rfl
theorem i291_9 : mm_cd 291 9 = some (.iload_n 2, 1, 0, 0) := rfl
theorem i291_10 : mm_cd 291 10 = some (.bipush 8, 2, 0, 0) := rfl
theorem i291_12 : mm_cd 291 12 = some (.if_icmp .ge 36, 3, 0, 0) := rfl
theorem i291_15 : mm_cd 291 15 = some (.iload_n 1, 1, 0, 0) := rfl
theorem i291_16 : mm_cd 291 16 = some (.aload_n 0, 1, 0, 0) := rfl
theorem i291_17 : mm_cd 291 17 = some (.iload_n 2, 1, 0, 0) := rfl
theorem i291_18 : mm_cd 291 18 = some (.iconst 0, 1, 0, 0) := rfl
theorem i291_19 : mm_cd 291 19 = some (.invokevirtual 69, 3, 0, 204) := rfl
theorem i291_22 : mm_cd 291 22 = some (.ifCond .eq 17, 3, 0, 0) := rfl
theorem i291_25 : mm_cd 291 25 = some (.aload_n 0, 1, 0, 0) := rfl
theorem i291_26 : mm_cd 291 26 = some (.iload_n 2, 1, 0, 0) := rfl
theorem i291_27 : mm_cd 291 27 = some (.invokevirtual 263, 3, 0, 243) := rfl
theorem i291_30 : mm_cd 291 30 = some (.ifCond .eq 9, 3, 0, 0) := rfl
theorem i291_33 : mm_cd 291 33 = some (.iconst 1, 1, 0, 0) := rfl
theorem i291_34 : mm_cd 291 34 = some (.iload_n 2, 1, 0, 0) := rfl
theorem i291_35 : mm_cd 291 35 = some (.ishl, 1, 0, 0) := rfl
theorem i291_36 : mm_cd 291 36 = some (.goto 4, 3, 0, 0) := rfl
theorem i291_39 : mm_cd 291 39 = some (.iconst 0, 1, 0, 0) := rfl
theorem i291_40 : mm_cd 291 40 = some (.ior, 1, 0, 0) := rfl
theorem i291_41 : mm_cd 291 41 = some (.istore_n 1, 1, 0, 0) := rfl
theorem i291_42 : mm_cd 291 42 = some (.iinc 2 1, 3, 0, 0) := rfl
theorem i291_45 : mm_cd 291 45 = some (.goto (-36), 3, 0, 0) := rfl
theorem i291_48 : mm_cd 291 48 = some (.iload_n 1, 1, 0, 0) := rfl
theorem i291_49 : mm_cd 291 49 = some (.ireturn, 1, 0, 0) := rfl
def q291_40 (k9 : Int32 → Int32 → mS → Option mQ) (v2 : Int32) (y0 : Int32) (y1 : Int32) (s : mS) : Option mQ := bx (y0 ||| y1) fun x1 => bx (v2 + (1 : Int32)) fun x2 => k9 x1 x2 s
theorem t291_40 {L : Nat} {xs : Nat → Int32} {d : Nat} {k9 : Int32 → Int32 → mS → Option mQ} (hk9 : ∀ (v1 : Int32) (v2 : Int32) (s : mS) (r : mQ), k9 v1 v2 s = some r → Ev L xs d 291 9 [(0, .ref 512), (1, .int v1), (2, .int v2)] [] (hp s) (hr r)) (hd : 4 ≤ d) {v2 : Int32} {y0 : Int32} {y1 : Int32} {s : mS} {r : mQ} (h : q291_40 k9 v2 y0 y1 s = some r) : Ev L xs d 291 40 [(0, .ref 512), (2, .int v2)] [.int y1, .int y0] (hp s) (hr r) := by
  unfold q291_40 at h
  refine Ev.ior H291 i291_40 ?_
  refine Rd.istore_n H291 i291_41 (Nat.le_of_ble_eq_true rfl) (lv2 := fun x1 => [(1, .int x1), (0, .ref 512), (2, .int v2)]) (fun _ => rfl) h (fun x1 h => ?_)
  refine Rd.iinc H291 i291_42 (Nat.le_of_ble_eq_true rfl) rfl kI_1 (lv2 := fun x2 => [(2, .int x2), (1, .int x1), (0, .ref 512)]) (fun _ => rfl) h (fun x2 h => ?_)
  refine Ev.goto H291 i291_45 (t := 9) (by decide) ?_
  exact Ev.sub (l := [(0, .ref 512), (1, .int x1), (2, .int x2)]) rfl rfl (mm_sub_c rfl (mm_sub_c rfl (mm_sub_c rfl mm_sub_n))) (hk9 _ _ _ _ h)
def q291_39 (k9 : Int32 → Int32 → mS → Option mQ) (v2 : Int32) (y0 : Int32) (s : mS) : Option mQ := q291_40 k9 v2 y0 (0 : Int32) s
theorem t291_39 {L : Nat} {xs : Nat → Int32} {d : Nat} {k9 : Int32 → Int32 → mS → Option mQ} (hk9 : ∀ (v1 : Int32) (v2 : Int32) (s : mS) (r : mQ), k9 v1 v2 s = some r → Ev L xs d 291 9 [(0, .ref 512), (1, .int v1), (2, .int v2)] [] (hp s) (hr r)) (hd : 4 ≤ d) {v2 : Int32} {y0 : Int32} {s : mS} {r : mQ} (h : q291_39 k9 v2 y0 s = some r) : Ev L xs d 291 39 [(0, .ref 512), (2, .int v2)] [.int y0] (hp s) (hr r) := by
  unfold q291_39 at h
  refine Ev.iconst H291 i291_39 kI_0 ?_
  exact Ev.sub (l := [(0, .ref 512), (2, .int v2)]) rfl rfl (mm_sub_c rfl (mm_sub_c rfl mm_sub_n)) (t291_40 (k9 := k9) hk9 hd h)
def q291_9 : Nat → Int32 → Int32 → mS → Option mQ
  | 0, _, _, _ => none
  | n + 1, v1, v2, s => if (8 : Int32) ≤ v2 then (rv v1 s) else (bN (q204 v2 (0 : Int32) s) fun x4 s3 => if x4 = 0 then (q291_39 (q291_9 n) v2 v1 s3) else (bN (q243 v2 s3) fun x6 s5 => if x6 = 0 then (q291_39 (q291_9 n) v2 v1 s5) else (q291_40 (q291_9 n) v2 v1 (shlI (1 : Int32) v2) s5)))
theorem t291_9 {L : Nat} {xs : Nat → Int32} {d : Nat} (hd : 4 ≤ d) : ∀ (n : Nat) (v1 : Int32) (v2 : Int32) (s : mS) (r : mQ), q291_9 n v1 v2 s = some r → Ev L xs d 291 9 [(0, .ref 512), (1, .int v1), (2, .int v2)] [] (hp s) (hr r) := by
  intro n
  induction n with
  | zero => intro v1 v2 s r h; rw [q291_9] at h; cases h
  | succ n ih =>
    intro v1 v2 s r h
    rw [q291_9] at h
    refine Ev.iload_n H291 i291_9 rfl ?_
    refine Ev.bipush H291 i291_10 kB_8 ?_
    refine Rd.ic_ge H291 i291_12 (t := 48) (by decide) h (fun hc h => ?_) (fun hc h => ?_)
    · refine Ev.iload_n H291 i291_48 rfl ?_
      exact Rd.ireturn H291 i291_49 rfl h
    · refine Ev.iload_n H291 i291_15 rfl ?_
      refine Ev.aload_n H291 i291_16 rfl ?_
      refine Ev.iload_n H291 i291_17 rfl ?_
      refine Ev.iconst H291 i291_18 kI_0 ?_
      refine Rd.cV2vN H291 i291_19 cal204 ob11 (Nat.le_of_ble_eq_true rfl) (Nat.le_of_ble_eq_true rfl) (Nat.lt_of_lt_of_le (by decide) hd) (fun q hq => c204 hq) h (fun x4 s3 h => ?_)
      refine Rd.if_eq H291 i291_22 (t := 39) (by decide) h (fun hc h => ?_) (fun hc h => ?_)
      · exact Ev.sub (l := [(0, .ref 512), (2, .int v2)]) rfl rfl (mm_sub_c rfl (mm_sub_c rfl mm_sub_n)) (t291_39 (k9 := (q291_9 n)) (fun _ _ _ _ h => ih _ _ _ _ h) hd h)
      · refine Ev.aload_n H291 i291_25 rfl ?_
        refine Ev.iload_n H291 i291_26 rfl ?_
        refine Rd.cV1vN H291 i291_27 cal243 ob11 (Nat.le_of_ble_eq_true rfl) (Nat.le_of_ble_eq_true rfl) (Nat.lt_of_lt_of_le (by decide) hd) (fun q hq => c243 hq) h (fun x6 s5 h => ?_)
        refine Rd.if_eq H291 i291_30 (t := 39) (by decide) h (fun hc h => ?_) (fun hc h => ?_)
        · exact Ev.sub (l := [(0, .ref 512), (2, .int v2)]) rfl rfl (mm_sub_c rfl (mm_sub_c rfl mm_sub_n)) (t291_39 (k9 := (q291_9 n)) (fun _ _ _ _ h => ih _ _ _ _ h) hd h)
        · refine Ev.iconst H291 i291_33 kI_1 ?_
          refine Ev.iload_n H291 i291_34 rfl ?_
          refine Rd.ishl H291 i291_35 ?_
          refine Ev.goto H291 i291_36 (t := 40) (by decide) ?_
          exact Ev.sub (l := [(0, .ref 512), (2, .int v2)]) rfl rfl (mm_sub_c rfl (mm_sub_c rfl mm_sub_n)) (t291_40 (k9 := (q291_9 n)) (fun _ _ _ _ h => ih _ _ _ _ h) hd h)
/-- SerialGateModel.pivots()I -/
def q291 (s : mS) : Option mQ := sp (sI s 512 0 (0 : Int32)) fun s7 => q291_9 10000 (0 : Int32) (0 : Int32) s7
theorem c291 {L : Nat} {xs : Nat → Int32} {s : mS} {r : mQ} (h : q291 s = some r) : ∀ d, 4 ≤ d → Cl L xs d 291 [.ref 512] (hp s) (hr r) := by
  intro d hd
  show Ev L xs d 291 0 [(0, .ref 512)] [] (hp s) (hr r)
  unfold q291 at h
  refine Ev.aload_n H291 i291_0 rfl ?_
  refine Ev.iconst H291 i291_1 kI_0 ?_
  refine Rd.putI H291 i291_2 ob11 rfl ty11_0.1 ty11_0.2 h (fun s7 h => ?_)
  refine Ev.iconst H291 i291_5 kI_0 ?_
  refine Ev.istore_n H291 i291_6 (Nat.le_of_ble_eq_true rfl) (lv2 := [(1, .int (0 : Int32)), (0, .ref 512)]) rfl ?_
  refine Ev.iconst H291 i291_7 kI_0 ?_
  refine Ev.istore_n H291 i291_8 (Nat.le_of_ble_eq_true rfl) (lv2 := [(2, .int (0 : Int32)), (1, .int (0 : Int32)), (0, .ref 512)]) rfl ?_
  exact Ev.sub (l := [(0, .ref 512), (1, .int (0 : Int32)), (2, .int (0 : Int32))]) rfl rfl (mm_sub_c rfl (mm_sub_c rfl (mm_sub_c rfl mm_sub_n))) (t291_9 hd 10000 _ _ _ _ h)
theorem i292_0 : mm_cd 292 0 = some (.iconst 1, 1, 0, 0) := rfl
theorem i292_1 : mm_cd 292 1 = some (.istore_n 2, 1, 0, 0) := rfl
theorem i292_2 : mm_cd 292 2 = some (.iconst 0, 1, 0, 0) := rfl
theorem i292_3 : mm_cd 292 3 = some (.istore_n 3, 1, 0, 0) := rfl
theorem i292_4 : mm_cd 292 4 = some (.iload_n 3, 1, 0, 0) := rfl
theorem i292_5 : mm_cd 292 5 = some (.bipush 8, 2, 0, 0) := rfl
theorem i292_7 : mm_cd 292 7 = some (.if_icmp .ge 61, 3, 0, 0) := rfl
theorem i292_10 : mm_cd 292 10 = some (.iload_n 2, 1, 0, 0) := rfl
theorem i292_11 : mm_cd 292 11 = some (.ifCond .eq 57, 3, 0, 0) := rfl
theorem i292_14 : mm_cd 292 14 = some (.aload_n 0, 1, 0, 0) := rfl
theorem i292_15 : mm_cd 292 15 = some (.iload_n 3, 1, 0, 0) := rfl
theorem i292_16 : mm_cd 292 16 = some (.invokevirtual 75, 3, 0, 205) := rfl
theorem i292_19 : mm_cd 292 19 = some (.ifCond .eq 37, 3, 0, 0) := rfl
theorem i292_22 : mm_cd 292 22 = some (.iload_n 1, 1, 0, 0) := rfl
theorem i292_23 : mm_cd 292 23 = some (.iload_n 3, 1, 0, 0) := rfl
theorem i292_24 : mm_cd 292 24 = some (.invokestatic 79, 3, 0, 190) := rfl
theorem i292_27 : mm_cd 292 27 = some (.ifCond .ne 29, 3, 0, 0) := rfl
theorem i292_30 : mm_cd 292 30 = some (.aload_n 0, 1, 0, 0) := rfl
theorem i292_31 : mm_cd 292 31 = some (.iload_n 3, 1, 0, 0) := rfl
theorem i292_32 : mm_cd 292 32 = some (.invokevirtual 255, 3, 0, 211) := rfl
theorem i292_35 : mm_cd 292 35 = some (.iload_n 1, 1, 0, 0) := rfl
theorem i292_36 : mm_cd 292 36 = some (.iconst (-1), 1, 0, 0) := rfl
theorem i292_37 : mm_cd 292 37 = some (.ixor, 1, 0, 0) := rfl
theorem i292_38 : mm_cd 292 38 = some (.iand, 1, 0, 0) := rfl
theorem i292_39 : mm_cd 292 39 = some (.ifCond .eq 17, 3, 0, 0) := rfl
theorem i292_42 : mm_cd 292 42 = some (.aload_n 0, 1, 0, 0) := rfl
theorem i292_43 : mm_cd 292 43 = some (.iload_n 3, 1, 0, 0) := rfl
theorem i292_44 : mm_cd 292 44 = some (.bipush 7, 2, 0, 0) := rfl
theorem i292_46 : mm_cd 292 46 = some (.invokevirtual 69, 3, 0, 204) := rfl
theorem i292_49 : mm_cd 292 49 = some (.iload_n 1, 1, 0, 0) := rfl
theorem i292_50 : mm_cd 292 50 = some (.iconst (-1), 1, 0, 0) := rfl
theorem i292_51 : mm_cd 292 51 = some (.ixor, 1, 0, 0) := rfl
theorem i292_52 : mm_cd 292 52 = some (.iand, 1, 0, 0) := rfl
theorem i292_53 : mm_cd 292 53 = some (.ifCond .ne 7, 3, 0, 0) := rfl
theorem i292_56 : mm_cd 292 56 = some (.iconst 1, 1, 0, 0) := rfl
theorem i292_57 : mm_cd 292 57 = some (.goto 4, 3, 0, 0) := rfl
theorem i292_60 : mm_cd 292 60 = some (.iconst 0, 1, 0, 0) := rfl
theorem i292_61 : mm_cd 292 61 = some (.istore_n 2, 1, 0, 0) := rfl
theorem i292_62 : mm_cd 292 62 = some (.iinc 3 1, 3, 0, 0) := rfl
theorem i292_65 : mm_cd 292 65 = some (.goto (-61), 3, 0, 0) := rfl
theorem i292_68 : mm_cd 292 68 = some (.iload_n 2, 1, 0, 0) := rfl
theorem i292_69 : mm_cd 292 69 = some (.ireturn, 1, 0, 0) := rfl
def q292_61 (k4 : Int32 → Int32 → Int32 → mS → Option mQ) (v1 : Int32) (v3 : Int32) (y0 : Int32) (s : mS) : Option mQ := bx (v3 + (1 : Int32)) fun x1 => k4 v1 y0 x1 s
theorem t292_61 {L : Nat} {xs : Nat → Int32} {d : Nat} {k4 : Int32 → Int32 → Int32 → mS → Option mQ} (hk4 : ∀ (v1 : Int32) (v2 : Int32) (v3 : Int32) (s : mS) (r : mQ), k4 v1 v2 v3 s = some r → Ev L xs d 292 4 [(0, .ref 512), (1, .int v1), (2, .int v2), (3, .int v3)] [] (hp s) (hr r)) (hd : 3 ≤ d) {v1 : Int32} {v3 : Int32} {y0 : Int32} {s : mS} {r : mQ} (h : q292_61 k4 v1 v3 y0 s = some r) : Ev L xs d 292 61 [(0, .ref 512), (1, .int v1), (3, .int v3)] [.int y0] (hp s) (hr r) := by
  unfold q292_61 at h
  refine Ev.istore_n H292 i292_61 (Nat.le_of_ble_eq_true rfl) (lv2 := [(2, .int y0), (0, .ref 512), (1, .int v1), (3, .int v3)]) rfl ?_
  refine Rd.iinc H292 i292_62 (Nat.le_of_ble_eq_true rfl) rfl kI_1 (lv2 := fun x1 => [(3, .int x1), (2, .int y0), (0, .ref 512), (1, .int v1)]) (fun _ => rfl) h (fun x1 h => ?_)
  refine Ev.goto H292 i292_65 (t := 4) (by decide) ?_
  exact Ev.sub (l := [(0, .ref 512), (1, .int v1), (2, .int y0), (3, .int x1)]) rfl rfl (mm_sub_c rfl (mm_sub_c rfl (mm_sub_c rfl (mm_sub_c rfl mm_sub_n)))) (hk4 _ _ _ _ _ h)
def q292_56 (k4 : Int32 → Int32 → Int32 → mS → Option mQ) (v1 : Int32) (v3 : Int32) (s : mS) : Option mQ := q292_61 k4 v1 v3 (1 : Int32) s
theorem t292_56 {L : Nat} {xs : Nat → Int32} {d : Nat} {k4 : Int32 → Int32 → Int32 → mS → Option mQ} (hk4 : ∀ (v1 : Int32) (v2 : Int32) (v3 : Int32) (s : mS) (r : mQ), k4 v1 v2 v3 s = some r → Ev L xs d 292 4 [(0, .ref 512), (1, .int v1), (2, .int v2), (3, .int v3)] [] (hp s) (hr r)) (hd : 3 ≤ d) {v1 : Int32} {v3 : Int32} {s : mS} {r : mQ} (h : q292_56 k4 v1 v3 s = some r) : Ev L xs d 292 56 [(0, .ref 512), (1, .int v1), (3, .int v3)] [] (hp s) (hr r) := by
  unfold q292_56 at h
  refine Ev.iconst H292 i292_56 kI_1 ?_
  refine Ev.goto H292 i292_57 (t := 61) (by decide) ?_
  exact Ev.sub (l := [(0, .ref 512), (1, .int v1), (3, .int v3)]) rfl rfl (mm_sub_c rfl (mm_sub_c rfl (mm_sub_c rfl mm_sub_n))) (t292_61 (k4 := k4) hk4 hd h)
def q292_4 : Nat → Int32 → Int32 → Int32 → mS → Option mQ
  | 0, _, _, _, _ => none
  | n + 1, v1, v2, v3, s => if (8 : Int32) ≤ v3 then (gB v2 <| rv v2 s) else (if v2 = 0 then (gB v2 <| rv v2 s) else (bN (q205 v3 s) fun x3 s2 => if x3 = 0 then (q292_56 (q292_4 n) v1 v3 s2) else (bN (q190 v1 v3 s2) fun x5 s4 => if ¬ x5 = 0 then (q292_56 (q292_4 n) v1 v3 s4) else (bN (q211 v3 s4) fun x7 s6 => if (x7 &&& (v1 ^^^ (-1 : Int32))) = 0 then (q292_56 (q292_4 n) v1 v3 s6) else (bN (q204 v3 (7 : Int32) s6) fun x9 s8 => if ¬ (x9 &&& (v1 ^^^ (-1 : Int32))) = 0 then (q292_61 (q292_4 n) v1 v3 (0 : Int32) s8) else (q292_56 (q292_4 n) v1 v3 s8))))))
theorem t292_4 {L : Nat} {xs : Nat → Int32} {d : Nat} (hd : 3 ≤ d) : ∀ (n : Nat) (v1 : Int32) (v2 : Int32) (v3 : Int32) (s : mS) (r : mQ), q292_4 n v1 v2 v3 s = some r → Ev L xs d 292 4 [(0, .ref 512), (1, .int v1), (2, .int v2), (3, .int v3)] [] (hp s) (hr r) := by
  intro n
  induction n with
  | zero => intro v1 v2 v3 s r h; rw [q292_4] at h; cases h
  | succ n ih =>
    intro v1 v2 v3 s r h
    rw [q292_4] at h
    refine Ev.iload_n H292 i292_4 rfl ?_
    refine Ev.bipush H292 i292_5 kB_8 ?_
    refine Rd.ic_ge H292 i292_7 (t := 68) (by decide) h (fun hc h => ?_) (fun hc h => ?_)
    · refine Ev.iload_n H292 i292_68 rfl ?_
      exact Rd.ireturnZ H292 i292_69 rfl h
    · refine Ev.iload_n H292 i292_10 rfl ?_
      refine Rd.if_eq H292 i292_11 (t := 68) (by decide) h (fun hc h => ?_) (fun hc h => ?_)
      · refine Ev.iload_n H292 i292_68 rfl ?_
        exact Rd.ireturnZ H292 i292_69 rfl h
      · refine Ev.aload_n H292 i292_14 rfl ?_
        refine Ev.iload_n H292 i292_15 rfl ?_
        refine Rd.cV1vN H292 i292_16 cal205 ob11 (Nat.le_of_ble_eq_true rfl) (Nat.le_of_ble_eq_true rfl) (Nat.lt_of_lt_of_le (by decide) hd) (fun q hq => c205 hq) h (fun x3 s2 h => ?_)
        refine Rd.if_eq H292 i292_19 (t := 56) (by decide) h (fun hc h => ?_) (fun hc h => ?_)
        · exact Ev.sub (l := [(0, .ref 512), (1, .int v1), (3, .int v3)]) rfl rfl (mm_sub_c rfl (mm_sub_c rfl (mm_sub_c rfl mm_sub_n))) (t292_56 (k4 := (q292_4 n)) (fun _ _ _ _ _ h => ih _ _ _ _ _ h) hd h)
        · refine Ev.iload_n H292 i292_22 rfl ?_
          refine Ev.iload_n H292 i292_23 rfl ?_
          refine Rd.cS2vN H292 i292_24 cal190 (Nat.le_of_ble_eq_true rfl) (Nat.le_of_ble_eq_true rfl) (Nat.lt_of_lt_of_le (by decide) hd) (fun q hq => c190 hq) h (fun x5 s4 h => ?_)
          refine Rd.if_ne H292 i292_27 (t := 56) (by decide) h (fun hc h => ?_) (fun hc h => ?_)
          · exact Ev.sub (l := [(0, .ref 512), (1, .int v1), (3, .int v3)]) rfl rfl (mm_sub_c rfl (mm_sub_c rfl (mm_sub_c rfl mm_sub_n))) (t292_56 (k4 := (q292_4 n)) (fun _ _ _ _ _ h => ih _ _ _ _ _ h) hd h)
          · refine Ev.aload_n H292 i292_30 rfl ?_
            refine Ev.iload_n H292 i292_31 rfl ?_
            refine Rd.cV1vN H292 i292_32 cal211 ob11 (Nat.le_of_ble_eq_true rfl) (Nat.le_of_ble_eq_true rfl) (Nat.lt_of_lt_of_le (by decide) hd) (fun q hq => c211 hq) h (fun x7 s6 h => ?_)
            refine Ev.iload_n H292 i292_35 rfl ?_
            refine Ev.iconst H292 i292_36 kI_m1 ?_
            refine Ev.ixor H292 i292_37 ?_
            refine Ev.iand H292 i292_38 ?_
            refine Rd.if_eq H292 i292_39 (t := 56) (by decide) h (fun hc h => ?_) (fun hc h => ?_)
            · exact Ev.sub (l := [(0, .ref 512), (1, .int v1), (3, .int v3)]) rfl rfl (mm_sub_c rfl (mm_sub_c rfl (mm_sub_c rfl mm_sub_n))) (t292_56 (k4 := (q292_4 n)) (fun _ _ _ _ _ h => ih _ _ _ _ _ h) hd h)
            · refine Ev.aload_n H292 i292_42 rfl ?_
              refine Ev.iload_n H292 i292_43 rfl ?_
              refine Ev.bipush H292 i292_44 kB_7 ?_
              refine Rd.cV2vN H292 i292_46 cal204 ob11 (Nat.le_of_ble_eq_true rfl) (Nat.le_of_ble_eq_true rfl) (Nat.lt_of_lt_of_le (by decide) hd) (fun q hq => c204 hq) h (fun x9 s8 h => ?_)
              refine Ev.iload_n H292 i292_49 rfl ?_
              refine Ev.iconst H292 i292_50 kI_m1 ?_
              refine Ev.ixor H292 i292_51 ?_
              refine Ev.iand H292 i292_52 ?_
              refine Rd.if_ne H292 i292_53 (t := 60) (by decide) h (fun hc h => ?_) (fun hc h => ?_)
              · refine Ev.iconst H292 i292_60 kI_0 ?_
                exact Ev.sub (l := [(0, .ref 512), (1, .int v1), (3, .int v3)]) rfl rfl (mm_sub_c rfl (mm_sub_c rfl (mm_sub_c rfl mm_sub_n))) (t292_61 (k4 := (q292_4 n)) (fun _ _ _ _ _ h => ih _ _ _ _ _ h) hd h)
              · exact Ev.sub (l := [(0, .ref 512), (1, .int v1), (3, .int v3)]) rfl rfl (mm_sub_c rfl (mm_sub_c rfl (mm_sub_c rfl mm_sub_n))) (t292_56 (k4 := (q292_4 n)) (fun _ _ _ _ _ h => ih _ _ _ _ _ h) hd h)
/-- SerialGateModel.isCut(I)Z -/
def q292 (v1 : Int32) (s : mS) : Option mQ := q292_4 10000 v1 (1 : Int32) (0 : Int32) s
theorem c292 {L : Nat} {xs : Nat → Int32} {v1 : Int32} {s : mS} {r : mQ} (h : q292 v1 s = some r) : ∀ d, 3 ≤ d → Cl L xs d 292 [.ref 512, .int v1] (hp s) (hr r) := by
  intro d hd
  show Ev L xs d 292 0 [(0, .ref 512), (1, .int v1)] [] (hp s) (hr r)
  unfold q292 at h
  refine Ev.iconst H292 i292_0 kI_1 ?_
  refine Ev.istore_n H292 i292_1 (Nat.le_of_ble_eq_true rfl) (lv2 := [(2, .int (1 : Int32)), (0, .ref 512), (1, .int v1)]) rfl ?_
  refine Ev.iconst H292 i292_2 kI_0 ?_
  refine Ev.istore_n H292 i292_3 (Nat.le_of_ble_eq_true rfl) (lv2 := [(3, .int (0 : Int32)), (2, .int (1 : Int32)), (0, .ref 512), (1, .int v1)]) rfl ?_
  exact Ev.sub (l := [(0, .ref 512), (1, .int v1), (2, .int (1 : Int32)), (3, .int (0 : Int32))]) rfl rfl (mm_sub_c rfl (mm_sub_c rfl (mm_sub_c rfl (mm_sub_c rfl mm_sub_n)))) (t292_4 hd 10000 _ _ _ _ _ h)
