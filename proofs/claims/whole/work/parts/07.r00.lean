theorem i342_0 : mm_cd 342 0 = some (.iload_n 0, 1, 0, 0) := rfl
theorem i342_1 : mm_cd 342 1 = some (.iconst (-1), 1, 0, 0) := rfl
theorem i342_2 : mm_cd 342 2 = some (.ixor, 1, 0, 0) := rfl
theorem i342_3 : mm_cd 342 3 = some (.iload_n 0, 1, 0, 0) := rfl
theorem i342_4 : mm_cd 342 4 = some (.iconst 1, 1, 0, 0) := rfl
theorem i342_5 : mm_cd 342 5 = some (.isub, 1, 0, 0) := rfl
theorem i342_6 : mm_cd 342 6 = some (.iand, 1, 0, 0) := rfl
theorem i342_7 : mm_cd 342 7 = some (.istore_n 0, 1, 0, 0) := rfl
theorem i342_8 : mm_cd 342 8 = some (.iload_n 0, 1, 0, 0) := rfl
theorem i342_9 : mm_cd 342 9 = some (.ifCond .gt 8, 3, 0, 0) := rfl
theorem i342_12 : mm_cd 342 12 = some (.iload_n 0, 1, 0, 0) := rfl
theorem i342_13 : mm_cd 342 13 = some (.bipush 32, 2, 0, 0) := rfl
theorem i342_15 : mm_cd 342 15 = some (.iand, 1, 0, 0) := rfl
theorem i342_16 : mm_cd 342 16 = some (.ireturn, 1, 0, 0) := rfl
theorem i342_17 : mm_cd 342 17 = some (.iconst 1, 1, 0, 0) := rfl
theorem i342_18 : mm_cd 342 18 = some (.istore_n 1, 1, 0, 0) := rfl
theorem i342_19 : mm_cd 342 19 = some (.iload_n 0, 1, 0, 0) := rfl
theorem i342_20 : mm_cd 342 20 = some (.ldc_w 264, 3, 65536, 0) := rfl
theorem i342_23 : mm_cd 342 23 = some (.if_icmp .le 11, 3, 0, 0) := rfl
theorem i342_26 : mm_cd 342 26 = some (.iinc 1 16, 3, 0, 0) := rfl
theorem i342_29 : mm_cd 342 29 = some (.iload_n 0, 1, 0, 0) := rfl
theorem i342_30 : mm_cd 342 30 = some (.bipush 16, 2, 0, 0) := rfl
theorem i342_32 : mm_cd 342 32 = some (.iushr, 1, 0, 0) := rfl
theorem i342_33 : mm_cd 342 33 = some (.istore_n 0, 1, 0, 0) := rfl
theorem i342_34 : mm_cd 342 34 = some (.iload_n 0, 1, 0, 0) := rfl
theorem i342_35 : mm_cd 342 35 = some (.sipush 256, 3, 0, 0) := rfl
theorem i342_38 : mm_cd 342 38 = some (.if_icmp .le 11, 3, 0, 0) := rfl
theorem i342_41 : mm_cd 342 41 = some (.iinc 1 8, 3, 0, 0) := rfl
theorem i342_44 : mm_cd 342 44 = some (.iload_n 0, 1, 0, 0) := rfl
theorem i342_45 : mm_cd 342 45 = some (.bipush 8, 2, 0, 0) := rfl
theorem i342_47 : mm_cd 342 47 = some (.iushr, 1, 0, 0) := rfl
theorem i342_48 : mm_cd 342 48 = some (.istore_n 0, 1, 0, 0) := rfl
theorem i342_49 : mm_cd 342 49 = some (.iload_n 0, 1, 0, 0) := rfl
theorem i342_50 : mm_cd 342 50 = some (.bipush 16, 2, 0, 0) := rfl
theorem i342_52 : mm_cd 342 52 = some (.if_icmp .le 10, 3, 0, 0) := rfl
theorem i342_55 : mm_cd 342 55 = some (.iinc 1 4, 3, 0, 0) := rfl
theorem i342_58 : mm_cd 342 58 = some (.iload_n 0, 1, 0, 0) := rfl
theorem i342_59 : mm_cd 342 59 = some (.iconst 4, 1, 0, 0) := rfl
theorem i342_60 : mm_cd 342 60 = some (.iushr, 1, 0, 0) := rfl
theorem i342_61 : mm_cd 342 61 = some (.istore_n 0, 1, 0, 0) := rfl
theorem i342_62 : mm_cd 342 62 = some (.iload_n 0, 1, 0, 0) := rfl
theorem i342_63 : mm_cd 342 63 = some (.iconst 4, 1, 0, 0) := rfl
theorem i342_64 : mm_cd 342 64 = some (.if_icmp .le 10, 3, 0, 0) := rfl
theorem i342_67 : mm_cd 342 67 = some (.iinc 1 2, 3, 0, 0) := rfl
theorem i342_70 : mm_cd 342 70 = some (.iload_n 0, 1, 0, 0) := rfl
theorem i342_71 : mm_cd 342 71 = some (.iconst 2, 1, 0, 0) := rfl
theorem i342_72 : mm_cd 342 72 = some (.iushr, 1, 0, 0) := rfl
theorem i342_73 : mm_cd 342 73 = some (.istore_n 0, 1, 0, 0) := rfl
theorem i342_74 : mm_cd 342 74 = some (.iload_n 1, 1, 0, 0) := rfl
theorem i342_75 : mm_cd 342 75 = some (.iload_n 0, 1, 0, 0) := rfl
theorem i342_76 : mm_cd 342 76 = some (.iconst 1, 1, 0, 0) := rfl
theorem i342_77 : mm_cd 342 77 = some (.iushr, 1, 0, 0) := rfl
theorem i342_78 : mm_cd 342 78 = some (.iadd, 1, 0, 0) := rfl
theorem i342_79 : mm_cd 342 79 = some (.ireturn, 1, 0, 0) := rfl
def q342_74 (v0 : Int32) (v1 : Int32) (s : mS) : Option mQ := rv (v1 + (ushI v0 (1 : Int32))) s
theorem t342_74 {L : Nat} {xs : Nat → Int32} {d : Nat} (hd : 0 ≤ d) {v0 : Int32} {v1 : Int32} {s : mS} {r : mQ} (h : q342_74 v0 v1 s = some r) : Ev L xs d 342 74 [(0, .int v0), (1, .int v1)] [] (hp s) (hr r) := by
  unfold q342_74 at h
  refine Ev.iload_n H342 i342_74 rfl ?_
  refine Ev.iload_n H342 i342_75 rfl ?_
  refine Ev.iconst H342 i342_76 kI_1 ?_
  refine Rd.iushr H342 i342_77 ?_
  refine Ev.iadd H342 i342_78 ?_
  exact Rd.ireturn H342 i342_79 rfl h
def q342_62 (v0 : Int32) (v1 : Int32) (s : mS) : Option mQ := if v0 ≤ (4 : Int32) then (q342_74 v0 v1 s) else (bx (v1 + (2 : Int32)) fun x1 => bx (ushI v0 (2 : Int32)) fun x2 => q342_74 x2 x1 s)
theorem t342_62 {L : Nat} {xs : Nat → Int32} {d : Nat} (hd : 0 ≤ d) {v0 : Int32} {v1 : Int32} {s : mS} {r : mQ} (h : q342_62 v0 v1 s = some r) : Ev L xs d 342 62 [(0, .int v0), (1, .int v1)] [] (hp s) (hr r) := by
  unfold q342_62 at h
  refine Ev.iload_n H342 i342_62 rfl ?_
  refine Ev.iconst H342 i342_63 kI_4 ?_
  refine Rd.ic_le H342 i342_64 (t := 74) (by decide) h (fun hc h => ?_) (fun hc h => ?_)
  · exact Ev.sub (l := [(0, .int v0), (1, .int v1)]) rfl rfl (mm_sub_c rfl (mm_sub_c rfl mm_sub_n)) (t342_74 hd h)
  · refine Rd.iinc H342 i342_67 (Nat.le_of_ble_eq_true rfl) rfl kI_2 (lv2 := fun x1 => [(1, .int x1), (0, .int v0)]) (fun _ => rfl) h (fun x1 h => ?_)
    refine Ev.iload_n H342 i342_70 rfl ?_
    refine Ev.iconst H342 i342_71 kI_2 ?_
    refine Rd.iushr H342 i342_72 ?_
    refine Rd.istore_n H342 i342_73 (Nat.le_of_ble_eq_true rfl) (lv2 := fun x2 => [(0, .int x2), (1, .int x1)]) (fun _ => rfl) h (fun x2 h => ?_)
    exact Ev.sub (l := [(0, .int x2), (1, .int x1)]) rfl rfl (mm_sub_c rfl (mm_sub_c rfl mm_sub_n)) (t342_74 hd h)
def q342_49 (v0 : Int32) (v1 : Int32) (s : mS) : Option mQ := if v0 ≤ (16 : Int32) then (q342_62 v0 v1 s) else (bx (v1 + (4 : Int32)) fun x3 => bx (ushI v0 (4 : Int32)) fun x4 => q342_62 x4 x3 s)
theorem t342_49 {L : Nat} {xs : Nat → Int32} {d : Nat} (hd : 0 ≤ d) {v0 : Int32} {v1 : Int32} {s : mS} {r : mQ} (h : q342_49 v0 v1 s = some r) : Ev L xs d 342 49 [(0, .int v0), (1, .int v1)] [] (hp s) (hr r) := by
  unfold q342_49 at h
  refine Ev.iload_n H342 i342_49 rfl ?_
  refine Ev.bipush H342 i342_50 kB_16 ?_
  refine Rd.ic_le H342 i342_52 (t := 62) (by decide) h (fun hc h => ?_) (fun hc h => ?_)
  · exact Ev.sub (l := [(0, .int v0), (1, .int v1)]) rfl rfl (mm_sub_c rfl (mm_sub_c rfl mm_sub_n)) (t342_62 hd h)
  · refine Rd.iinc H342 i342_55 (Nat.le_of_ble_eq_true rfl) rfl kI_4 (lv2 := fun x3 => [(1, .int x3), (0, .int v0)]) (fun _ => rfl) h (fun x3 h => ?_)
    refine Ev.iload_n H342 i342_58 rfl ?_
    refine Ev.iconst H342 i342_59 kI_4 ?_
    refine Rd.iushr H342 i342_60 ?_
    refine Rd.istore_n H342 i342_61 (Nat.le_of_ble_eq_true rfl) (lv2 := fun x4 => [(0, .int x4), (1, .int x3)]) (fun _ => rfl) h (fun x4 h => ?_)
    exact Ev.sub (l := [(0, .int x4), (1, .int x3)]) rfl rfl (mm_sub_c rfl (mm_sub_c rfl mm_sub_n)) (t342_62 hd h)
def q342_34 (v0 : Int32) (v1 : Int32) (s : mS) : Option mQ := if v0 ≤ (256 : Int32) then (q342_49 v0 v1 s) else (bx (v1 + (8 : Int32)) fun x5 => bx (ushI v0 (8 : Int32)) fun x6 => q342_49 x6 x5 s)
theorem t342_34 {L : Nat} {xs : Nat → Int32} {d : Nat} (hd : 0 ≤ d) {v0 : Int32} {v1 : Int32} {s : mS} {r : mQ} (h : q342_34 v0 v1 s = some r) : Ev L xs d 342 34 [(0, .int v0), (1, .int v1)] [] (hp s) (hr r) := by
  unfold q342_34 at h
  refine Ev.iload_n H342 i342_34 rfl ?_
  refine Ev.sipush H342 i342_35 kS_256 ?_
  refine Rd.ic_le H342 i342_38 (t := 49) (by decide) h (fun hc h => ?_) (fun hc h => ?_)
  · exact Ev.sub (l := [(0, .int v0), (1, .int v1)]) rfl rfl (mm_sub_c rfl (mm_sub_c rfl mm_sub_n)) (t342_49 hd h)
  · refine Rd.iinc H342 i342_41 (Nat.le_of_ble_eq_true rfl) rfl kI_8 (lv2 := fun x5 => [(1, .int x5), (0, .int v0)]) (fun _ => rfl) h (fun x5 h => ?_)
    refine Ev.iload_n H342 i342_44 rfl ?_
    refine Ev.bipush H342 i342_45 kB_8 ?_
    refine Rd.iushr H342 i342_47 ?_
    refine Rd.istore_n H342 i342_48 (Nat.le_of_ble_eq_true rfl) (lv2 := fun x6 => [(0, .int x6), (1, .int x5)]) (fun _ => rfl) h (fun x6 h => ?_)
    exact Ev.sub (l := [(0, .int x6), (1, .int x5)]) rfl rfl (mm_sub_c rfl (mm_sub_c rfl mm_sub_n)) (t342_49 hd h)
/-- java/lang/Integer.numberOfTrailingZeros(I)I -/
def q342 (v0 : Int32) (s : mS) : Option mQ := bx ((v0 ^^^ (-1 : Int32)) &&& (v0 - (1 : Int32))) fun x7 => if 0 < x7 then (if x7 ≤ (65536 : Int32) then (q342_34 x7 (1 : Int32) s) else (bx ((1 : Int32) + (16 : Int32)) fun x8 => bx (ushI x7 (16 : Int32)) fun x9 => q342_34 x9 x8 s)) else (rv (x7 &&& (32 : Int32)) s)
theorem c342 {L : Nat} {xs : Nat → Int32} {v0 : Int32} {s : mS} {r : mQ} (h : q342 v0 s = some r) : ∀ d, 0 ≤ d → Cl L xs d 342 [.int v0] (hp s) (hr r) := by
  intro d hd
  show Ev L xs d 342 0 [(0, .int v0)] [] (hp s) (hr r)
  unfold q342 at h
  refine Ev.iload_n H342 i342_0 rfl ?_
  refine Ev.iconst H342 i342_1 kI_m1 ?_
  refine Ev.ixor H342 i342_2 ?_
  refine Ev.iload_n H342 i342_3 rfl ?_
  refine Ev.iconst H342 i342_4 kI_1 ?_
  refine Ev.isub H342 i342_5 ?_
  refine Ev.iand H342 i342_6 ?_
  refine Rd.istore_n H342 i342_7 (Nat.le_of_ble_eq_true rfl) (lv2 := fun x7 => [(0, .int x7)]) (fun _ => rfl) h (fun x7 h => ?_)
  refine Ev.iload_n H342 i342_8 rfl ?_
  refine Rd.if_gt H342 i342_9 (t := 17) (by decide) h (fun hc h => ?_) (fun hc h => ?_)
  · refine Ev.iconst H342 i342_17 kI_1 ?_
    refine Ev.istore_n H342 i342_18 (Nat.le_of_ble_eq_true rfl) (lv2 := [(1, .int (1 : Int32)), (0, .int x7)]) rfl ?_
    refine Ev.iload_n H342 i342_19 rfl ?_
    refine Ev.ldc_w H342 i342_20 kI_65536 ?_
    refine Rd.ic_le H342 i342_23 (t := 34) (by decide) h (fun hc h => ?_) (fun hc h => ?_)
    · exact Ev.sub (l := [(0, .int x7), (1, .int (1 : Int32))]) rfl rfl (mm_sub_c rfl (mm_sub_c rfl mm_sub_n)) (t342_34 hd h)
    · refine Rd.iinc H342 i342_26 (Nat.le_of_ble_eq_true rfl) rfl kI_16 (lv2 := fun x8 => [(1, .int x8), (0, .int x7)]) (fun _ => rfl) h (fun x8 h => ?_)
      refine Ev.iload_n H342 i342_29 rfl ?_
      refine Ev.bipush H342 i342_30 kB_16 ?_
      refine Rd.iushr H342 i342_32 ?_
      refine Rd.istore_n H342 i342_33 (Nat.le_of_ble_eq_true rfl) (lv2 := fun x9 => [(0, .int x9), (1, .int x8)]) (fun _ => rfl) h (fun x9 h => ?_)
      exact Ev.sub (l := [(0, .int x9), (1, .int x8)]) rfl rfl (mm_sub_c rfl (mm_sub_c rfl mm_sub_n)) (t342_34 hd h)
  · refine Ev.iload_n H342 i342_12 rfl ?_
    refine Ev.bipush H342 i342_13 kB_32 ?_
    refine Ev.iand H342 i342_15 ?_
    exact Rd.ireturn H342 i342_16 rfl h
theorem i343_0 : mm_cd 343 0 = some (.iload_n 0, 1, 0, 0) := rfl
theorem i343_1 : mm_cd 343 1 = some (.iload_n 0, 1, 0, 0) := rfl
theorem i343_2 : mm_cd 343 2 = some (.iconst 1, 1, 0, 0) := rfl
theorem i343_3 : mm_cd 343 3 = some (.iushr, 1, 0, 0) := rfl
theorem i343_4 : mm_cd 343 4 = some (.ldc_w 265, 3, 1431655765, 0) := rfl
theorem i343_7 : mm_cd 343 7 = some (.iand, 1, 0, 0) := rfl
theorem i343_8 : mm_cd 343 8 = some (.isub, 1, 0, 0) := rfl
theorem i343_9 : mm_cd 343 9 = some (.istore_n 0, 1, 0, 0) := rfl
theorem i343_10 : mm_cd 343 10 = some (.iload_n 0, 1, 0, 0) := rfl
theorem i343_11 : mm_cd 343 11 = some (.ldc_w 266, 3, 858993459, 0) := rfl
theorem i343_14 : mm_cd 343 14 = some (.iand, 1, 0, 0) := rfl
theorem i343_15 : mm_cd 343 15 = some (.iload_n 0, 1, 0, 0) := rfl
theorem i343_16 : mm_cd 343 16 = some (.iconst 2, 1, 0, 0) := rfl
theorem i343_17 : mm_cd 343 17 = some (.iushr, 1, 0, 0) := rfl
theorem i343_18 : mm_cd 343 18 = some (.ldc_w 266, 3, 858993459, 0) := rfl
theorem i343_21 : mm_cd 343 21 = some (.iand, 1, 0, 0) := rfl
theorem i343_22 : mm_cd 343 22 = some (.iadd, 1, 0, 0) := rfl
theorem i343_23 : mm_cd 343 23 = some (.istore_n 0, 1, 0, 0) := rfl
theorem i343_24 : mm_cd 343 24 = some (.iload_n 0, 1, 0, 0) := rfl
theorem i343_25 : mm_cd 343 25 = some (.iload_n 0, 1, 0, 0) := rfl
theorem i343_26 : mm_cd 343 26 = some (.iconst 4, 1, 0, 0) := rfl
theorem i343_27 : mm_cd 343 27 = some (.iushr, 1, 0, 0) := rfl
theorem i343_28 : mm_cd 343 28 = some (.iadd, 1, 0, 0) := rfl
theorem i343_29 : mm_cd 343 29 = some (.ldc_w 267, 3, 252645135, 0) := rfl
theorem i343_32 : mm_cd 343 32 = some (.iand, 1, 0, 0) := rfl
theorem i343_33 : mm_cd 343 33 = some (.istore_n 0, 1, 0, 0) := rfl
theorem i343_34 : mm_cd 343 34 = some (.iload_n 0, 1, 0, 0) := rfl
theorem i343_35 : mm_cd 343 35 = some (.iload_n 0, 1, 0, 0) := rfl
theorem i343_36 : mm_cd 343 36 = some (.bipush 8, 2, 0, 0) := rfl
theorem i343_38 : mm_cd 343 38 = some (.iushr, 1, 0, 0) := rfl
theorem i343_39 : mm_cd 343 39 = some (.iadd, 1, 0, 0) := rfl
theorem i343_40 : mm_cd 343 40 = some (.istore_n 0, 1, 0, 0) := rfl
theorem i343_41 : mm_cd 343 41 = some (.iload_n 0, 1, 0, 0) := rfl
theorem i343_42 : mm_cd 343 42 = some (.iload_n 0, 1, 0, 0) := rfl
theorem i343_43 : mm_cd 343 43 = some (.bipush 16, 2, 0, 0) := rfl
theorem i343_45 : mm_cd 343 45 = some (.iushr, 1, 0, 0) := rfl
theorem i343_46 : mm_cd 343 46 = some (.iadd, 1, 0, 0) := rfl
theorem i343_47 : mm_cd 343 47 = some (.istore_n 0, 1, 0, 0) := rfl
theorem i343_48 : mm_cd 343 48 = some (.iload_n 0, 1, 0, 0) := rfl
theorem i343_49 : mm_cd 343 49 = some (.bipush 63, 2, 0, 0) := rfl
theorem i343_51 : mm_cd 343 51 = some (.iand, 1, 0, 0) := rfl
theorem i343_52 : mm_cd 343 52 = some (.ireturn, 1, 0, 0) := rfl
/-- java/lang/Integer.bitCount(I)I -/
def q343 (v0 : Int32) (s : mS) : Option mQ := bx (v0 - ((ushI v0 (1 : Int32)) &&& (1431655765 : Int32))) fun x1 => bx ((x1 &&& (858993459 : Int32)) + ((ushI x1 (2 : Int32)) &&& (858993459 : Int32))) fun x2 => bx ((x2 + (ushI x2 (4 : Int32))) &&& (252645135 : Int32)) fun x3 => bx (x3 + (ushI x3 (8 : Int32))) fun x4 => bx (x4 + (ushI x4 (16 : Int32))) fun x5 => rv (x5 &&& (63 : Int32)) s
theorem c343 {L : Nat} {xs : Nat → Int32} {v0 : Int32} {s : mS} {r : mQ} (h : q343 v0 s = some r) : ∀ d, 0 ≤ d → Cl L xs d 343 [.int v0] (hp s) (hr r) := by
  intro d hd
  show Ev L xs d 343 0 [(0, .int v0)] [] (hp s) (hr r)
  unfold q343 at h
  refine Ev.iload_n H343 i343_0 rfl ?_
  refine Ev.iload_n H343 i343_1 rfl ?_
  refine Ev.iconst H343 i343_2 kI_1 ?_
  refine Rd.iushr H343 i343_3 ?_
  refine Ev.ldc_w H343 i343_4 kI_1431655765 ?_
  refine Ev.iand H343 i343_7 ?_
  refine Ev.isub H343 i343_8 ?_
  refine Rd.istore_n H343 i343_9 (Nat.le_of_ble_eq_true rfl) (lv2 := fun x1 => [(0, .int x1)]) (fun _ => rfl) h (fun x1 h => ?_)
  refine Ev.iload_n H343 i343_10 rfl ?_
  refine Ev.ldc_w H343 i343_11 kI_858993459 ?_
  refine Ev.iand H343 i343_14 ?_
  refine Ev.iload_n H343 i343_15 rfl ?_
  refine Ev.iconst H343 i343_16 kI_2 ?_
  refine Rd.iushr H343 i343_17 ?_
  refine Ev.ldc_w H343 i343_18 kI_858993459 ?_
  refine Ev.iand H343 i343_21 ?_
  refine Ev.iadd H343 i343_22 ?_
  refine Rd.istore_n H343 i343_23 (Nat.le_of_ble_eq_true rfl) (lv2 := fun x2 => [(0, .int x2)]) (fun _ => rfl) h (fun x2 h => ?_)
  refine Ev.iload_n H343 i343_24 rfl ?_
  refine Ev.iload_n H343 i343_25 rfl ?_
  refine Ev.iconst H343 i343_26 kI_4 ?_
  refine Rd.iushr H343 i343_27 ?_
  refine Ev.iadd H343 i343_28 ?_
  refine Ev.ldc_w H343 i343_29 kI_252645135 ?_
  refine Ev.iand H343 i343_32 ?_
  refine Rd.istore_n H343 i343_33 (Nat.le_of_ble_eq_true rfl) (lv2 := fun x3 => [(0, .int x3)]) (fun _ => rfl) h (fun x3 h => ?_)
  refine Ev.iload_n H343 i343_34 rfl ?_
  refine Ev.iload_n H343 i343_35 rfl ?_
  refine Ev.bipush H343 i343_36 kB_8 ?_
  refine Rd.iushr H343 i343_38 ?_
  refine Ev.iadd H343 i343_39 ?_
  refine Rd.istore_n H343 i343_40 (Nat.le_of_ble_eq_true rfl) (lv2 := fun x4 => [(0, .int x4)]) (fun _ => rfl) h (fun x4 h => ?_)
  refine Ev.iload_n H343 i343_41 rfl ?_
  refine Ev.iload_n H343 i343_42 rfl ?_
  refine Ev.bipush H343 i343_43 kB_16 ?_
  refine Rd.iushr H343 i343_45 ?_
  refine Ev.iadd H343 i343_46 ?_
  refine Rd.istore_n H343 i343_47 (Nat.le_of_ble_eq_true rfl) (lv2 := fun x5 => [(0, .int x5)]) (fun _ => rfl) h (fun x5 h => ?_)
  refine Ev.iload_n H343 i343_48 rfl ?_
  refine Ev.bipush H343 i343_49 kB_63 ?_
  refine Ev.iand H343 i343_51 ?_
  exact Rd.ireturn H343 i343_52 rfl h
theorem i3_0 : mm_cd 3 0 = some (.aload_n 0, 1, 0, 0) := rfl
theorem i3_1 : mm_cd 3 1 = some (.getfield 15, 3, ((0 : Nat) : Int), 1) := rfl
theorem i3_4 : mm_cd 3 4 = some (.iload_n 1, 1, 0, 0) := rfl
theorem i3_5 : mm_cd 3 5 = some (.ishr, 1, 0, 0) := rfl
theorem i3_6 : mm_cd 3 6 = some (.iconst 1, 1, 0, 0) := rfl
theorem i3_7 : mm_cd 3 7 = some (.iand, 1, 0, 0) := rfl
theorem i3_8 : mm_cd 3 8 = some (.ifCond .eq 7, 3, 0, 0) := rfl
theorem i3_11 : mm_cd 3 11 = some (.iconst 1, 1, 0, 0) := rfl
theorem i3_12 : mm_cd 3 12 = some (.goto 4, 3, 0, 0) := rfl
theorem i3_15 : mm_cd 3 15 = some (.iconst 0, 1, 0, 0) := rfl
theorem i3_16 : mm_cd 3 16 = some (.ireturn, 1, 0, 0) := rfl
/-- SerialGate$Clients.isOnly(I)Z -/
def q3 (a : Nat) (v1 : Int32) (s : mS) : Option mQ := if ((shrI (s.1 a 1) v1) &&& (1 : Int32)) = 0 then (rv (0 : Int32) s) else (rv (1 : Int32) s)
theorem c3 {L : Nat} {xs : Nat → Int32} {a : Nat} (ma : a ∈ A0) {v1 : Int32} {s : mS} {r : mQ} (h : q3 a v1 s = some r) : ∀ d, 0 ≤ d → Cl L xs d 3 [.ref a, .int v1] (hp s) (hr r) := by
  intro d hd
  show Ev L xs d 3 0 [(0, .ref a), (1, .int v1)] [] (hp s) (hr r)
  unfold q3 at h
  refine Ev.aload_n H3 i3_0 rfl ?_
  refine Rd.getI H3 i3_1 (ob0 ma) rfl ?_
  refine Ev.iload_n H3 i3_4 rfl ?_
  refine Rd.ishr H3 i3_5 ?_
  refine Ev.iconst H3 i3_6 kI_1 ?_
  refine Ev.iand H3 i3_7 ?_
  refine Rd.if_eq H3 i3_8 (t := 15) (by decide) h (fun hc h => ?_) (fun hc h => ?_)
  · refine Ev.iconst H3 i3_15 kI_0 ?_
    exact Rd.ireturnK H3 i3_16 rfl (Or.inl rfl) h
  · refine Ev.iconst H3 i3_11 kI_1 ?_
    refine Ev.goto H3 i3_12 (t := 16) (by decide) ?_
    exact Rd.ireturnK H3 i3_16 rfl (Or.inr rfl) h
theorem i4_0 : mm_cd 4 0 = some (.aload_n 0, 1, 0, 0) := rfl
theorem i4_1 : mm_cd 4 1 = some (.getfield 18, 3, ((0 : Nat) : Int), 2) := rfl
theorem i4_4 : mm_cd 4 4 = some (.iload_n 1, 1, 0, 0) := rfl
theorem i4_5 : mm_cd 4 5 = some (.iaload, 1, 0, 0) := rfl
theorem i4_6 : mm_cd 4 6 = some (.aload_n 0, 1, 0, 0) := rfl
theorem i4_7 : mm_cd 4 7 = some (.getfield 22, 3, ((0 : Nat) : Int), 3) := rfl
theorem i4_10 : mm_cd 4 10 = some (.iload_n 1, 1, 0, 0) := rfl
theorem i4_11 : mm_cd 4 11 = some (.iaload, 1, 0, 0) := rfl
theorem i4_12 : mm_cd 4 12 = some (.ior, 1, 0, 0) := rfl
theorem i4_13 : mm_cd 4 13 = some (.ireturn, 1, 0, 0) := rfl
/-- SerialGate$Clients.usedBy(I)I -/
def q4 (a : Nat) (v1 : Int32) (s : mS) : Option mQ := gA 5 v1 <| gA 5 v1 <| rv ((s.1 (a + 1) v1.toNatClampNeg) ||| (s.1 (a + 2) v1.toNatClampNeg)) s
theorem c4 {L : Nat} {xs : Nat → Int32} {a : Nat} (ma : a ∈ A0) {v1 : Int32} {s : mS} {r : mQ} (h : q4 a v1 s = some r) : ∀ d, 0 ≤ d → Cl L xs d 4 [.ref a, .int v1] (hp s) (hr r) := by
  intro d hd
  show Ev L xs d 4 0 [(0, .ref a), (1, .int v1)] [] (hp s) (hr r)
  unfold q4 at h
  refine Ev.aload_n H4 i4_0 rfl ?_
  refine Rd.getR H4 i4_1 (ob0 ma) rfl ?_
  refine Ev.iload_n H4 i4_4 rfl ?_
  refine Rd.iaload H4 i4_5 (ar0_1 ma) h (fun h => ?_)
  refine Ev.aload_n H4 i4_6 rfl ?_
  refine Rd.getR H4 i4_7 (ob0 ma) rfl ?_
  refine Ev.iload_n H4 i4_10 rfl ?_
  refine Rd.iaload H4 i4_11 (ar0_2 ma) h (fun h => ?_)
  refine Ev.ior H4 i4_12 ?_
  exact Rd.ireturn H4 i4_13 rfl h
theorem i5_0 : mm_cd 5 0 = some (.aload_n 0, 1, 0, 0) := rfl
theorem i5_1 : mm_cd 5 1 = some (.getfield 22, 3, ((0 : Nat) : Int), 3) := rfl
theorem i5_4 : mm_cd 5 4 = some (.iload_n 1, 1, 0, 0) := rfl
theorem i5_5 : mm_cd 5 5 = some (.iaload, 1, 0, 0) := rfl
theorem i5_6 : mm_cd 5 6 = some (.aload_n 0, 1, 0, 0) := rfl
theorem i5_7 : mm_cd 5 7 = some (.iload_n 2, 1, 0, 0) := rfl
theorem i5_8 : mm_cd 5 8 = some (.invokevirtual 37, 3, 0, 4) := rfl
theorem i5_11 : mm_cd 5 11 = some (.iand, 1, 0, 0) := rfl
theorem i5_12 : mm_cd 5 12 = some (.ifCond .ne 18, 3, 0, 0) := rfl
theorem i5_15 : mm_cd 5 15 = some (.aload_n 0, 1, 0, 0) := rfl
theorem i5_16 : mm_cd 5 16 = some (.getfield 22, 3, ((0 : Nat) : Int), 3) := rfl
theorem i5_19 : mm_cd 5 19 = some (.iload_n 2, 1, 0, 0) := rfl
theorem i5_20 : mm_cd 5 20 = some (.iaload, 1, 0, 0) := rfl
theorem i5_21 : mm_cd 5 21 = some (.aload_n 0, 1, 0, 0) := rfl
theorem i5_22 : mm_cd 5 22 = some (.iload_n 1, 1, 0, 0) := rfl
theorem i5_23 : mm_cd 5 23 = some (.invokevirtual 37, 3, 0, 4) := rfl
theorem i5_26 : mm_cd 5 26 = some (.iand, 1, 0, 0) := rfl
theorem i5_27 : mm_cd 5 27 = some (.ifCond .eq 7, 3, 0, 0) := rfl
theorem i5_30 : mm_cd 5 30 = some (.iconst 1, 1, 0, 0) := rfl
theorem i5_31 : mm_cd 5 31 = some (.goto 4, 3, 0, 0) := rfl
theorem i5_34 : mm_cd 5 34 = some (.iconst 0, 1, 0, 0) := rfl
theorem i5_35 : mm_cd 5 35 = some (.ireturn, 1, 0, 0) := rfl
def q5_30 (a : Nat) (s : mS) : Option mQ := rv (1 : Int32) s
theorem t5_30 {L : Nat} {xs : Nat → Int32} {d : Nat} {a : Nat} (ma : a ∈ A0) (hd : 1 ≤ d) {s : mS} {r : mQ} (h : q5_30 a s = some r) : Ev L xs d 5 30 [] [] (hp s) (hr r) := by
  unfold q5_30 at h
  refine Ev.iconst H5 i5_30 kI_1 ?_
  refine Ev.goto H5 i5_31 (t := 35) (by decide) ?_
  exact Rd.ireturnK H5 i5_35 rfl (Or.inr rfl) h
/-- SerialGate$Clients.areClashing(II)Z -/
def q5 (a : Nat) (v1 : Int32) (v2 : Int32) (s : mS) : Option mQ := gA 5 v1 <| bN (q4 a v2 s) fun x2 s1 => if ¬ ((s.1 (a + 2) v1.toNatClampNeg) &&& x2) = 0 then (q5_30 a s1) else (gA 5 v2 <| bN (q4 a v1 s1) fun x4 s3 => if ((s1.1 (a + 2) v2.toNatClampNeg) &&& x4) = 0 then (rv (0 : Int32) s3) else (q5_30 a s3))
theorem c5 {L : Nat} {xs : Nat → Int32} {a : Nat} (ma : a ∈ A0) {v1 : Int32} {v2 : Int32} {s : mS} {r : mQ} (h : q5 a v1 v2 s = some r) : ∀ d, 1 ≤ d → Cl L xs d 5 [.ref a, .int v1, .int v2] (hp s) (hr r) := by
  intro d hd
  show Ev L xs d 5 0 [(0, .ref a), (1, .int v1), (2, .int v2)] [] (hp s) (hr r)
  unfold q5 at h
  refine Ev.aload_n H5 i5_0 rfl ?_
  refine Rd.getR H5 i5_1 (ob0 ma) rfl ?_
  refine Ev.iload_n H5 i5_4 rfl ?_
  refine Rd.iaload H5 i5_5 (ar0_2 ma) h (fun h => ?_)
  refine Ev.aload_n H5 i5_6 rfl ?_
  refine Ev.iload_n H5 i5_7 rfl ?_
  refine Rd.cV1vN H5 i5_8 cal4 (ob0 ma) (Nat.le_of_ble_eq_true rfl) (Nat.le_of_ble_eq_true rfl) (Nat.lt_of_lt_of_le (by decide) hd) (fun q hq => c4 ma hq) h (fun x2 s1 h => ?_)
  refine Ev.iand H5 i5_11 ?_
  refine Rd.if_ne H5 i5_12 (t := 30) (by decide) h (fun hc h => ?_) (fun hc h => ?_)
  · exact Ev.sub (l := []) rfl rfl mm_sub_n (t5_30 ma hd h)
  · refine Ev.aload_n H5 i5_15 rfl ?_
    refine Rd.getR H5 i5_16 (ob0 ma) rfl ?_
    refine Ev.iload_n H5 i5_19 rfl ?_
    refine Rd.iaload H5 i5_20 (ar0_2 ma) h (fun h => ?_)
    refine Ev.aload_n H5 i5_21 rfl ?_
    refine Ev.iload_n H5 i5_22 rfl ?_
    refine Rd.cV1vN H5 i5_23 cal4 (ob0 ma) (Nat.le_of_ble_eq_true rfl) (Nat.le_of_ble_eq_true rfl) (Nat.lt_of_lt_of_le (by decide) hd) (fun q hq => c4 ma hq) h (fun x4 s3 h => ?_)
    refine Ev.iand H5 i5_26 ?_
    refine Rd.if_eq H5 i5_27 (t := 34) (by decide) h (fun hc h => ?_) (fun hc h => ?_)
    · refine Ev.iconst H5 i5_34 kI_0 ?_
      exact Rd.ireturnK H5 i5_35 rfl (Or.inl rfl) h
    · exact Ev.sub (l := []) rfl rfl mm_sub_n (t5_30 ma hd h)
theorem i6_0 : mm_cd 6 0 = some (.iconst 0, 1, 0, 0) := rfl
theorem i6_1 : mm_cd 6 1 = some (.istore_n 2, 1, 0, 0) := rfl
theorem i6_2 : mm_cd 6 2 = some (.iconst 0, 1, 0, 0) := rfl
theorem i6_3 : mm_cd 6 3 = some (.istore_n 3, 1, 0, 0) := rfl
theorem i6_4 : mm_cd 6 4 = some (.iload_n 3, 1, 0, 0) := rfl
theorem i6_5 : mm_cd 6 5 = some (.aload_n 0, 1, 0, 0) := rfl
theorem i6_6 : mm_cd 6 6 = some (.getfield 9, 3, ((0 : Nat) : Int), 0) := rfl
theorem i6_9 : mm_cd 6 9 = some (.if_icmp .ge 50, 3, 0, 0) := rfl
theorem i6_12 : mm_cd 6 12 = some (.iload_n 1, 1, 0, 0) := rfl
theorem i6_13 : mm_cd 6 13 = some (.bipush 10, 2, 0, 0) := rfl
theorem i6_15 : mm_cd 6 15 = some (.if_icmp .ge 16, 3, 0, 0) := rfl
theorem i6_18 : mm_cd 6 18 = some (.aload_n 0, 1, 0, 0) := rfl
theorem i6_19 : mm_cd 6 19 = some (.getfield 18, 3, ((0 : Nat) : Int), 2) := rfl
theorem i6_22 : mm_cd 6 22 = some (.iload_n 3, 1, 0, 0) := rfl
theorem i6_23 : mm_cd 6 23 = some (.iaload, 1, 0, 0) := rfl
theorem i6_24 : mm_cd 6 24 = some (.iload_n 1, 1, 0, 0) := rfl
theorem i6_25 : mm_cd 6 25 = some (.ishr, 1, 0, 0) := rfl
theorem i6_26 : mm_cd 6 26 = some (.iconst 1, 1, 0, 0) := rfl
theorem i6_27 : mm_cd 6 27 = some (.iand, 1, 0, 0) := rfl
theorem i6_28 : mm_cd 6 28 = some (.goto 16, 3, 0, 0) := rfl
theorem i6_31 : mm_cd 6 31 = some (.aload_n 0, 1, 0, 0) := rfl
theorem i6_32 : mm_cd 6 32 = some (.getfield 22, 3, ((0 : Nat) : Int), 3) := rfl
theorem i6_35 : mm_cd 6 35 = some (.iload_n 3, 1, 0, 0) := rfl
theorem i6_36 : mm_cd 6 36 = some (.iaload, 1, 0, 0) := rfl
theorem i6_37 : mm_cd 6 37 = some (.iload_n 1, 1, 0, 0) := rfl
theorem i6_38 : mm_cd 6 38 = some (.bipush 10, 2, 0, 0) := rfl
theorem i6_40 : mm_cd 6 40 = some (.isub, 1, 0, 0) := rfl
theorem i6_41 : mm_cd 6 41 = some (.ishr, 1, 0, 0) := rfl
theorem i6_42 : mm_cd 6 42 = some (.iconst 1, 1, 0, 0) := rfl
theorem i6_43 : mm_cd 6 43 = some (.iand, 1, 0, 0) := rfl
theorem i6_44 : mm_cd 6 44 = some (.istore 4, 2, 0, 0) := rfl
theorem i6_46 : mm_cd 6 46 = some (.iload_n 2, 1, 0, 0) := rfl
theorem i6_47 : mm_cd 6 47 = some (.iload 4, 2, 0, 0) := rfl
theorem i6_49 : mm_cd 6 49 = some (.iload_n 3, 1, 0, 0) := rfl
theorem i6_50 : mm_cd 6 50 = some (.ishl, 1, 0, 0) := rfl
theorem i6_51 : mm_cd 6 51 = some (.ior, 1, 0, 0) := rfl
theorem i6_52 : mm_cd 6 52 = some (.istore_n 2, 1, 0, 0) := rfl
theorem i6_53 : mm_cd 6 53 = some (.iinc 3 1, 3, 0, 0) := rfl
theorem i6_56 : mm_cd 6 56 = some (.goto (-52), 3, 0, 0) := rfl
theorem i6_59 : mm_cd 6 59 = some (.iload_n 2, 1, 0, 0) := rfl
theorem i6_60 : mm_cd 6 60 = some (.ireturn, 1, 0, 0) := rfl
def q6_44 (k4 : Int32 → Int32 → Int32 → mS → Option mQ) (a : Nat) (v1 : Int32) (v2 : Int32) (v3 : Int32) (y0 : Int32) (s : mS) : Option mQ := bx (v2 ||| (shlI y0 v3)) fun x1 => bx (v3 + (1 : Int32)) fun x2 => k4 v1 x1 x2 s
theorem t6_44 {L : Nat} {xs : Nat → Int32} {d : Nat} {k4 : Int32 → Int32 → Int32 → mS → Option mQ} {a : Nat} (hk4 : ∀ (v1 : Int32) (v2 : Int32) (v3 : Int32) (s : mS) (r : mQ), k4 v1 v2 v3 s = some r → Ev L xs d 6 4 [(0, .ref a), (1, .int v1), (2, .int v2), (3, .int v3)] [] (hp s) (hr r)) (ma : a ∈ A0) (hd : 0 ≤ d) {v1 : Int32} {v2 : Int32} {v3 : Int32} {y0 : Int32} {s : mS} {r : mQ} (h : q6_44 k4 a v1 v2 v3 y0 s = some r) : Ev L xs d 6 44 [(0, .ref a), (1, .int v1), (2, .int v2), (3, .int v3)] [.int y0] (hp s) (hr r) := by
  unfold q6_44 at h
  refine Ev.istore H6 i6_44 (Nat.le_of_ble_eq_true rfl) (lv2 := [(4, .int y0), (0, .ref a), (1, .int v1), (2, .int v2), (3, .int v3)]) rfl ?_
  refine Ev.iload_n H6 i6_46 rfl ?_
  refine Ev.iload H6 i6_47 rfl ?_
  refine Ev.iload_n H6 i6_49 rfl ?_
  refine Rd.ishl H6 i6_50 ?_
  refine Ev.ior H6 i6_51 ?_
  refine Rd.istore_n H6 i6_52 (Nat.le_of_ble_eq_true rfl) (lv2 := fun x1 => [(2, .int x1), (4, .int y0), (0, .ref a), (1, .int v1), (3, .int v3)]) (fun _ => rfl) h (fun x1 h => ?_)
  refine Rd.iinc H6 i6_53 (Nat.le_of_ble_eq_true rfl) rfl kI_1 (lv2 := fun x2 => [(3, .int x2), (2, .int x1), (4, .int y0), (0, .ref a), (1, .int v1)]) (fun _ => rfl) h (fun x2 h => ?_)
  refine Ev.goto H6 i6_56 (t := 4) (by decide) ?_
  exact Ev.sub (l := [(0, .ref a), (1, .int v1), (2, .int x1), (3, .int x2)]) rfl rfl (mm_sub_c rfl (mm_sub_c rfl (mm_sub_c rfl (mm_sub_c rfl mm_sub_n)))) (hk4 _ _ _ _ _ h)
def q6_4 (a : Nat) : Nat → Int32 → Int32 → Int32 → mS → Option mQ
  | 0, _, _, _, _ => none
  | n + 1, v1, v2, v3, s => if (s.1 a 0) ≤ v3 then (rv v2 s) else (if (10 : Int32) ≤ v1 then (gA 5 v3 <| q6_44 (q6_4 a n) a v1 v2 v3 ((shrI (s.1 (a + 2) v3.toNatClampNeg) (v1 - (10 : Int32))) &&& (1 : Int32)) s) else (gA 5 v3 <| q6_44 (q6_4 a n) a v1 v2 v3 ((shrI (s.1 (a + 1) v3.toNatClampNeg) v1) &&& (1 : Int32)) s))
theorem t6_4 {L : Nat} {xs : Nat → Int32} {d : Nat} {a : Nat} (ma : a ∈ A0) (hd : 0 ≤ d) : ∀ (n : Nat) (v1 : Int32) (v2 : Int32) (v3 : Int32) (s : mS) (r : mQ), q6_4 a n v1 v2 v3 s = some r → Ev L xs d 6 4 [(0, .ref a), (1, .int v1), (2, .int v2), (3, .int v3)] [] (hp s) (hr r) := by
  intro n
  induction n with
  | zero => intro v1 v2 v3 s r h; rw [q6_4] at h; cases h
  | succ n ih =>
    intro v1 v2 v3 s r h
    rw [q6_4] at h
    refine Ev.iload_n H6 i6_4 rfl ?_
    refine Ev.aload_n H6 i6_5 rfl ?_
    refine Rd.getI H6 i6_6 (ob0 ma) rfl ?_
    refine Rd.ic_ge H6 i6_9 (t := 59) (by decide) h (fun hc h => ?_) (fun hc h => ?_)
    · refine Ev.iload_n H6 i6_59 rfl ?_
      exact Rd.ireturn H6 i6_60 rfl h
    · refine Ev.iload_n H6 i6_12 rfl ?_
      refine Ev.bipush H6 i6_13 kB_10 ?_
      refine Rd.ic_ge H6 i6_15 (t := 31) (by decide) h (fun hc h => ?_) (fun hc h => ?_)
      · refine Ev.aload_n H6 i6_31 rfl ?_
        refine Rd.getR H6 i6_32 (ob0 ma) rfl ?_
        refine Ev.iload_n H6 i6_35 rfl ?_
        refine Rd.iaload H6 i6_36 (ar0_2 ma) h (fun h => ?_)
        refine Ev.iload_n H6 i6_37 rfl ?_
        refine Ev.bipush H6 i6_38 kB_10 ?_
        refine Ev.isub H6 i6_40 ?_
        refine Rd.ishr H6 i6_41 ?_
        refine Ev.iconst H6 i6_42 kI_1 ?_
        refine Ev.iand H6 i6_43 ?_
        exact Ev.sub (l := [(0, .ref a), (1, .int v1), (2, .int v2), (3, .int v3)]) rfl rfl (mm_sub_c rfl (mm_sub_c rfl (mm_sub_c rfl (mm_sub_c rfl mm_sub_n)))) (t6_44 (fun _ _ _ _ _ h => ih _ _ _ _ _ h) ma hd h)
      · refine Ev.aload_n H6 i6_18 rfl ?_
        refine Rd.getR H6 i6_19 (ob0 ma) rfl ?_
        refine Ev.iload_n H6 i6_22 rfl ?_
        refine Rd.iaload H6 i6_23 (ar0_1 ma) h (fun h => ?_)
        refine Ev.iload_n H6 i6_24 rfl ?_
        refine Rd.ishr H6 i6_25 ?_
        refine Ev.iconst H6 i6_26 kI_1 ?_
        refine Ev.iand H6 i6_27 ?_
        refine Ev.goto H6 i6_28 (t := 44) (by decide) ?_
        exact Ev.sub (l := [(0, .ref a), (1, .int v1), (2, .int v2), (3, .int v3)]) rfl rfl (mm_sub_c rfl (mm_sub_c rfl (mm_sub_c rfl (mm_sub_c rfl mm_sub_n)))) (t6_44 (fun _ _ _ _ _ h => ih _ _ _ _ _ h) ma hd h)
/-- SerialGate$Clients.doersOf(I)I -/
def q6 (a : Nat) (v1 : Int32) (s : mS) : Option mQ := q6_4 a 10000 v1 (0 : Int32) (0 : Int32) s
theorem c6 {L : Nat} {xs : Nat → Int32} {a : Nat} (ma : a ∈ A0) {v1 : Int32} {s : mS} {r : mQ} (h : q6 a v1 s = some r) : ∀ d, 0 ≤ d → Cl L xs d 6 [.ref a, .int v1] (hp s) (hr r) := by
  intro d hd
  show Ev L xs d 6 0 [(0, .ref a), (1, .int v1)] [] (hp s) (hr r)
  unfold q6 at h
  refine Ev.iconst H6 i6_0 kI_0 ?_
  refine Ev.istore_n H6 i6_1 (Nat.le_of_ble_eq_true rfl) (lv2 := [(2, .int (0 : Int32)), (0, .ref a), (1, .int v1)]) rfl ?_
  refine Ev.iconst H6 i6_2 kI_0 ?_
  refine Ev.istore_n H6 i6_3 (Nat.le_of_ble_eq_true rfl) (lv2 := [(3, .int (0 : Int32)), (2, .int (0 : Int32)), (0, .ref a), (1, .int v1)]) rfl ?_
  exact Ev.sub (l := [(0, .ref a), (1, .int v1), (2, .int (0 : Int32)), (3, .int (0 : Int32))]) rfl rfl (mm_sub_c rfl (mm_sub_c rfl (mm_sub_c rfl (mm_sub_c rfl mm_sub_n)))) (t6_4 ma hd _ _ _ _ _ _ h)
theorem i7_0 : mm_cd 7 0 = some (.iconst 0, 1, 0, 0) := rfl
theorem i7_1 : mm_cd 7 1 = some (.istore_n 1, 1, 0, 0) := rfl
theorem i7_2 : mm_cd 7 2 = some (.iconst 0, 1, 0, 0) := rfl
theorem i7_3 : mm_cd 7 3 = some (.istore_n 2, 1, 0, 0) := rfl
theorem i7_4 : mm_cd 7 4 = some (.iload_n 2, 1, 0, 0) := rfl
theorem i7_5 : mm_cd 7 5 = some (.aload_n 0, 1, 0, 0) := rfl
theorem i7_6 : mm_cd 7 6 = some (.getfield 9, 3, ((0 : Nat) : Int), 0) := rfl
theorem i7_9 : mm_cd 7 9 = some (.if_icmp .ge 18, 3, 0, 0) := rfl
theorem i7_12 : mm_cd 7 12 = some (.iload_n 1, 1, 0, 0) := rfl
theorem i7_13 : mm_cd 7 13 = some (.aload_n 0, 1, 0, 0) := rfl
theorem i7_14 : mm_cd 7 14 = some (.getfield 28, 3, ((0 : Nat) : Int), 5) := rfl
theorem i7_17 : mm_cd 7 17 = some (.iload_n 2, 1, 0, 0) := rfl
theorem i7_18 : mm_cd 7 18 = some (.iaload, 1, 0, 0) := rfl
theorem i7_19 : mm_cd 7 19 = some (.iadd, 1, 0, 0) := rfl
theorem i7_20 : mm_cd 7 20 = some (.istore_n 1, 1, 0, 0) := rfl
theorem i7_21 : mm_cd 7 21 = some (.iinc 2 1, 3, 0, 0) := rfl
theorem i7_24 : mm_cd 7 24 = some (.goto (-20), 3, 0, 0) := rfl
theorem i7_27 : mm_cd 7 27 = some (.iload_n 1, 1, 0, 0) := rfl
theorem i7_28 : mm_cd 7 28 = some (.ireturn, 1, 0, 0) := rfl
def q7_4 (a : Nat) : Nat → Int32 → Int32 → mS → Option mQ
  | 0, _, _, _ => none
  | n + 1, v1, v2, s => if (s.1 a 0) ≤ v2 then (rv v1 s) else (gA 5 v2 <| bx (v1 + (s.1 (a + 4) v2.toNatClampNeg)) fun x1 => bx (v2 + (1 : Int32)) fun x2 => q7_4 a n x1 x2 s)
theorem t7_4 {L : Nat} {xs : Nat → Int32} {d : Nat} {a : Nat} (ma : a ∈ A0) (hd : 0 ≤ d) : ∀ (n : Nat) (v1 : Int32) (v2 : Int32) (s : mS) (r : mQ), q7_4 a n v1 v2 s = some r → Ev L xs d 7 4 [(0, .ref a), (1, .int v1), (2, .int v2)] [] (hp s) (hr r) := by
  intro n
  induction n with
  | zero => intro v1 v2 s r h; rw [q7_4] at h; cases h
  | succ n ih =>
    intro v1 v2 s r h
    rw [q7_4] at h
    refine Ev.iload_n H7 i7_4 rfl ?_
    refine Ev.aload_n H7 i7_5 rfl ?_
    refine Rd.getI H7 i7_6 (ob0 ma) rfl ?_
    refine Rd.ic_ge H7 i7_9 (t := 27) (by decide) h (fun hc h => ?_) (fun hc h => ?_)
    · refine Ev.iload_n H7 i7_27 rfl ?_
      exact Rd.ireturn H7 i7_28 rfl h
    · refine Ev.iload_n H7 i7_12 rfl ?_
      refine Ev.aload_n H7 i7_13 rfl ?_
      refine Rd.getR H7 i7_14 (ob0 ma) rfl ?_
      refine Ev.iload_n H7 i7_17 rfl ?_
      refine Rd.iaload H7 i7_18 (ar0_4 ma) h (fun h => ?_)
      refine Ev.iadd H7 i7_19 ?_
      refine Rd.istore_n H7 i7_20 (Nat.le_of_ble_eq_true rfl) (lv2 := fun x1 => [(1, .int x1), (0, .ref a), (2, .int v2)]) (fun _ => rfl) h (fun x1 h => ?_)
      refine Rd.iinc H7 i7_21 (Nat.le_of_ble_eq_true rfl) rfl kI_1 (lv2 := fun x2 => [(2, .int x2), (1, .int x1), (0, .ref a)]) (fun _ => rfl) h (fun x2 h => ?_)
      refine Ev.goto H7 i7_24 (t := 4) (by decide) ?_
      exact Ev.sub (l := [(0, .ref a), (1, .int x1), (2, .int x2)]) rfl rfl (mm_sub_c rfl (mm_sub_c rfl (mm_sub_c rfl mm_sub_n))) (ih _ _ _ _ h)
/-- SerialGate$Clients.allDone()I -/
def q7 (a : Nat) (s : mS) : Option mQ := q7_4 a 10000 (0 : Int32) (0 : Int32) s
theorem c7 {L : Nat} {xs : Nat → Int32} {a : Nat} (ma : a ∈ A0) {s : mS} {r : mQ} (h : q7 a s = some r) : ∀ d, 0 ≤ d → Cl L xs d 7 [.ref a] (hp s) (hr r) := by
  intro d hd
  show Ev L xs d 7 0 [(0, .ref a)] [] (hp s) (hr r)
  unfold q7 at h
  refine Ev.iconst H7 i7_0 kI_0 ?_
  refine Ev.istore_n H7 i7_1 (Nat.le_of_ble_eq_true rfl) (lv2 := [(1, .int (0 : Int32)), (0, .ref a)]) rfl ?_
  refine Ev.iconst H7 i7_2 kI_0 ?_
  refine Ev.istore_n H7 i7_3 (Nat.le_of_ble_eq_true rfl) (lv2 := [(2, .int (0 : Int32)), (1, .int (0 : Int32)), (0, .ref a)]) rfl ?_
  exact Ev.sub (l := [(0, .ref a), (1, .int (0 : Int32)), (2, .int (0 : Int32))]) rfl rfl (mm_sub_c rfl (mm_sub_c rfl (mm_sub_c rfl mm_sub_n))) (t7_4 ma hd _ _ _ _ _ h)
theorem i54_0 : mm_cd 54 0 = some (.iconst 0, 1, 0, 0) := rfl
theorem i54_1 : mm_cd 54 1 = some (.istore_n 3, 1, 0, 0) := rfl
theorem i54_2 : mm_cd 54 2 = some (.iload_n 3, 1, 0, 0) := rfl
theorem i54_3 : mm_cd 54 3 = some (.iload_n 1, 1, 0, 0) := rfl
theorem i54_4 : mm_cd 54 4 = some (.if_icmp .ge 33, 3, 0, 0) := rfl
theorem i54_7 : mm_cd 54 7 = some (.aload_n 0, 1, 0, 0) := rfl
theorem i54_8 : mm_cd 54 8 = some (.getfield 9, 3, ((5 : Nat) : Int), 1) := rfl
theorem i54_11 : mm_cd 54 11 = some (.iload_n 3, 1, 0, 0) := rfl
theorem i54_12 : mm_cd 54 12 = some (.iaload, 1, 0, 0) := rfl
theorem i54_13 : mm_cd 54 13 = some (.iload_n 2, 1, 0, 0) := rfl
theorem i54_14 : mm_cd 54 14 = some (.if_icmp .ne 17, 3, 0, 0) := rfl
theorem i54_17 : mm_cd 54 17 = some (.aload_n 0, 1, 0, 0) := rfl
theorem i54_18 : mm_cd 54 18 = some (.getfield 25, 3, ((5 : Nat) : Int), 0) := rfl
theorem i54_21 : mm_cd 54 21 = some (.iload_n 3, 1, 0, 0) := rfl
theorem i54_22 : mm_cd 54 22 = some (.iload_n 1, 1, 0, 0) := rfl
theorem i54_23 : mm_cd 54 23 = some (.invokevirtual 44, 3, 0, 5) := rfl
theorem i54_26 : mm_cd 54 26 = some (.ifCond .eq 5, 3, 0, 0) := rfl
theorem i54_29 : mm_cd 54 29 = some (.iconst 0, 1, 0, 0) := rfl
theorem i54_30 : mm_cd 54 30 = some (.ireturn, 1, 0, 0) := rfl
theorem i54_31 : mm_cd 54 31 = some (.iinc 3 1, 3, 0, 0) := rfl
theorem i54_34 : mm_cd 54 34 = some (.goto (-32), 3, 0, 0) := rfl
theorem i54_37 : mm_cd 54 37 = some (.iconst 1, 1, 0, 0) := rfl
theorem i54_38 : mm_cd 54 38 = some (.ireturn, 1, 0, 0) := rfl
def q54_31 (k2 : Int32 → Int32 → Int32 → mS → Option mQ) (v1 : Int32) (v2 : Int32) (v3 : Int32) (s : mS) : Option mQ := bx (v3 + (1 : Int32)) fun x1 => k2 v1 v2 x1 s
theorem t54_31 {L : Nat} {xs : Nat → Int32} {d : Nat} {k2 : Int32 → Int32 → Int32 → mS → Option mQ} (hk2 : ∀ (v1 : Int32) (v2 : Int32) (v3 : Int32) (s : mS) (r : mQ), k2 v1 v2 v3 s = some r → Ev L xs d 54 2 [(0, .ref 123), (1, .int v1), (2, .int v2), (3, .int v3)] [] (hp s) (hr r)) (hd : 2 ≤ d) {v1 : Int32} {v2 : Int32} {v3 : Int32} {s : mS} {r : mQ} (h : q54_31 k2 v1 v2 v3 s = some r) : Ev L xs d 54 31 [(0, .ref 123), (1, .int v1), (2, .int v2), (3, .int v3)] [] (hp s) (hr r) := by
  unfold q54_31 at h
  refine Rd.iinc H54 i54_31 (Nat.le_of_ble_eq_true rfl) rfl kI_1 (lv2 := fun x1 => [(3, .int x1), (0, .ref 123), (1, .int v1), (2, .int v2)]) (fun _ => rfl) h (fun x1 h => ?_)
  refine Ev.goto H54 i54_34 (t := 2) (by decide) ?_
  exact Ev.sub (l := [(0, .ref 123), (1, .int v1), (2, .int v2), (3, .int x1)]) rfl rfl (mm_sub_c rfl (mm_sub_c rfl (mm_sub_c rfl (mm_sub_c rfl mm_sub_n)))) (hk2 _ _ _ _ _ h)
def q54_2 : Nat → Int32 → Int32 → Int32 → mS → Option mQ
  | 0, _, _, _, _ => none
  | n + 1, v1, v2, v3, s => if v1 ≤ v3 then (rv (1 : Int32) s) else (gA 5 v3 <| if ¬ (s.1 124 v3.toNatClampNeg) = v2 then (q54_31 (q54_2 n) v1 v2 v3 s) else (bN (q5 27 v3 v1 s) fun x3 s2 => if x3 = 0 then (q54_31 (q54_2 n) v1 v2 v3 s2) else (rv (0 : Int32) s2)))
theorem t54_2 {L : Nat} {xs : Nat → Int32} {d : Nat} (hd : 2 ≤ d) : ∀ (n : Nat) (v1 : Int32) (v2 : Int32) (v3 : Int32) (s : mS) (r : mQ), q54_2 n v1 v2 v3 s = some r → Ev L xs d 54 2 [(0, .ref 123), (1, .int v1), (2, .int v2), (3, .int v3)] [] (hp s) (hr r) := by
  intro n
  induction n with
  | zero => intro v1 v2 v3 s r h; rw [q54_2] at h; cases h
  | succ n ih =>
    intro v1 v2 v3 s r h
    rw [q54_2] at h
    refine Ev.iload_n H54 i54_2 rfl ?_
    refine Ev.iload_n H54 i54_3 rfl ?_
    refine Rd.ic_ge H54 i54_4 (t := 37) (by decide) h (fun hc h => ?_) (fun hc h => ?_)
    · refine Ev.iconst H54 i54_37 kI_1 ?_
      exact Rd.ireturnK H54 i54_38 rfl (Or.inr rfl) h
    · refine Ev.aload_n H54 i54_7 rfl ?_
      refine Rd.getR H54 i54_8 ob5 rfl ?_
      refine Ev.iload_n H54 i54_11 rfl ?_
      refine Rd.iaload H54 i54_12 ar_124 h (fun h => ?_)
      refine Ev.iload_n H54 i54_13 rfl ?_
      refine Rd.ic_ne H54 i54_14 (t := 31) (by decide) h (fun hc h => ?_) (fun hc h => ?_)
      · exact Ev.sub (l := [(0, .ref 123), (1, .int v1), (2, .int v2), (3, .int v3)]) rfl rfl (mm_sub_c rfl (mm_sub_c rfl (mm_sub_c rfl (mm_sub_c rfl mm_sub_n)))) (t54_31 (fun _ _ _ _ _ h => ih _ _ _ _ _ h) hd h)
      · refine Ev.aload_n H54 i54_17 rfl ?_
        refine Rd.getR H54 i54_18 ob5 rfl ?_
        refine Ev.iload_n H54 i54_21 rfl ?_
        refine Ev.iload_n H54 i54_22 rfl ?_
        refine Rd.cV2vN H54 i54_23 cal5 (ob0 mA0_27) (Nat.le_of_ble_eq_true rfl) (Nat.le_of_ble_eq_true rfl) (Nat.lt_of_lt_of_le (by decide) hd) (fun q hq => c5 mA0_27 hq) h (fun x3 s2 h => ?_)
        refine Rd.if_eq H54 i54_26 (t := 31) (by decide) h (fun hc h => ?_) (fun hc h => ?_)
        · exact Ev.sub (l := [(0, .ref 123), (1, .int v1), (2, .int v2), (3, .int v3)]) rfl rfl (mm_sub_c rfl (mm_sub_c rfl (mm_sub_c rfl (mm_sub_c rfl mm_sub_n)))) (t54_31 (fun _ _ _ _ _ h => ih _ _ _ _ _ h) hd h)
        · refine Ev.iconst H54 i54_29 kI_0 ?_
          exact Rd.ireturnK H54 i54_30 rfl (Or.inl rfl) h
/-- SerialGate$Planner.fitsRound(II)Z -/
def q54 (v1 : Int32) (v2 : Int32) (s : mS) : Option mQ := q54_2 10000 v1 v2 (0 : Int32) s
theorem c54 {L : Nat} {xs : Nat → Int32} {v1 : Int32} {v2 : Int32} {s : mS} {r : mQ} (h : q54 v1 v2 s = some r) : ∀ d, 2 ≤ d → Cl L xs d 54 [.ref 123, .int v1, .int v2] (hp s) (hr r) := by
  intro d hd
  show Ev L xs d 54 0 [(0, .ref 123), (1, .int v1), (2, .int v2)] [] (hp s) (hr r)
  unfold q54 at h
  refine Ev.iconst H54 i54_0 kI_0 ?_
  refine Ev.istore_n H54 i54_1 (Nat.le_of_ble_eq_true rfl) (lv2 := [(3, .int (0 : Int32)), (0, .ref 123), (1, .int v1), (2, .int v2)]) rfl ?_
  exact Ev.sub (l := [(0, .ref 123), (1, .int v1), (2, .int v2), (3, .int (0 : Int32))]) rfl rfl (mm_sub_c rfl (mm_sub_c rfl (mm_sub_c rfl (mm_sub_c rfl mm_sub_n)))) (t54_2 hd _ _ _ _ _ _ h)
theorem i76_0 : mm_cd 76 0 = some (.aload_n 0, 1, 0, 0) := rfl
theorem i76_1 : mm_cd 76 1 = some (.getfield 43, 3, ((6 : Nat) : Int), 10) := rfl
theorem i76_4 : mm_cd 76 4 = some (.iload_n 1, 1, 0, 0) := rfl
theorem i76_5 : mm_cd 76 5 = some (.iaload, 1, 0, 0) := rfl
theorem i76_6 : mm_cd 76 6 = some (.istore_n 2, 1, 0, 0) := rfl
theorem i76_7 : mm_cd 76 7 = some (.aload_n 0, 1, 0, 0) := rfl
theorem i76_8 : mm_cd 76 8 = some (.getfield 49, 3, ((6 : Nat) : Int), 12) := rfl
theorem i76_11 : mm_cd 76 11 = some (.iload_n 1, 1, 0, 0) := rfl
theorem i76_12 : mm_cd 76 12 = some (.iaload, 1, 0, 0) := rfl
theorem i76_13 : mm_cd 76 13 = some (.aload_n 0, 1, 0, 0) := rfl
theorem i76_14 : mm_cd 76 14 = some (.getfield 15, 3, ((6 : Nat) : Int), 1) := rfl
theorem i76_17 : mm_cd 76 17 = some (.iand, 1, 0, 0) := rfl
theorem i76_18 : mm_cd 76 18 = some (.istore_n 3, 1, 0, 0) := rfl
theorem i76_19 : mm_cd 76 19 = some (.iconst 0, 1, 0, 0) := rfl
theorem i76_20 : mm_cd 76 20 = some (.istore 4, 2, 0, 0) := rfl
theorem i76_22 : mm_cd 76 22 = some (.iload 4, 2, 0, 0) := rfl
theorem i76_24 : mm_cd 76 24 = some (.bipush 8, 2, 0, 0) := rfl
theorem i76_26 : mm_cd 76 26 = some (.if_icmp .ge 45, 3, 0, 0) := rfl
theorem i76_29 : mm_cd 76 29 = some (.iload_n 3, 1, 0, 0) := rfl
theorem i76_30 : mm_cd 76 30 = some (.ifCond .eq 41, 3, 0, 0) := rfl
theorem i76_33 : mm_cd 76 33 = some (.iload_n 3, 1, 0, 0) := rfl
theorem i76_34 : mm_cd 76 34 = some (.iload 4, 2, 0, 0) := rfl
theorem i76_36 : mm_cd 76 36 = some (.ishr, 1, 0, 0) := rfl
theorem i76_37 : mm_cd 76 37 = some (.iconst 1, 1, 0, 0) := rfl
theorem i76_38 : mm_cd 76 38 = some (.iand, 1, 0, 0) := rfl
theorem i76_39 : mm_cd 76 39 = some (.ifCond .eq 26, 3, 0, 0) := rfl
theorem i76_42 : mm_cd 76 42 = some (.iload_n 2, 1, 0, 0) := rfl
theorem i76_43 : mm_cd 76 43 = some (.ifCond .eq 14, 3, 0, 0) := rfl
theorem i76_46 : mm_cd 76 46 = some (.aload_n 0, 1, 0, 0) := rfl
theorem i76_47 : mm_cd 76 47 = some (.getfield 31, 3, ((6 : Nat) : Int), 6) := rfl
theorem i76_50 : mm_cd 76 50 = some (.iload 4, 2, 0, 0) := rfl
theorem i76_52 : mm_cd 76 52 = some (.iaload, 1, 0, 0) := rfl
theorem i76_53 : mm_cd 76 53 = some (.iload_n 2, 1, 0, 0) := rfl
theorem i76_54 : mm_cd 76 54 = some (.if_icmp .ge 11, 3, 0, 0) := rfl
theorem i76_57 : mm_cd 76 57 = some (.aload_n 0, 1, 0, 0) := rfl
theorem i76_58 : mm_cd 76 58 = some (.getfield 31, 3, ((6 : Nat) : Int), 6) := rfl
theorem i76_61 : mm_cd 76 61 = some (.iload 4, 2, 0, 0) := rfl
theorem i76_63 : mm_cd 76 63 = some (.iaload, 1, 0, 0) := rfl
theorem i76_64 : mm_cd 76 64 = some (.istore_n 2, 1, 0, 0) := rfl
theorem i76_65 : mm_cd 76 65 = some (.iinc 4 1, 3, 0, 0) := rfl
theorem i76_68 : mm_cd 76 68 = some (.goto (-46), 3, 0, 0) := rfl
theorem i76_71 : mm_cd 76 71 = some (.iload_n 2, 1, 0, 0) := rfl
theorem i76_72 : mm_cd 76 72 = some (.ireturn, 1, 0, 0) := rfl
def q76_65 (k22 : Int32 → Int32 → Int32 → mS → Option mQ) (a : Nat) (v2 : Int32) (v3 : Int32) (v4 : Int32) (s : mS) : Option mQ := bx (v4 + (1 : Int32)) fun x1 => k22 v2 v3 x1 s
theorem t76_65 {L : Nat} {xs : Nat → Int32} {d : Nat} {k22 : Int32 → Int32 → Int32 → mS → Option mQ} {a : Nat} (hk22 : ∀ (v2 : Int32) (v3 : Int32) (v4 : Int32) (s : mS) (r : mQ), k22 v2 v3 v4 s = some r → Ev L xs d 76 22 [(0, .ref a), (2, .int v2), (3, .int v3), (4, .int v4)] [] (hp s) (hr r)) (ma : a ∈ A6) (hd : 0 ≤ d) {v2 : Int32} {v3 : Int32} {v4 : Int32} {s : mS} {r : mQ} (h : q76_65 k22 a v2 v3 v4 s = some r) : Ev L xs d 76 65 [(0, .ref a), (2, .int v2), (3, .int v3), (4, .int v4)] [] (hp s) (hr r) := by
  unfold q76_65 at h
  refine Rd.iinc H76 i76_65 (Nat.le_of_ble_eq_true rfl) rfl kI_1 (lv2 := fun x1 => [(4, .int x1), (0, .ref a), (2, .int v2), (3, .int v3)]) (fun _ => rfl) h (fun x1 h => ?_)
  refine Ev.goto H76 i76_68 (t := 22) (by decide) ?_
  exact Ev.sub (l := [(0, .ref a), (2, .int v2), (3, .int v3), (4, .int x1)]) rfl rfl (mm_sub_c rfl (mm_sub_c rfl (mm_sub_c rfl (mm_sub_c rfl mm_sub_n)))) (hk22 _ _ _ _ _ h)
def q76_57 (k22 : Int32 → Int32 → Int32 → mS → Option mQ) (a : Nat) (v3 : Int32) (v4 : Int32) (s : mS) : Option mQ := gA 8 v4 <| bx (s.1 (a + 3) v4.toNatClampNeg) fun x2 => q76_65 k22 a x2 v3 v4 s
theorem t76_57 {L : Nat} {xs : Nat → Int32} {d : Nat} {k22 : Int32 → Int32 → Int32 → mS → Option mQ} {a : Nat} (hk22 : ∀ (v2 : Int32) (v3 : Int32) (v4 : Int32) (s : mS) (r : mQ), k22 v2 v3 v4 s = some r → Ev L xs d 76 22 [(0, .ref a), (2, .int v2), (3, .int v3), (4, .int v4)] [] (hp s) (hr r)) (ma : a ∈ A6) (hd : 0 ≤ d) {v3 : Int32} {v4 : Int32} {s : mS} {r : mQ} (h : q76_57 k22 a v3 v4 s = some r) : Ev L xs d 76 57 [(0, .ref a), (3, .int v3), (4, .int v4)] [] (hp s) (hr r) := by
  unfold q76_57 at h
  refine Ev.aload_n H76 i76_57 rfl ?_
  refine Rd.getR H76 i76_58 (ob6 ma) rfl ?_
  refine Ev.iload H76 i76_61 rfl ?_
  refine Rd.iaload H76 i76_63 (ar6_3 ma) h (fun h => ?_)
  refine Rd.istore_n H76 i76_64 (Nat.le_of_ble_eq_true rfl) (lv2 := fun x2 => [(2, .int x2), (0, .ref a), (3, .int v3), (4, .int v4)]) (fun _ => rfl) h (fun x2 h => ?_)
  exact Ev.sub (l := [(0, .ref a), (2, .int x2), (3, .int v3), (4, .int v4)]) rfl rfl (mm_sub_c rfl (mm_sub_c rfl (mm_sub_c rfl (mm_sub_c rfl mm_sub_n)))) (t76_65 hk22 ma hd h)
def q76_22 (a : Nat) : Nat → Int32 → Int32 → Int32 → mS → Option mQ
  | 0, _, _, _, _ => none
  | n + 1, v2, v3, v4, s => if (8 : Int32) ≤ v4 then (rv v2 s) else (if v3 = 0 then (rv v2 s) else (if ((shrI v3 v4) &&& (1 : Int32)) = 0 then (q76_65 (q76_22 a n) a v2 v3 v4 s) else (if v2 = 0 then (q76_57 (q76_22 a n) a v3 v4 s) else (gA 8 v4 <| if v2 ≤ (s.1 (a + 3) v4.toNatClampNeg) then (q76_65 (q76_22 a n) a v2 v3 v4 s) else (q76_57 (q76_22 a n) a v3 v4 s)))))
theorem t76_22 {L : Nat} {xs : Nat → Int32} {d : Nat} {a : Nat} (ma : a ∈ A6) (hd : 0 ≤ d) : ∀ (n : Nat) (v2 : Int32) (v3 : Int32) (v4 : Int32) (s : mS) (r : mQ), q76_22 a n v2 v3 v4 s = some r → Ev L xs d 76 22 [(0, .ref a), (2, .int v2), (3, .int v3), (4, .int v4)] [] (hp s) (hr r) := by
  intro n
  induction n with
  | zero => intro v2 v3 v4 s r h; rw [q76_22] at h; cases h
  | succ n ih =>
    intro v2 v3 v4 s r h
    rw [q76_22] at h
    refine Ev.iload H76 i76_22 rfl ?_
    refine Ev.bipush H76 i76_24 kB_8 ?_
    refine Rd.ic_ge H76 i76_26 (t := 71) (by decide) h (fun hc h => ?_) (fun hc h => ?_)
    · refine Ev.iload_n H76 i76_71 rfl ?_
      exact Rd.ireturn H76 i76_72 rfl h
    · refine Ev.iload_n H76 i76_29 rfl ?_
      refine Rd.if_eq H76 i76_30 (t := 71) (by decide) h (fun hc h => ?_) (fun hc h => ?_)
      · refine Ev.iload_n H76 i76_71 rfl ?_
        exact Rd.ireturn H76 i76_72 rfl h
      · refine Ev.iload_n H76 i76_33 rfl ?_
        refine Ev.iload H76 i76_34 rfl ?_
        refine Rd.ishr H76 i76_36 ?_
        refine Ev.iconst H76 i76_37 kI_1 ?_
        refine Ev.iand H76 i76_38 ?_
        refine Rd.if_eq H76 i76_39 (t := 65) (by decide) h (fun hc h => ?_) (fun hc h => ?_)
        · exact Ev.sub (l := [(0, .ref a), (2, .int v2), (3, .int v3), (4, .int v4)]) rfl rfl (mm_sub_c rfl (mm_sub_c rfl (mm_sub_c rfl (mm_sub_c rfl mm_sub_n)))) (t76_65 (fun _ _ _ _ _ h => ih _ _ _ _ _ h) ma hd h)
        · refine Ev.iload_n H76 i76_42 rfl ?_
          refine Rd.if_eq H76 i76_43 (t := 57) (by decide) h (fun hc h => ?_) (fun hc h => ?_)
          · exact Ev.sub (l := [(0, .ref a), (3, .int v3), (4, .int v4)]) rfl rfl (mm_sub_c rfl (mm_sub_c rfl (mm_sub_c rfl mm_sub_n))) (t76_57 (fun _ _ _ _ _ h => ih _ _ _ _ _ h) ma hd h)
          · refine Ev.aload_n H76 i76_46 rfl ?_
            refine Rd.getR H76 i76_47 (ob6 ma) rfl ?_
            refine Ev.iload H76 i76_50 rfl ?_
            refine Rd.iaload H76 i76_52 (ar6_3 ma) h (fun h => ?_)
            refine Ev.iload_n H76 i76_53 rfl ?_
            refine Rd.ic_ge H76 i76_54 (t := 65) (by decide) h (fun hc h => ?_) (fun hc h => ?_)
            · exact Ev.sub (l := [(0, .ref a), (2, .int v2), (3, .int v3), (4, .int v4)]) rfl rfl (mm_sub_c rfl (mm_sub_c rfl (mm_sub_c rfl (mm_sub_c rfl mm_sub_n)))) (t76_65 (fun _ _ _ _ _ h => ih _ _ _ _ _ h) ma hd h)
            · exact Ev.sub (l := [(0, .ref a), (3, .int v3), (4, .int v4)]) rfl rfl (mm_sub_c rfl (mm_sub_c rfl (mm_sub_c rfl mm_sub_n))) (t76_57 (fun _ _ _ _ _ h => ih _ _ _ _ _ h) ma hd h)
/-- SerialGate$Slots.firstOf(I)I -/
def q76 (a : Nat) (v1 : Int32) (s : mS) : Option mQ := gA 8 v1 <| bx (s.1 (a + 7) v1.toNatClampNeg) fun x3 => gA 8 v1 <| bx ((s.1 (a + 9) v1.toNatClampNeg) &&& (s.1 a 1)) fun x4 => q76_22 a 10000 x3 x4 (0 : Int32) s
theorem c76 {L : Nat} {xs : Nat → Int32} {a : Nat} (ma : a ∈ A6) {v1 : Int32} {s : mS} {r : mQ} (h : q76 a v1 s = some r) : ∀ d, 0 ≤ d → Cl L xs d 76 [.ref a, .int v1] (hp s) (hr r) := by
  intro d hd
  show Ev L xs d 76 0 [(0, .ref a), (1, .int v1)] [] (hp s) (hr r)
  unfold q76 at h
  refine Ev.aload_n H76 i76_0 rfl ?_
  refine Rd.getR H76 i76_1 (ob6 ma) rfl ?_
  refine Ev.iload_n H76 i76_4 rfl ?_
  refine Rd.iaload H76 i76_5 (ar6_7 ma) h (fun h => ?_)
  refine Rd.istore_n H76 i76_6 (Nat.le_of_ble_eq_true rfl) (lv2 := fun x3 => [(2, .int x3), (0, .ref a), (1, .int v1)]) (fun _ => rfl) h (fun x3 h => ?_)
  refine Ev.aload_n H76 i76_7 rfl ?_
  refine Rd.getR H76 i76_8 (ob6 ma) rfl ?_
  refine Ev.iload_n H76 i76_11 rfl ?_
  refine Rd.iaload H76 i76_12 (ar6_9 ma) h (fun h => ?_)
  refine Ev.aload_n H76 i76_13 rfl ?_
  refine Rd.getI H76 i76_14 (ob6 ma) rfl ?_
  refine Ev.iand H76 i76_17 ?_
  refine Rd.istore_n H76 i76_18 (Nat.le_of_ble_eq_true rfl) (lv2 := fun x4 => [(3, .int x4), (2, .int x3), (0, .ref a), (1, .int v1)]) (fun _ => rfl) h (fun x4 h => ?_)
  refine Ev.iconst H76 i76_19 kI_0 ?_
  refine Ev.istore H76 i76_20 (Nat.le_of_ble_eq_true rfl) (lv2 := [(4, .int (0 : Int32)), (3, .int x4), (2, .int x3), (0, .ref a), (1, .int v1)]) rfl ?_
  exact Ev.sub (l := [(0, .ref a), (2, .int x3), (3, .int x4), (4, .int (0 : Int32))]) rfl rfl (mm_sub_c rfl (mm_sub_c rfl (mm_sub_c rfl (mm_sub_c rfl mm_sub_n)))) (t76_22 ma hd _ _ _ _ _ _ h)
