theorem i246_0 : mm_cd 246 0 = some (.iconst 0, 1, 0, 0) := rfl
theorem i246_1 : mm_cd 246 1 = some (.istore_n 3, 1, 0, 0) := rfl
theorem i246_2 : mm_cd 246 2 = some (.iconst 0, 1, 0, 0) := rfl
theorem i246_3 : mm_cd 246 3 = some (.istore 4, 2, 0, 0) := rfl
theorem i246_5 : mm_cd 246 5 = some (.aload_n 0, 1, 0, 0) := rfl
theorem i246_6 : mm_cd 246 6 = some (.getfield 13, 3, ((11 : Nat) : Int), 1) := rfl
theorem i246_9 : mm_cd 246 9 = some (.iconst 2, 1, 0, 0) := rfl
theorem i246_10 : mm_cd 246 10 = some (.iaload, 1, 0, 0) := rfl
theorem i246_11 : mm_cd 246 11 = some (.iconst 1, 1, 0, 0) := rfl
theorem i246_12 : mm_cd 246 12 = some (.if_icmp .ne 67, 3, 0, 0) := rfl
theorem i246_15 : mm_cd 246 15 = some (.iload 4, 2, 0, 0) := rfl
theorem i246_17 : mm_cd 246 17 = some (.aload_n 0, 1, 0, 0) := rfl
theorem i246_18 : mm_cd 246 18 = some (.getfield 13, 3, ((11 : Nat) : Int), 1) := rfl
theorem i246_21 : mm_cd 246 21 = some (.sipush 770, 3, 0, 0) := rfl
theorem i246_24 : mm_cd 246 24 = some (.iaload, 1, 0, 0) := rfl
theorem i246_25 : mm_cd 246 25 = some (.if_icmp .ge 54, 3, 0, 0) := rfl
theorem i246_28 : mm_cd 246 28 = some (.aload_n 0, 1, 0, 0) := rfl
theorem i246_29 : mm_cd 246 29 = some (.getfield 13, 3, ((11 : Nat) : Int), 1) := rfl
theorem i246_32 : mm_cd 246 32 = some (.sipush 771, 3, 0, 0) := rfl
theorem i246_35 : mm_cd 246 35 = some (.iconst 4, 1, 0, 0) := rfl
theorem i246_36 : mm_cd 246 36 = some (.iload 4, 2, 0, 0) := rfl
theorem i246_38 : mm_cd 246 38 = some (.imul, 1, 0, 0) := rfl
theorem i246_39 : mm_cd 246 39 = some (.iadd, 1, 0, 0) := rfl
theorem i246_40 : mm_cd 246 40 = some (.iaload, 1, 0, 0) := rfl
theorem i246_41 : mm_cd 246 41 = some (.iload_n 1, 1, 0, 0) := rfl
theorem i246_42 : mm_cd 246 42 = some (.if_icmp .ne 31, 3, 0, 0) := rfl
theorem i246_45 : mm_cd 246 45 = some (.aload_n 0, 1, 0, 0) := rfl
theorem i246_46 : mm_cd 246 46 = some (.iload 4, 2, 0, 0) := rfl
theorem i246_48 : mm_cd 246 48 = some (.iload_n 2, 1, 0, 0) := rfl
theorem i246_49 : mm_cd 246 49 = some (.invokevirtual 270, 3, 0, 245) := rfl
theorem i246_52 : mm_cd 246 52 = some (.ifCond .eq 21, 3, 0, 0) := rfl
theorem i246_55 : mm_cd 246 55 = some (.iload_n 3, 1, 0, 0) := rfl
theorem i246_56 : mm_cd 246 56 = some (.aload_n 0, 1, 0, 0) := rfl
theorem i246_57 : mm_cd 246 57 = some (.getfield 13, 3, ((11 : Nat) : Int), 1) := rfl
theorem i246_60 : mm_cd 246 60 = some (.sipush 771, 3, 0, 0) := rfl
theorem i246_63 : mm_cd 246 63 = some (.iconst 4, 1, 0, 0) := rfl
theorem i246_64 : mm_cd 246 64 = some (.iload 4, 2, 0, 0) := rfl
theorem i246_66 : mm_cd 246 66 = some (.imul, 1, 0, 0) := rfl
theorem i246_67 : mm_cd 246 67 = some (.iadd, 1, 0, 0) := rfl
theorem i246_68 : mm_cd 246 68 = some (.iconst 1, 1, 0, 0) := rfl
theorem i246_69 : mm_cd 246 69 = some (.iadd, 1, 0, 0) := rfl
theorem i246_70 : mm_cd 246 70 = some (.iaload, 1, 0, 0) := rfl
theorem i246_71 : mm_cd 246 71 = some (.iadd, 1, 0, 0) := rfl
theorem i246_72 : mm_cd 246 72 = some (.istore_n 3, 1, 0, 0) := rfl
theorem i246_73 : mm_cd 246 73 = some (.iinc 4 1, 3, 0, 0) := rfl
theorem i246_76 : mm_cd 246 76 = some (.goto (-71), 3, 0, 0) := rfl
theorem i246_79 : mm_cd 246 79 = some (.iload_n 3, 1, 0, 0) := rfl
theorem i246_80 : mm_cd 246 80 = some (.ireturn, 1, 0, 0) := rfl
def q246_73 (k5 : Int32 → Int32 → Int32 → Int32 → mS → Option mQ) (v1 : Int32) (v2 : Int32) (v3 : Int32) (v4 : Int32) (s : mS) : Option mQ := bx (v4 + (1 : Int32)) fun x1 => k5 v1 v2 v3 x1 s
theorem t246_73 {L : Nat} {xs : Nat → Int32} {d : Nat} {k5 : Int32 → Int32 → Int32 → Int32 → mS → Option mQ} (hk5 : ∀ (v1 : Int32) (v2 : Int32) (v3 : Int32) (v4 : Int32) (s : mS) (r : mQ), k5 v1 v2 v3 v4 s = some r → Ev L xs d 246 5 [(0, .ref 512), (1, .int v1), (2, .int v2), (3, .int v3), (4, .int v4)] [] (hp s) (hr r)) (hd : 6 ≤ d) {v1 : Int32} {v2 : Int32} {v3 : Int32} {v4 : Int32} {s : mS} {r : mQ} (h : q246_73 k5 v1 v2 v3 v4 s = some r) : Ev L xs d 246 73 [(0, .ref 512), (1, .int v1), (2, .int v2), (3, .int v3), (4, .int v4)] [] (hp s) (hr r) := by
  unfold q246_73 at h
  refine Rd.iinc H246 i246_73 (Nat.le_of_ble_eq_true rfl) rfl kI_1 (lv2 := fun x1 => [(4, .int x1), (0, .ref 512), (1, .int v1), (2, .int v2), (3, .int v3)]) (fun _ => rfl) h (fun x1 h => ?_)
  refine Ev.goto H246 i246_76 (t := 5) (by decide) ?_
  exact Ev.sub (l := [(0, .ref 512), (1, .int v1), (2, .int v2), (3, .int v3), (4, .int x1)]) rfl rfl (mm_sub_c rfl (mm_sub_c rfl (mm_sub_c rfl (mm_sub_c rfl (mm_sub_c rfl mm_sub_n))))) (hk5 _ _ _ _ _ _ h)
def q246_5 : Nat → Int32 → Int32 → Int32 → Int32 → mS → Option mQ
  | 0, _, _, _, _, _ => none
  | n + 1, v1, v2, v3, v4, s => gA 2468 (2 : Int32) <| if ¬ (s.1 513 (2 : Int32).toNatClampNeg) = (1 : Int32) then (rv v3 s) else (gA 2468 (770 : Int32) <| if (s.1 513 (770 : Int32).toNatClampNeg) ≤ v4 then (rv v3 s) else (gA 2468 ((771 : Int32) + ((4 : Int32) * v4)) <| if ¬ (s.1 513 ((771 : Int32) + ((4 : Int32) * v4)).toNatClampNeg) = v1 then (q246_73 (q246_5 n) v1 v2 v3 v4 s) else (bN (q245 v4 v2 s) fun x3 s2 => if x3 = 0 then (q246_73 (q246_5 n) v1 v2 v3 v4 s2) else (gA 2468 (((771 : Int32) + ((4 : Int32) * v4)) + (1 : Int32)) <| bx (v3 + (s2.1 513 (((771 : Int32) + ((4 : Int32) * v4)) + (1 : Int32)).toNatClampNeg)) fun x4 => q246_73 (q246_5 n) v1 v2 x4 v4 s2))))
theorem t246_5 {L : Nat} {xs : Nat → Int32} {d : Nat} (hd : 6 ≤ d) : ∀ (n : Nat) (v1 : Int32) (v2 : Int32) (v3 : Int32) (v4 : Int32) (s : mS) (r : mQ), q246_5 n v1 v2 v3 v4 s = some r → Ev L xs d 246 5 [(0, .ref 512), (1, .int v1), (2, .int v2), (3, .int v3), (4, .int v4)] [] (hp s) (hr r) := by
  intro n
  induction n with
  | zero => intro v1 v2 v3 v4 s r h; rw [q246_5] at h; cases h
  | succ n ih =>
    intro v1 v2 v3 v4 s r h
    rw [q246_5] at h
    refine Ev.aload_n H246 i246_5 rfl ?_
    refine Rd.getR H246 i246_6 ob11 rfl ?_
    refine Ev.iconst H246 i246_9 kI_2 ?_
    refine Rd.iaload H246 i246_10 ar_513 h (fun h => ?_)
    refine Ev.iconst H246 i246_11 kI_1 ?_
    refine Rd.ic_ne H246 i246_12 (t := 79) (by decide) h (fun hc h => ?_) (fun hc h => ?_)
    · refine Ev.iload_n H246 i246_79 rfl ?_
      exact Rd.ireturn H246 i246_80 rfl h
    · refine Ev.iload H246 i246_15 rfl ?_
      refine Ev.aload_n H246 i246_17 rfl ?_
      refine Rd.getR H246 i246_18 ob11 rfl ?_
      refine Ev.sipush H246 i246_21 kS_770 ?_
      refine Rd.iaload H246 i246_24 ar_513 h (fun h => ?_)
      refine Rd.ic_ge H246 i246_25 (t := 79) (by decide) h (fun hc h => ?_) (fun hc h => ?_)
      · refine Ev.iload_n H246 i246_79 rfl ?_
        exact Rd.ireturn H246 i246_80 rfl h
      · refine Ev.aload_n H246 i246_28 rfl ?_
        refine Rd.getR H246 i246_29 ob11 rfl ?_
        refine Ev.sipush H246 i246_32 kS_771 ?_
        refine Ev.iconst H246 i246_35 kI_4 ?_
        refine Ev.iload H246 i246_36 rfl ?_
        refine Ev.imul H246 i246_38 ?_
        refine Ev.iadd H246 i246_39 ?_
        refine Rd.iaload H246 i246_40 ar_513 h (fun h => ?_)
        refine Ev.iload_n H246 i246_41 rfl ?_
        refine Rd.ic_ne H246 i246_42 (t := 73) (by decide) h (fun hc h => ?_) (fun hc h => ?_)
        · exact Ev.sub (l := [(0, .ref 512), (1, .int v1), (2, .int v2), (3, .int v3), (4, .int v4)]) rfl rfl (mm_sub_c rfl (mm_sub_c rfl (mm_sub_c rfl (mm_sub_c rfl (mm_sub_c rfl mm_sub_n))))) (t246_73 (k5 := (q246_5 n)) (fun _ _ _ _ _ _ h => ih _ _ _ _ _ _ h) hd h)
        · refine Ev.aload_n H246 i246_45 rfl ?_
          refine Ev.iload H246 i246_46 rfl ?_
          refine Ev.iload_n H246 i246_48 rfl ?_
          refine Rd.cV2vN H246 i246_49 cal245 ob11 (Nat.le_of_ble_eq_true rfl) (Nat.le_of_ble_eq_true rfl) (Nat.lt_of_lt_of_le (by decide) hd) (fun q hq => c245 hq) h (fun x3 s2 h => ?_)
          refine Rd.if_eq H246 i246_52 (t := 73) (by decide) h (fun hc h => ?_) (fun hc h => ?_)
          · exact Ev.sub (l := [(0, .ref 512), (1, .int v1), (2, .int v2), (3, .int v3), (4, .int v4)]) rfl rfl (mm_sub_c rfl (mm_sub_c rfl (mm_sub_c rfl (mm_sub_c rfl (mm_sub_c rfl mm_sub_n))))) (t246_73 (k5 := (q246_5 n)) (fun _ _ _ _ _ _ h => ih _ _ _ _ _ _ h) hd h)
          · refine Ev.iload_n H246 i246_55 rfl ?_
            refine Ev.aload_n H246 i246_56 rfl ?_
            refine Rd.getR H246 i246_57 ob11 rfl ?_
            refine Ev.sipush H246 i246_60 kS_771 ?_
            refine Ev.iconst H246 i246_63 kI_4 ?_
            refine Ev.iload H246 i246_64 rfl ?_
            refine Ev.imul H246 i246_66 ?_
            refine Ev.iadd H246 i246_67 ?_
            refine Ev.iconst H246 i246_68 kI_1 ?_
            refine Ev.iadd H246 i246_69 ?_
            refine Rd.iaload H246 i246_70 ar_513 h (fun h => ?_)
            refine Ev.iadd H246 i246_71 ?_
            refine Rd.istore_n H246 i246_72 (Nat.le_of_ble_eq_true rfl) (lv2 := fun x4 => [(3, .int x4), (0, .ref 512), (1, .int v1), (2, .int v2), (4, .int v4)]) (fun _ => rfl) h (fun x4 h => ?_)
            exact Ev.sub (l := [(0, .ref 512), (1, .int v1), (2, .int v2), (3, .int x4), (4, .int v4)]) rfl rfl (mm_sub_c rfl (mm_sub_c rfl (mm_sub_c rfl (mm_sub_c rfl (mm_sub_c rfl mm_sub_n))))) (t246_73 (k5 := (q246_5 n)) (fun _ _ _ _ _ _ h => ih _ _ _ _ _ _ h) hd h)
/-- SerialGateModel.sumOf(II)I -/
def q246 (v1 : Int32) (v2 : Int32) (s : mS) : Option mQ := q246_5 10000 v1 v2 (0 : Int32) (0 : Int32) s
theorem c246 {L : Nat} {xs : Nat → Int32} {v1 : Int32} {v2 : Int32} {s : mS} {r : mQ} (h : q246 v1 v2 s = some r) : ∀ d, 6 ≤ d → Cl L xs d 246 [.ref 512, .int v1, .int v2] (hp s) (hr r) := by
  intro d hd
  show Ev L xs d 246 0 [(0, .ref 512), (1, .int v1), (2, .int v2)] [] (hp s) (hr r)
  unfold q246 at h
  refine Ev.iconst H246 i246_0 kI_0 ?_
  refine Ev.istore_n H246 i246_1 (Nat.le_of_ble_eq_true rfl) (lv2 := [(3, .int (0 : Int32)), (0, .ref 512), (1, .int v1), (2, .int v2)]) rfl ?_
  refine Ev.iconst H246 i246_2 kI_0 ?_
  refine Ev.istore H246 i246_3 (Nat.le_of_ble_eq_true rfl) (lv2 := [(4, .int (0 : Int32)), (3, .int (0 : Int32)), (0, .ref 512), (1, .int v1), (2, .int v2)]) rfl ?_
  exact Ev.sub (l := [(0, .ref 512), (1, .int v1), (2, .int v2), (3, .int (0 : Int32)), (4, .int (0 : Int32))]) rfl rfl (mm_sub_c rfl (mm_sub_c rfl (mm_sub_c rfl (mm_sub_c rfl (mm_sub_c rfl mm_sub_n))))) (t246_5 hd 10000 _ _ _ _ _ _ h)
theorem i247_0 : mm_cd 247 0 = some (.iconst 0, 1, 0, 0) := rfl
theorem i247_1 : mm_cd 247 1 = some (.bipush 10, 2, 0, 0) := rfl
theorem i247_3 : mm_cd 247 3 = some (.aload_n 0, 1, 0, 0) := rfl
theorem i247_4 : mm_cd 247 4 = some (.iconst 0, 1, 0, 0) := rfl
theorem i247_5 : mm_cd 247 5 = some (.iload_n 1, 1, 0, 0) := rfl
theorem i247_6 : mm_cd 247 6 = some (.invokevirtual 273, 3, 0, 246) := rfl
theorem i247_9 : mm_cd 247 9 = some (.iadd, 1, 0, 0) := rfl
theorem i247_10 : mm_cd 247 10 = some (.aload_n 0, 1, 0, 0) := rfl
theorem i247_11 : mm_cd 247 11 = some (.iconst 1, 1, 0, 0) := rfl
theorem i247_12 : mm_cd 247 12 = some (.iload_n 1, 1, 0, 0) := rfl
theorem i247_13 : mm_cd 247 13 = some (.invokevirtual 273, 3, 0, 246) := rfl
theorem i247_16 : mm_cd 247 16 = some (.isub, 1, 0, 0) := rfl
theorem i247_17 : mm_cd 247 17 = some (.invokestatic 276, 3, 2, 0) := rfl
theorem i247_20 : mm_cd 247 20 = some (.ireturn, 1, 0, 0) := rfl
/-- SerialGateModel.blameOf(I)I -/
def q247 (v1 : Int32) (s : mS) : Option mQ := bN (q246 (0 : Int32) v1 s) fun x2 s1 => bN (q246 (1 : Int32) v1 s1) fun x4 s3 => rv (mxI (0 : Int32) (((10 : Int32) + x2) - x4)) s3
theorem c247 {L : Nat} {xs : Nat → Int32} {v1 : Int32} {s : mS} {r : mQ} (h : q247 v1 s = some r) : ∀ d, 7 ≤ d → Cl L xs d 247 [.ref 512, .int v1] (hp s) (hr r) := by
  intro d hd
  show Ev L xs d 247 0 [(0, .ref 512), (1, .int v1)] [] (hp s) (hr r)
  unfold q247 at h
  refine Ev.iconst H247 i247_0 kI_0 ?_
  refine Ev.bipush H247 i247_1 kB_10 ?_
  refine Ev.aload_n H247 i247_3 rfl ?_
  refine Ev.iconst H247 i247_4 kI_0 ?_
  refine Ev.iload_n H247 i247_5 rfl ?_
  refine Rd.cV2vN H247 i247_6 cal246 ob11 (Nat.le_of_ble_eq_true rfl) (Nat.le_of_ble_eq_true rfl) (Nat.lt_of_lt_of_le (by decide) hd) (fun q hq => c246 hq) h (fun x2 s1 h => ?_)
  refine Ev.iadd H247 i247_9 ?_
  refine Ev.aload_n H247 i247_10 rfl ?_
  refine Ev.iconst H247 i247_11 kI_1 ?_
  refine Ev.iload_n H247 i247_12 rfl ?_
  refine Rd.cV2vN H247 i247_13 cal246 ob11 (Nat.le_of_ble_eq_true rfl) (Nat.le_of_ble_eq_true rfl) (Nat.lt_of_lt_of_le (by decide) hd) (fun q hq => c246 hq) h (fun x4 s3 h => ?_)
  refine Ev.isub H247 i247_16 ?_
  refine Rd.max H247 i247_17 (Nat.le_of_ble_eq_true rfl) ?_
  exact Rd.ireturn H247 i247_20 rfl h
theorem i248_0 : mm_cd 248 0 = some (.iconst 1, 1, 0, 0) := rfl
theorem i248_1 : mm_cd 248 1 = some (.aload_n 0, 1, 0, 0) := rfl
theorem i248_2 : mm_cd 248 2 = some (.iconst 2, 1, 0, 0) := rfl
theorem i248_3 : mm_cd 248 3 = some (.iload_n 1, 1, 0, 0) := rfl
theorem i248_4 : mm_cd 248 4 = some (.invokevirtual 273, 3, 0, 246) := rfl
theorem i248_7 : mm_cd 248 7 = some (.iadd, 1, 0, 0) := rfl
theorem i248_8 : mm_cd 248 8 = some (.ireturn, 1, 0, 0) := rfl
/-- SerialGateModel.payOf(I)I -/
def q248 (v1 : Int32) (s : mS) : Option mQ := bN (q246 (2 : Int32) v1 s) fun x2 s1 => rv ((1 : Int32) + x2) s1
theorem c248 {L : Nat} {xs : Nat → Int32} {v1 : Int32} {s : mS} {r : mQ} (h : q248 v1 s = some r) : ∀ d, 7 ≤ d → Cl L xs d 248 [.ref 512, .int v1] (hp s) (hr r) := by
  intro d hd
  show Ev L xs d 248 0 [(0, .ref 512), (1, .int v1)] [] (hp s) (hr r)
  unfold q248 at h
  refine Ev.iconst H248 i248_0 kI_1 ?_
  refine Ev.aload_n H248 i248_1 rfl ?_
  refine Ev.iconst H248 i248_2 kI_2 ?_
  refine Ev.iload_n H248 i248_3 rfl ?_
  refine Rd.cV2vN H248 i248_4 cal246 ob11 (Nat.le_of_ble_eq_true rfl) (Nat.le_of_ble_eq_true rfl) (Nat.lt_of_lt_of_le (by decide) hd) (fun q hq => c246 hq) h (fun x2 s1 h => ?_)
  refine Ev.iadd H248 i248_7 ?_
  exact Rd.ireturn H248 i248_8 rfl h
theorem i250_0 : mm_cd 250 0 = some (.iload_n 1, 1, 0, 0) := rfl
theorem i250_1 : mm_cd 250 1 = some (.iload_n 2, 1, 0, 0) := rfl
theorem i250_2 : mm_cd 250 2 = some (.if_icmp .eq 38, 3, 0, 0) := rfl
theorem i250_5 : mm_cd 250 5 = some (.aload_n 0, 1, 0, 0) := rfl
theorem i250_6 : mm_cd 250 6 = some (.iload_n 2, 1, 0, 0) := rfl
theorem i250_7 : mm_cd 250 7 = some (.invokevirtual 75, 3, 0, 205) := rfl
theorem i250_10 : mm_cd 250 10 = some (.ifCond .ne 26, 3, 0, 0) := rfl
theorem i250_13 : mm_cd 250 13 = some (.aload_n 0, 1, 0, 0) := rfl
theorem i250_14 : mm_cd 250 14 = some (.iload_n 2, 1, 0, 0) := rfl
theorem i250_15 : mm_cd 250 15 = some (.invokevirtual 279, 3, 0, 206) := rfl
theorem i250_18 : mm_cd 250 18 = some (.ifCond .eq 22, 3, 0, 0) := rfl
theorem i250_21 : mm_cd 250 21 = some (.aload_n 0, 1, 0, 0) := rfl
theorem i250_22 : mm_cd 250 22 = some (.iload_n 2, 1, 0, 0) := rfl
theorem i250_23 : mm_cd 250 23 = some (.iconst 3, 1, 0, 0) := rfl
theorem i250_24 : mm_cd 250 24 = some (.invokevirtual 69, 3, 0, 204) := rfl
theorem i250_27 : mm_cd 250 27 = some (.aload_n 0, 1, 0, 0) := rfl
theorem i250_28 : mm_cd 250 28 = some (.iload_n 1, 1, 0, 0) := rfl
theorem i250_29 : mm_cd 250 29 = some (.iconst 2, 1, 0, 0) := rfl
theorem i250_30 : mm_cd 250 30 = some (.invokevirtual 69, 3, 0, 204) := rfl
theorem i250_33 : mm_cd 250 33 = some (.if_icmp .le 7, 3, 0, 0) := rfl
theorem i250_36 : mm_cd 250 36 = some (.iconst 1, 1, 0, 0) := rfl
theorem i250_37 : mm_cd 250 37 = some (.goto 4, 3, 0, 0) := rfl
theorem i250_40 : mm_cd 250 40 = some (.iconst 0, 1, 0, 0) := rfl
theorem i250_41 : mm_cd 250 41 = some (.ireturn, 1, 0, 0) := rfl
def q250_36 (s : mS) : Option mQ := rv (1 : Int32) s
theorem t250_36 {L : Nat} {xs : Nat → Int32} {d : Nat} (hd : 3 ≤ d) {s : mS} {r : mQ} (h : q250_36 s = some r) : Ev L xs d 250 36 [] [] (hp s) (hr r) := by
  unfold q250_36 at h
  refine Ev.iconst H250 i250_36 kI_1 ?_
  refine Ev.goto H250 i250_37 (t := 41) (by decide) ?_
  exact Rd.ireturnK H250 i250_41 rfl (Or.inr rfl) h
/-- SerialGateModel.areConcurrent(II)Z -/
def q250 (v1 : Int32) (v2 : Int32) (s : mS) : Option mQ := if v1 = v2 then (rv (0 : Int32) s) else (bN (q205 v2 s) fun x2 s1 => if ¬ x2 = 0 then (q250_36 s1) else (bN (q206 v2 s1) fun x4 s3 => if x4 = 0 then (rv (0 : Int32) s3) else (bN (q204 v2 (3 : Int32) s3) fun x6 s5 => bN (q204 v1 (2 : Int32) s5) fun x8 s7 => if x6 ≤ x8 then (rv (0 : Int32) s7) else (q250_36 s7))))
theorem c250 {L : Nat} {xs : Nat → Int32} {v1 : Int32} {v2 : Int32} {s : mS} {r : mQ} (h : q250 v1 v2 s = some r) : ∀ d, 3 ≤ d → Cl L xs d 250 [.ref 512, .int v1, .int v2] (hp s) (hr r) := by
  intro d hd
  show Ev L xs d 250 0 [(0, .ref 512), (1, .int v1), (2, .int v2)] [] (hp s) (hr r)
  unfold q250 at h
  refine Ev.iload_n H250 i250_0 rfl ?_
  refine Ev.iload_n H250 i250_1 rfl ?_
  refine Rd.ic_eq H250 i250_2 (t := 40) (by decide) h (fun hc h => ?_) (fun hc h => ?_)
  · refine Ev.iconst H250 i250_40 kI_0 ?_
    exact Rd.ireturnK H250 i250_41 rfl (Or.inl rfl) h
  · refine Ev.aload_n H250 i250_5 rfl ?_
    refine Ev.iload_n H250 i250_6 rfl ?_
    refine Rd.cV1vN H250 i250_7 cal205 ob11 (Nat.le_of_ble_eq_true rfl) (Nat.le_of_ble_eq_true rfl) (Nat.lt_of_lt_of_le (by decide) hd) (fun q hq => c205 hq) h (fun x2 s1 h => ?_)
    refine Rd.if_ne H250 i250_10 (t := 36) (by decide) h (fun hc h => ?_) (fun hc h => ?_)
    · exact Ev.sub (l := []) rfl rfl mm_sub_n (t250_36 hd h)
    · refine Ev.aload_n H250 i250_13 rfl ?_
      refine Ev.iload_n H250 i250_14 rfl ?_
      refine Rd.cV1vN H250 i250_15 cal206 ob11 (Nat.le_of_ble_eq_true rfl) (Nat.le_of_ble_eq_true rfl) (Nat.lt_of_lt_of_le (by decide) hd) (fun q hq => c206 hq) h (fun x4 s3 h => ?_)
      refine Rd.if_eq H250 i250_18 (t := 40) (by decide) h (fun hc h => ?_) (fun hc h => ?_)
      · refine Ev.iconst H250 i250_40 kI_0 ?_
        exact Rd.ireturnK H250 i250_41 rfl (Or.inl rfl) h
      · refine Ev.aload_n H250 i250_21 rfl ?_
        refine Ev.iload_n H250 i250_22 rfl ?_
        refine Ev.iconst H250 i250_23 kI_3 ?_
        refine Rd.cV2vN H250 i250_24 cal204 ob11 (Nat.le_of_ble_eq_true rfl) (Nat.le_of_ble_eq_true rfl) (Nat.lt_of_lt_of_le (by decide) hd) (fun q hq => c204 hq) h (fun x6 s5 h => ?_)
        refine Ev.aload_n H250 i250_27 rfl ?_
        refine Ev.iload_n H250 i250_28 rfl ?_
        refine Ev.iconst H250 i250_29 kI_2 ?_
        refine Rd.cV2vN H250 i250_30 cal204 ob11 (Nat.le_of_ble_eq_true rfl) (Nat.le_of_ble_eq_true rfl) (Nat.lt_of_lt_of_le (by decide) hd) (fun q hq => c204 hq) h (fun x8 s7 h => ?_)
        refine Rd.ic_le H250 i250_33 (t := 40) (by decide) h (fun hc h => ?_) (fun hc h => ?_)
        · refine Ev.iconst H250 i250_40 kI_0 ?_
          exact Rd.ireturnK H250 i250_41 rfl (Or.inl rfl) h
        · exact Ev.sub (l := []) rfl rfl mm_sub_n (t250_36 hd h)
theorem i252_0 : mm_cd 252 0 = some (.aload_n 0, 1, 0, 0) := rfl
theorem i252_1 : mm_cd 252 1 = some (.iload_n 1, 1, 0, 0) := rfl
theorem i252_2 : mm_cd 252 2 = some (.invokevirtual 75, 3, 0, 205) := rfl
theorem i252_5 : mm_cd 252 5 = some (.ifCond .eq 25, 3, 0, 0) := rfl
theorem i252_8 : mm_cd 252 8 = some (.aload_n 0, 1, 0, 0) := rfl
theorem i252_9 : mm_cd 252 9 = some (.iload_n 1, 1, 0, 0) := rfl
theorem i252_10 : mm_cd 252 10 = some (.invokevirtual 282, 3, 0, 207) := rfl
theorem i252_13 : mm_cd 252 13 = some (.ifCond .eq 17, 3, 0, 0) := rfl
theorem i252_16 : mm_cd 252 16 = some (.aload_n 0, 1, 0, 0) := rfl
theorem i252_17 : mm_cd 252 17 = some (.iload_n 1, 1, 0, 0) := rfl
theorem i252_18 : mm_cd 252 18 = some (.bipush 10, 2, 0, 0) := rfl
theorem i252_20 : mm_cd 252 20 = some (.invokevirtual 69, 3, 0, 204) := rfl
theorem i252_23 : mm_cd 252 23 = some (.ifCond .ne 7, 3, 0, 0) := rfl
theorem i252_26 : mm_cd 252 26 = some (.iconst 1, 1, 0, 0) := rfl
theorem i252_27 : mm_cd 252 27 = some (.goto 4, 3, 0, 0) := rfl
theorem i252_30 : mm_cd 252 30 = some (.iconst 0, 1, 0, 0) := rfl
theorem i252_31 : mm_cd 252 31 = some (.istore_n 2, 1, 0, 0) := rfl
theorem i252_32 : mm_cd 252 32 = some (.iconst 0, 1, 0, 0) := rfl
theorem i252_33 : mm_cd 252 33 = some (.istore_n 3, 1, 0, 0) := rfl
theorem i252_34 : mm_cd 252 34 = some (.iload_n 3, 1, 0, 0) := rfl
theorem i252_35 : mm_cd 252 35 = some (.bipush 8, 2, 0, 0) := rfl
theorem i252_37 : mm_cd 252 37 = some (.if_icmp .ge 50, 3, 0, 0) := rfl
theorem i252_40 : mm_cd 252 40 = some (.iload_n 2, 1, 0, 0) := rfl
theorem i252_41 : mm_cd 252 41 = some (.ifCond .eq 38, 3, 0, 0) := rfl
theorem i252_44 : mm_cd 252 44 = some (.aload_n 0, 1, 0, 0) := rfl
theorem i252_45 : mm_cd 252 45 = some (.iload_n 3, 1, 0, 0) := rfl
theorem i252_46 : mm_cd 252 46 = some (.invokevirtual 75, 3, 0, 205) := rfl
theorem i252_49 : mm_cd 252 49 = some (.ifCond .eq 26, 3, 0, 0) := rfl
theorem i252_52 : mm_cd 252 52 = some (.aload_n 0, 1, 0, 0) := rfl
theorem i252_53 : mm_cd 252 53 = some (.iload_n 3, 1, 0, 0) := rfl
theorem i252_54 : mm_cd 252 54 = some (.invokevirtual 282, 3, 0, 207) := rfl
theorem i252_57 : mm_cd 252 57 = some (.ifCond .ne 18, 3, 0, 0) := rfl
theorem i252_60 : mm_cd 252 60 = some (.aload_n 0, 1, 0, 0) := rfl
theorem i252_61 : mm_cd 252 61 = some (.iload_n 3, 1, 0, 0) := rfl
theorem i252_62 : mm_cd 252 62 = some (.iconst 2, 1, 0, 0) := rfl
theorem i252_63 : mm_cd 252 63 = some (.invokevirtual 69, 3, 0, 204) := rfl
theorem i252_66 : mm_cd 252 66 = some (.aload_n 0, 1, 0, 0) := rfl
theorem i252_67 : mm_cd 252 67 = some (.iload_n 1, 1, 0, 0) := rfl
theorem i252_68 : mm_cd 252 68 = some (.iconst 2, 1, 0, 0) := rfl
theorem i252_69 : mm_cd 252 69 = some (.invokevirtual 69, 3, 0, 204) := rfl
theorem i252_72 : mm_cd 252 72 = some (.if_icmp .lt 7, 3, 0, 0) := rfl
theorem i252_75 : mm_cd 252 75 = some (.iconst 1, 1, 0, 0) := rfl
theorem i252_76 : mm_cd 252 76 = some (.goto 4, 3, 0, 0) := rfl
theorem i252_79 : mm_cd 252 79 = some (.iconst 0, 1, 0, 0) := rfl
theorem i252_80 : mm_cd 252 80 = some (.istore_n 2, 1, 0, 0) := rfl
theorem i252_81 : mm_cd 252 81 = some (.iinc 3 1, 3, 0, 0) := rfl
theorem i252_84 : mm_cd 252 84 = some (.goto (-50), 3, 0, 0) := rfl
theorem i252_87 : mm_cd 252 87 = some (.iload_n 2, 1, 0, 0) := rfl
theorem i252_88 : mm_cd 252 88 = some (.ireturn, 1, 0, 0) := rfl
def q252_80 (k34 : Int32 → Int32 → Int32 → mS → Option mQ) (v1 : Int32) (v3 : Int32) (y0 : Int32) (s : mS) : Option mQ := bx (v3 + (1 : Int32)) fun x1 => k34 v1 y0 x1 s
theorem t252_80 {L : Nat} {xs : Nat → Int32} {d : Nat} {k34 : Int32 → Int32 → Int32 → mS → Option mQ} (hk34 : ∀ (v1 : Int32) (v2 : Int32) (v3 : Int32) (s : mS) (r : mQ), k34 v1 v2 v3 s = some r → Ev L xs d 252 34 [(0, .ref 512), (1, .int v1), (2, .int v2), (3, .int v3)] [] (hp s) (hr r)) (hd : 3 ≤ d) {v1 : Int32} {v3 : Int32} {y0 : Int32} {s : mS} {r : mQ} (h : q252_80 k34 v1 v3 y0 s = some r) : Ev L xs d 252 80 [(0, .ref 512), (1, .int v1), (3, .int v3)] [.int y0] (hp s) (hr r) := by
  unfold q252_80 at h
  refine Ev.istore_n H252 i252_80 (Nat.le_of_ble_eq_true rfl) (lv2 := [(2, .int y0), (0, .ref 512), (1, .int v1), (3, .int v3)]) rfl ?_
  refine Rd.iinc H252 i252_81 (Nat.le_of_ble_eq_true rfl) rfl kI_1 (lv2 := fun x1 => [(3, .int x1), (2, .int y0), (0, .ref 512), (1, .int v1)]) (fun _ => rfl) h (fun x1 h => ?_)
  refine Ev.goto H252 i252_84 (t := 34) (by decide) ?_
  exact Ev.sub (l := [(0, .ref 512), (1, .int v1), (2, .int y0), (3, .int x1)]) rfl rfl (mm_sub_c rfl (mm_sub_c rfl (mm_sub_c rfl (mm_sub_c rfl mm_sub_n)))) (hk34 _ _ _ _ _ h)
def q252_79 (k34 : Int32 → Int32 → Int32 → mS → Option mQ) (v1 : Int32) (v3 : Int32) (s : mS) : Option mQ := q252_80 k34 v1 v3 (0 : Int32) s
theorem t252_79 {L : Nat} {xs : Nat → Int32} {d : Nat} {k34 : Int32 → Int32 → Int32 → mS → Option mQ} (hk34 : ∀ (v1 : Int32) (v2 : Int32) (v3 : Int32) (s : mS) (r : mQ), k34 v1 v2 v3 s = some r → Ev L xs d 252 34 [(0, .ref 512), (1, .int v1), (2, .int v2), (3, .int v3)] [] (hp s) (hr r)) (hd : 3 ≤ d) {v1 : Int32} {v3 : Int32} {s : mS} {r : mQ} (h : q252_79 k34 v1 v3 s = some r) : Ev L xs d 252 79 [(0, .ref 512), (1, .int v1), (3, .int v3)] [] (hp s) (hr r) := by
  unfold q252_79 at h
  refine Ev.iconst H252 i252_79 kI_0 ?_
  exact Ev.sub (l := [(0, .ref 512), (1, .int v1), (3, .int v3)]) rfl rfl (mm_sub_c rfl (mm_sub_c rfl (mm_sub_c rfl mm_sub_n))) (t252_80 (k34 := k34) hk34 hd h)
def q252_75 (k34 : Int32 → Int32 → Int32 → mS → Option mQ) (v1 : Int32) (v3 : Int32) (s : mS) : Option mQ := q252_80 k34 v1 v3 (1 : Int32) s
theorem t252_75 {L : Nat} {xs : Nat → Int32} {d : Nat} {k34 : Int32 → Int32 → Int32 → mS → Option mQ} (hk34 : ∀ (v1 : Int32) (v2 : Int32) (v3 : Int32) (s : mS) (r : mQ), k34 v1 v2 v3 s = some r → Ev L xs d 252 34 [(0, .ref 512), (1, .int v1), (2, .int v2), (3, .int v3)] [] (hp s) (hr r)) (hd : 3 ≤ d) {v1 : Int32} {v3 : Int32} {s : mS} {r : mQ} (h : q252_75 k34 v1 v3 s = some r) : Ev L xs d 252 75 [(0, .ref 512), (1, .int v1), (3, .int v3)] [] (hp s) (hr r) := by
  unfold q252_75 at h
  refine Ev.iconst H252 i252_75 kI_1 ?_
  refine Ev.goto H252 i252_76 (t := 80) (by decide) ?_
  exact Ev.sub (l := [(0, .ref 512), (1, .int v1), (3, .int v3)]) rfl rfl (mm_sub_c rfl (mm_sub_c rfl (mm_sub_c rfl mm_sub_n))) (t252_80 (k34 := k34) hk34 hd h)
def q252_34 : Nat → Int32 → Int32 → Int32 → mS → Option mQ
  | 0, _, _, _, _ => none
  | n + 1, v1, v2, v3, s => if (8 : Int32) ≤ v3 then (gB v2 <| rv v2 s) else (if v2 = 0 then (q252_79 (q252_34 n) v1 v3 s) else (bN (q205 v3 s) fun x3 s2 => if x3 = 0 then (q252_75 (q252_34 n) v1 v3 s2) else (bN (q207 v3 s2) fun x5 s4 => if ¬ x5 = 0 then (q252_75 (q252_34 n) v1 v3 s4) else (bN (q204 v3 (2 : Int32) s4) fun x7 s6 => bN (q204 v1 (2 : Int32) s6) fun x9 s8 => if x7 < x9 then (q252_79 (q252_34 n) v1 v3 s8) else (q252_75 (q252_34 n) v1 v3 s8)))))
theorem t252_34 {L : Nat} {xs : Nat → Int32} {d : Nat} (hd : 3 ≤ d) : ∀ (n : Nat) (v1 : Int32) (v2 : Int32) (v3 : Int32) (s : mS) (r : mQ), q252_34 n v1 v2 v3 s = some r → Ev L xs d 252 34 [(0, .ref 512), (1, .int v1), (2, .int v2), (3, .int v3)] [] (hp s) (hr r) := by
  intro n
  induction n with
  | zero => intro v1 v2 v3 s r h; rw [q252_34] at h; cases h
  | succ n ih =>
    intro v1 v2 v3 s r h
    rw [q252_34] at h
    refine Ev.iload_n H252 i252_34 rfl ?_
    refine Ev.bipush H252 i252_35 kB_8 ?_
    refine Rd.ic_ge H252 i252_37 (t := 87) (by decide) h (fun hc h => ?_) (fun hc h => ?_)
    · refine Ev.iload_n H252 i252_87 rfl ?_
      exact Rd.ireturnZ H252 i252_88 rfl h
    · refine Ev.iload_n H252 i252_40 rfl ?_
      refine Rd.if_eq H252 i252_41 (t := 79) (by decide) h (fun hc h => ?_) (fun hc h => ?_)
      · exact Ev.sub (l := [(0, .ref 512), (1, .int v1), (3, .int v3)]) rfl rfl (mm_sub_c rfl (mm_sub_c rfl (mm_sub_c rfl mm_sub_n))) (t252_79 (k34 := (q252_34 n)) (fun _ _ _ _ _ h => ih _ _ _ _ _ h) hd h)
      · refine Ev.aload_n H252 i252_44 rfl ?_
        refine Ev.iload_n H252 i252_45 rfl ?_
        refine Rd.cV1vN H252 i252_46 cal205 ob11 (Nat.le_of_ble_eq_true rfl) (Nat.le_of_ble_eq_true rfl) (Nat.lt_of_lt_of_le (by decide) hd) (fun q hq => c205 hq) h (fun x3 s2 h => ?_)
        refine Rd.if_eq H252 i252_49 (t := 75) (by decide) h (fun hc h => ?_) (fun hc h => ?_)
        · exact Ev.sub (l := [(0, .ref 512), (1, .int v1), (3, .int v3)]) rfl rfl (mm_sub_c rfl (mm_sub_c rfl (mm_sub_c rfl mm_sub_n))) (t252_75 (k34 := (q252_34 n)) (fun _ _ _ _ _ h => ih _ _ _ _ _ h) hd h)
        · refine Ev.aload_n H252 i252_52 rfl ?_
          refine Ev.iload_n H252 i252_53 rfl ?_
          refine Rd.cV1vN H252 i252_54 cal207 ob11 (Nat.le_of_ble_eq_true rfl) (Nat.le_of_ble_eq_true rfl) (Nat.lt_of_lt_of_le (by decide) hd) (fun q hq => c207 hq) h (fun x5 s4 h => ?_)
          refine Rd.if_ne H252 i252_57 (t := 75) (by decide) h (fun hc h => ?_) (fun hc h => ?_)
          · exact Ev.sub (l := [(0, .ref 512), (1, .int v1), (3, .int v3)]) rfl rfl (mm_sub_c rfl (mm_sub_c rfl (mm_sub_c rfl mm_sub_n))) (t252_75 (k34 := (q252_34 n)) (fun _ _ _ _ _ h => ih _ _ _ _ _ h) hd h)
          · refine Ev.aload_n H252 i252_60 rfl ?_
            refine Ev.iload_n H252 i252_61 rfl ?_
            refine Ev.iconst H252 i252_62 kI_2 ?_
            refine Rd.cV2vN H252 i252_63 cal204 ob11 (Nat.le_of_ble_eq_true rfl) (Nat.le_of_ble_eq_true rfl) (Nat.lt_of_lt_of_le (by decide) hd) (fun q hq => c204 hq) h (fun x7 s6 h => ?_)
            refine Ev.aload_n H252 i252_66 rfl ?_
            refine Ev.iload_n H252 i252_67 rfl ?_
            refine Ev.iconst H252 i252_68 kI_2 ?_
            refine Rd.cV2vN H252 i252_69 cal204 ob11 (Nat.le_of_ble_eq_true rfl) (Nat.le_of_ble_eq_true rfl) (Nat.lt_of_lt_of_le (by decide) hd) (fun q hq => c204 hq) h (fun x9 s8 h => ?_)
            refine Rd.ic_lt H252 i252_72 (t := 79) (by decide) h (fun hc h => ?_) (fun hc h => ?_)
            · exact Ev.sub (l := [(0, .ref 512), (1, .int v1), (3, .int v3)]) rfl rfl (mm_sub_c rfl (mm_sub_c rfl (mm_sub_c rfl mm_sub_n))) (t252_79 (k34 := (q252_34 n)) (fun _ _ _ _ _ h => ih _ _ _ _ _ h) hd h)
            · exact Ev.sub (l := [(0, .ref 512), (1, .int v1), (3, .int v3)]) rfl rfl (mm_sub_c rfl (mm_sub_c rfl (mm_sub_c rfl mm_sub_n))) (t252_75 (k34 := (q252_34 n)) (fun _ _ _ _ _ h => ih _ _ _ _ _ h) hd h)
def q252_31 (v1 : Int32) (y0 : Int32) (s : mS) : Option mQ := q252_34 10000 v1 y0 (0 : Int32) s
theorem t252_31 {L : Nat} {xs : Nat → Int32} {d : Nat} (hd : 3 ≤ d) {v1 : Int32} {y0 : Int32} {s : mS} {r : mQ} (h : q252_31 v1 y0 s = some r) : Ev L xs d 252 31 [(0, .ref 512), (1, .int v1)] [.int y0] (hp s) (hr r) := by
  unfold q252_31 at h
  refine Ev.istore_n H252 i252_31 (Nat.le_of_ble_eq_true rfl) (lv2 := [(2, .int y0), (0, .ref 512), (1, .int v1)]) rfl ?_
  refine Ev.iconst H252 i252_32 kI_0 ?_
  refine Ev.istore_n H252 i252_33 (Nat.le_of_ble_eq_true rfl) (lv2 := [(3, .int (0 : Int32)), (2, .int y0), (0, .ref 512), (1, .int v1)]) rfl ?_
  exact Ev.sub (l := [(0, .ref 512), (1, .int v1), (2, .int y0), (3, .int (0 : Int32))]) rfl rfl (mm_sub_c rfl (mm_sub_c rfl (mm_sub_c rfl (mm_sub_c rfl mm_sub_n)))) (t252_34 hd 10000 _ _ _ _ _ h)
def q252_30 (v1 : Int32) (s : mS) : Option mQ := q252_31 v1 (0 : Int32) s
theorem t252_30 {L : Nat} {xs : Nat → Int32} {d : Nat} (hd : 3 ≤ d) {v1 : Int32} {s : mS} {r : mQ} (h : q252_30 v1 s = some r) : Ev L xs d 252 30 [(0, .ref 512), (1, .int v1)] [] (hp s) (hr r) := by
  unfold q252_30 at h
  refine Ev.iconst H252 i252_30 kI_0 ?_
  exact Ev.sub (l := [(0, .ref 512), (1, .int v1)]) rfl rfl (mm_sub_c rfl (mm_sub_c rfl mm_sub_n)) (t252_31 hd h)
/-- SerialGateModel.isSafe(I)Z -/
def q252 (v1 : Int32) (s : mS) : Option mQ := bN (q205 v1 s) fun x11 s10 => if x11 = 0 then (q252_30 v1 s10) else (bN (q207 v1 s10) fun x13 s12 => if x13 = 0 then (q252_30 v1 s12) else (bN (q204 v1 (10 : Int32) s12) fun x15 s14 => if ¬ x15 = 0 then (q252_30 v1 s14) else (q252_31 v1 (1 : Int32) s14)))
theorem c252 {L : Nat} {xs : Nat → Int32} {v1 : Int32} {s : mS} {r : mQ} (h : q252 v1 s = some r) : ∀ d, 3 ≤ d → Cl L xs d 252 [.ref 512, .int v1] (hp s) (hr r) := by
  intro d hd
  show Ev L xs d 252 0 [(0, .ref 512), (1, .int v1)] [] (hp s) (hr r)
  unfold q252 at h
  refine Ev.aload_n H252 i252_0 rfl ?_
  refine Ev.iload_n H252 i252_1 rfl ?_
  refine Rd.cV1vN H252 i252_2 cal205 ob11 (Nat.le_of_ble_eq_true rfl) (Nat.le_of_ble_eq_true rfl) (Nat.lt_of_lt_of_le (by decide) hd) (fun q hq => c205 hq) h (fun x11 s10 h => ?_)
  refine Rd.if_eq H252 i252_5 (t := 30) (by decide) h (fun hc h => ?_) (fun hc h => ?_)
  · exact Ev.sub (l := [(0, .ref 512), (1, .int v1)]) rfl rfl (mm_sub_c rfl (mm_sub_c rfl mm_sub_n)) (t252_30 hd h)
  · refine Ev.aload_n H252 i252_8 rfl ?_
    refine Ev.iload_n H252 i252_9 rfl ?_
    refine Rd.cV1vN H252 i252_10 cal207 ob11 (Nat.le_of_ble_eq_true rfl) (Nat.le_of_ble_eq_true rfl) (Nat.lt_of_lt_of_le (by decide) hd) (fun q hq => c207 hq) h (fun x13 s12 h => ?_)
    refine Rd.if_eq H252 i252_13 (t := 30) (by decide) h (fun hc h => ?_) (fun hc h => ?_)
    · exact Ev.sub (l := [(0, .ref 512), (1, .int v1)]) rfl rfl (mm_sub_c rfl (mm_sub_c rfl mm_sub_n)) (t252_30 hd h)
    · refine Ev.aload_n H252 i252_16 rfl ?_
      refine Ev.iload_n H252 i252_17 rfl ?_
      refine Ev.bipush H252 i252_18 kB_10 ?_
      refine Rd.cV2vN H252 i252_20 cal204 ob11 (Nat.le_of_ble_eq_true rfl) (Nat.le_of_ble_eq_true rfl) (Nat.lt_of_lt_of_le (by decide) hd) (fun q hq => c204 hq) h (fun x15 s14 h => ?_)
      refine Rd.if_ne H252 i252_23 (t := 30) (by decide) h (fun hc h => ?_) (fun hc h => ?_)
      · exact Ev.sub (l := [(0, .ref 512), (1, .int v1)]) rfl rfl (mm_sub_c rfl (mm_sub_c rfl mm_sub_n)) (t252_30 hd h)
      · refine Ev.iconst H252 i252_26 kI_1 ?_
        refine Ev.goto H252 i252_27 (t := 31) (by decide) ?_
        exact Ev.sub (l := [(0, .ref 512), (1, .int v1)]) rfl rfl (mm_sub_c rfl (mm_sub_c rfl mm_sub_n)) (t252_31 hd h)
theorem i254_0 : mm_cd 254 0 = some (.aload_n 0, 1, 0, 0) := rfl
theorem i254_1 : mm_cd 254 1 = some (.iload_n 1, 1, 0, 0) := rfl
theorem i254_2 : mm_cd 254 2 = some (.iconst 1, 1, 0, 0) := rfl
theorem i254_3 : mm_cd 254 3 = some (.invokevirtual 69, 3, 0, 204) := rfl
theorem i254_6 : mm_cd 254 6 = some (.istore_n 3, 1, 0, 0) := rfl
theorem i254_7 : mm_cd 254 7 = some (.aload_n 0, 1, 0, 0) := rfl
theorem i254_8 : mm_cd 254 8 = some (.iload_n 1, 1, 0, 0) := rfl
theorem i254_9 : mm_cd 254 9 = some (.iload_n 2, 1, 0, 0) := rfl
theorem i254_10 : mm_cd 254 10 = some (.invokevirtual 285, 3, 0, 249) := rfl
theorem i254_13 : mm_cd 254 13 = some (.aload_n 0, 1, 0, 0) := rfl
theorem i254_14 : mm_cd 254 14 = some (.iload_n 1, 1, 0, 0) := rfl
theorem i254_15 : mm_cd 254 15 = some (.invokevirtual 288, 3, 0, 253) := rfl
theorem i254_18 : mm_cd 254 18 = some (.aload_n 0, 1, 0, 0) := rfl
theorem i254_19 : mm_cd 254 19 = some (.getfield 13, 3, ((11 : Nat) : Int), 1) := rfl
theorem i254_22 : mm_cd 254 22 = some (.iload_n 3, 1, 0, 0) := rfl
theorem i254_23 : mm_cd 254 23 = some (.iconst 3, 1, 0, 0) := rfl
theorem i254_24 : mm_cd 254 24 = some (.invokestatic 63, 3, 0, 201) := rfl
theorem i254_27 : mm_cd 254 27 = some (.bipush 99, 2, 0, 0) := rfl
theorem i254_29 : mm_cd 254 29 = some (.aload_n 0, 1, 0, 0) := rfl
theorem i254_30 : mm_cd 254 30 = some (.iload_n 3, 1, 0, 0) := rfl
theorem i254_31 : mm_cd 254 31 = some (.iconst 3, 1, 0, 0) := rfl
theorem i254_32 : mm_cd 254 32 = some (.invokevirtual 72, 3, 0, 202) := rfl
theorem i254_35 : mm_cd 254 35 = some (.iconst 1, 1, 0, 0) := rfl
theorem i254_36 : mm_cd 254 36 = some (.iadd, 1, 0, 0) := rfl
theorem i254_37 : mm_cd 254 37 = some (.invokestatic 149, 3, 3, 0) := rfl
theorem i254_40 : mm_cd 254 40 = some (.iastore, 1, 0, 0) := rfl
theorem i254_41 : mm_cd 254 41 = some (.aload_n 0, 1, 0, 0) := rfl
theorem i254_42 : mm_cd 254 42 = some (.dup, 1, 0, 0) := rfl
theorem i254_43 : mm_cd 254 43 = some (.getfield 292, 3, ((11 : Nat) : Int), 18) := rfl
theorem i254_46 : mm_cd 254 46 = some (.iconst 1, 1, 0, 0) := rfl
theorem i254_47 : mm_cd 254 47 = some (.iload_n 1, 1, 0, 0) := rfl
theorem i254_48 : mm_cd 254 48 = some (.ishl, 1, 0, 0) := rfl
theorem i254_49 : mm_cd 254 49 = some (.ior, 1, 0, 0) := rfl
theorem i254_50 : mm_cd 254 50 = some (.putfield 292, 3, ((11 : Nat) : Int), 18) := rfl
theorem i254_53 : mm_cd 254 53 = some (.return_, 1, 0, 0) := rfl
/-- SerialGateModel.isAborted(II)V -/
def q254 (v1 : Int32) (v2 : Int32) (s : mS) : Option mQ := bN (q204 v1 (1 : Int32) s) fun x2 s1 => bM (q249 v1 v2 s1) fun s3 => bM (q253 v1 s3) fun s4 => bN (q201 x2 (3 : Int32) s4) fun x6 s5 => bN (q202 x2 (3 : Int32) s5) fun x8 s7 => gA 2468 x6 <| sp (sI s7 513 x6.toNatClampNeg (mnI (99 : Int32) (x8 + (1 : Int32)))) fun s9 => sp (sI s9 512 18 ((s9.1 512 18) ||| (shlI (1 : Int32) v1))) fun s10 => ru s10
theorem c254 {L : Nat} {xs : Nat → Int32} {v1 : Int32} {v2 : Int32} {s : mS} {r : mQ} (h : q254 v1 v2 s = some r) : ∀ d, 3 ≤ d → Cl L xs d 254 [.ref 512, .int v1, .int v2] (hp s) (hr r) := by
  intro d hd
  show Ev L xs d 254 0 [(0, .ref 512), (1, .int v1), (2, .int v2)] [] (hp s) (hr r)
  unfold q254 at h
  refine Ev.aload_n H254 i254_0 rfl ?_
  refine Ev.iload_n H254 i254_1 rfl ?_
  refine Ev.iconst H254 i254_2 kI_1 ?_
  refine Rd.cV2vN H254 i254_3 cal204 ob11 (Nat.le_of_ble_eq_true rfl) (Nat.le_of_ble_eq_true rfl) (Nat.lt_of_lt_of_le (by decide) hd) (fun q hq => c204 hq) h (fun x2 s1 h => ?_)
  refine Ev.istore_n H254 i254_6 (Nat.le_of_ble_eq_true rfl) (lv2 := [(3, .int x2), (0, .ref 512), (1, .int v1), (2, .int v2)]) rfl ?_
  refine Ev.aload_n H254 i254_7 rfl ?_
  refine Ev.iload_n H254 i254_8 rfl ?_
  refine Ev.iload_n H254 i254_9 rfl ?_
  refine Rd.cV2uN H254 i254_10 cal249 ob11 (Nat.le_of_ble_eq_true rfl) (Nat.le_of_ble_eq_true rfl) (Nat.lt_of_lt_of_le (by decide) hd) (fun q hq => c249 hq) h (fun s3 h => ?_)
  refine Ev.aload_n H254 i254_13 rfl ?_
  refine Ev.iload_n H254 i254_14 rfl ?_
  refine Rd.cV1uN H254 i254_15 cal253 ob11 (Nat.le_of_ble_eq_true rfl) (Nat.le_of_ble_eq_true rfl) (Nat.lt_of_lt_of_le (by decide) hd) (fun q hq => c253 hq) h (fun s4 h => ?_)
  refine Ev.aload_n H254 i254_18 rfl ?_
  refine Rd.getR H254 i254_19 ob11 rfl ?_
  refine Ev.iload_n H254 i254_22 rfl ?_
  refine Ev.iconst H254 i254_23 kI_3 ?_
  refine Rd.cS2vN H254 i254_24 cal201 (Nat.le_of_ble_eq_true rfl) (Nat.le_of_ble_eq_true rfl) (Nat.lt_of_lt_of_le (by decide) hd) (fun q hq => c201 hq) h (fun x6 s5 h => ?_)
  refine Ev.bipush H254 i254_27 kB_99 ?_
  refine Ev.aload_n H254 i254_29 rfl ?_
  refine Ev.iload_n H254 i254_30 rfl ?_
  refine Ev.iconst H254 i254_31 kI_3 ?_
  refine Rd.cV2vN H254 i254_32 cal202 ob11 (Nat.le_of_ble_eq_true rfl) (Nat.le_of_ble_eq_true rfl) (Nat.lt_of_lt_of_le (by decide) hd) (fun q hq => c202 hq) h (fun x8 s7 h => ?_)
  refine Ev.iconst H254 i254_35 kI_1 ?_
  refine Ev.iadd H254 i254_36 ?_
  refine Rd.min H254 i254_37 (Nat.le_of_ble_eq_true rfl) ?_
  refine Rd.iastore H254 i254_40 ar_513 h (fun s9 h => ?_)
  refine Ev.aload_n H254 i254_41 rfl ?_
  refine Ev.dup H254 i254_42 rfl ?_
  refine Rd.getI H254 i254_43 ob11 rfl ?_
  refine Ev.iconst H254 i254_46 kI_1 ?_
  refine Ev.iload_n H254 i254_47 rfl ?_
  refine Rd.ishl H254 i254_48 ?_
  refine Ev.ior H254 i254_49 ?_
  refine Rd.putI H254 i254_50 ob11 rfl ty11_18.1 ty11_18.2 h (fun s10 h => ?_)
  exact Rd.return_ H254 i254_53 rfl h
theorem i255_0 : mm_cd 255 0 = some (.aload_n 0, 1, 0, 0) := rfl
theorem i255_1 : mm_cd 255 1 = some (.iload_n 1, 1, 0, 0) := rfl
theorem i255_2 : mm_cd 255 2 = some (.iconst 0, 1, 0, 0) := rfl
theorem i255_3 : mm_cd 255 3 = some (.invokevirtual 69, 3, 0, 204) := rfl
theorem i255_6 : mm_cd 255 6 = some (.ifCond .ne 7, 3, 0, 0) := rfl
theorem i255_9 : mm_cd 255 9 = some (.iconst 0, 1, 0, 0) := rfl
theorem i255_10 : mm_cd 255 10 = some (.goto 8, 3, 0, 0) := rfl
theorem i255_13 : mm_cd 255 13 = some (.aload_n 0, 1, 0, 0) := rfl
theorem i255_14 : mm_cd 255 14 = some (.iload_n 1, 1, 0, 0) := rfl
theorem i255_15 : mm_cd 255 15 = some (.invokevirtual 295, 3, 0, 251) := rfl
theorem i255_18 : mm_cd 255 18 = some (.istore_n 2, 1, 0, 0) := rfl
theorem i255_19 : mm_cd 255 19 = some (.iload_n 2, 1, 0, 0) := rfl
theorem i255_20 : mm_cd 255 20 = some (.ifCond .eq 21, 3, 0, 0) := rfl
theorem i255_23 : mm_cd 255 23 = some (.aload_n 0, 1, 0, 0) := rfl
theorem i255_24 : mm_cd 255 24 = some (.iload_n 1, 1, 0, 0) := rfl
theorem i255_25 : mm_cd 255 25 = some (.invokevirtual 279, 3, 0, 206) := rfl
theorem i255_28 : mm_cd 255 28 = some (.ifCond .eq 15, 3, 0, 0) := rfl
theorem i255_31 : mm_cd 255 31 = some (.iload_n 2, 1, 0, 0) := rfl
theorem i255_32 : mm_cd 255 32 = some (.aload_n 0, 1, 0, 0) := rfl
theorem i255_33 : mm_cd 255 33 = some (.iload_n 1, 1, 0, 0) := rfl
theorem i255_34 : mm_cd 255 34 = some (.iconst 3, 1, 0, 0) := rfl
theorem i255_35 : mm_cd 255 35 = some (.invokevirtual 69, 3, 0, 204) := rfl
theorem i255_38 : mm_cd 255 38 = some (.if_icmp .lt 5, 3, 0, 0) := rfl
theorem i255_41 : mm_cd 255 41 = some (.iconst (-1), 1, 0, 0) := rfl
theorem i255_42 : mm_cd 255 42 = some (.ireturn, 1, 0, 0) := rfl
theorem i255_43 : mm_cd 255 43 = some (.aload_n 0, 1, 0, 0) := rfl
theorem i255_44 : mm_cd 255 44 = some (.iload_n 1, 1, 0, 0) := rfl
theorem i255_45 : mm_cd 255 45 = some (.invokevirtual 75, 3, 0, 205) := rfl
theorem i255_48 : mm_cd 255 48 = some (.ifCond .eq 27, 3, 0, 0) := rfl
theorem i255_51 : mm_cd 255 51 = some (.aload_n 0, 1, 0, 0) := rfl
theorem i255_52 : mm_cd 255 52 = some (.iload_n 1, 1, 0, 0) := rfl
theorem i255_53 : mm_cd 255 53 = some (.bipush 9, 2, 0, 0) := rfl
theorem i255_55 : mm_cd 255 55 = some (.invokevirtual 69, 3, 0, 204) := rfl
theorem i255_58 : mm_cd 255 58 = some (.ifCond .le 17, 3, 0, 0) := rfl
theorem i255_61 : mm_cd 255 61 = some (.iload_n 2, 1, 0, 0) := rfl
theorem i255_62 : mm_cd 255 62 = some (.aload_n 0, 1, 0, 0) := rfl
theorem i255_63 : mm_cd 255 63 = some (.iload_n 1, 1, 0, 0) := rfl
theorem i255_64 : mm_cd 255 64 = some (.bipush 9, 2, 0, 0) := rfl
theorem i255_66 : mm_cd 255 66 = some (.invokevirtual 69, 3, 0, 204) := rfl
theorem i255_69 : mm_cd 255 69 = some (.if_icmp .gt 6, 3, 0, 0) := rfl
theorem i255_72 : mm_cd 255 72 = some (.bipush 8, 2, 0, 0) := rfl
theorem i255_74 : mm_cd 255 74 = some (.ireturn, 1, 0, 0) := rfl
theorem i255_75 : mm_cd 255 75 = some (.iconst (-1), 1, 0, 0) := rfl
theorem i255_76 : mm_cd 255 76 = some (.istore_n 3, 1, 0, 0) := rfl
theorem i255_77 : mm_cd 255 77 = some (.bipush 7, 2, 0, 0) := rfl
theorem i255_79 : mm_cd 255 79 = some (.istore 4, 2, 0, 0) := rfl
theorem i255_81 : mm_cd 255 81 = some (.iload 4, 2, 0, 0) := rfl
theorem i255_83 : mm_cd 255 83 = some (.ifCond .lt 100, 3, 0, 0) := rfl
theorem i255_86 : mm_cd 255 86 = some (.aload_n 0, 1, 0, 0) := rfl
theorem i255_87 : mm_cd 255 87 = some (.iload 4, 2, 0, 0) := rfl
theorem i255_89 : mm_cd 255 89 = some (.bipush 7, 2, 0, 0) := rfl
theorem i255_91 : mm_cd 255 91 = some (.invokevirtual 69, 3, 0, 204) := rfl
theorem i255_94 : mm_cd 255 94 = some (.iload_n 1, 1, 0, 0) := rfl
theorem i255_95 : mm_cd 255 95 = some (.invokestatic 79, 3, 0, 190) := rfl
theorem i255_98 : mm_cd 255 98 = some (.ifCond .eq 64, 3, 0, 0) := rfl
theorem i255_101 : mm_cd 255 101 = some (.aload_n 0, 1, 0, 0) := rfl
theorem i255_102 : mm_cd 255 102 = some (.iload 4, 2, 0, 0) := rfl
theorem i255_104 : mm_cd 255 104 = some (.invokevirtual 75, 3, 0, 205) := rfl
theorem i255_107 : mm_cd 255 107 = some (.ifCond .ne 11, 3, 0, 0) := rfl
theorem i255_110 : mm_cd 255 110 = some (.aload_n 0, 1, 0, 0) := rfl
theorem i255_111 : mm_cd 255 111 = some (.iload_n 1, 1, 0, 0) := rfl
theorem i255_112 : mm_cd 255 112 = some (.invokevirtual 75, 3, 0, 205) := rfl
theorem i255_115 : mm_cd 255 115 = some (.ifCond .eq 47, 3, 0, 0) := rfl
theorem i255_118 : mm_cd 255 118 = some (.aload_n 0, 1, 0, 0) := rfl
theorem i255_119 : mm_cd 255 119 = some (.iload 4, 2, 0, 0) := rfl
theorem i255_121 : mm_cd 255 121 = some (.invokevirtual 279, 3, 0, 206) := rfl
theorem i255_124 : mm_cd 255 124 = some (.ifCond .eq 14, 3, 0, 0) := rfl
theorem i255_127 : mm_cd 255 127 = some (.iload_n 2, 1, 0, 0) := rfl
theorem i255_128 : mm_cd 255 128 = some (.aload_n 0, 1, 0, 0) := rfl
theorem i255_129 : mm_cd 255 129 = some (.iload 4, 2, 0, 0) := rfl
theorem i255_131 : mm_cd 255 131 = some (.iconst 3, 1, 0, 0) := rfl
theorem i255_132 : mm_cd 255 132 = some (.invokevirtual 69, 3, 0, 204) := rfl
theorem i255_135 : mm_cd 255 135 = some (.if_icmp .gt 27, 3, 0, 0) := rfl
theorem i255_138 : mm_cd 255 138 = some (.aload_n 0, 1, 0, 0) := rfl
theorem i255_139 : mm_cd 255 139 = some (.iload 4, 2, 0, 0) := rfl
theorem i255_141 : mm_cd 255 141 = some (.invokevirtual 282, 3, 0, 207) := rfl
theorem i255_144 : mm_cd 255 144 = some (.ifCond .eq 14, 3, 0, 0) := rfl
theorem i255_147 : mm_cd 255 147 = some (.iload_n 2, 1, 0, 0) := rfl
theorem i255_148 : mm_cd 255 148 = some (.aload_n 0, 1, 0, 0) := rfl
theorem i255_149 : mm_cd 255 149 = some (.iload 4, 2, 0, 0) := rfl
theorem i255_151 : mm_cd 255 151 = some (.iconst 2, 1, 0, 0) := rfl
theorem i255_152 : mm_cd 255 152 = some (.invokevirtual 69, 3, 0, 204) := rfl
theorem i255_155 : mm_cd 255 155 = some (.if_icmp .ge 7, 3, 0, 0) := rfl
theorem i255_158 : mm_cd 255 158 = some (.iconst 1, 1, 0, 0) := rfl
theorem i255_159 : mm_cd 255 159 = some (.goto 4, 3, 0, 0) := rfl
theorem i255_162 : mm_cd 255 162 = some (.iconst 0, 1, 0, 0) := rfl
theorem i255_163 : mm_cd 255 163 = some (.istore 5, 2, 0, 0) := rfl
theorem i255_165 : mm_cd 255 165 = some (.iload 5, 2, 0, 0) := rfl
theorem i255_167 : mm_cd 255 167 = some (.ifCond .eq 8, 3, 0, 0) := rfl
theorem i255_170 : mm_cd 255 170 = some (.iload 4, 2, 0, 0) := rfl
theorem i255_172 : mm_cd 255 172 = some (.goto 4, 3, 0, 0) := rfl
theorem i255_175 : mm_cd 255 175 = some (.iload_n 3, 1, 0, 0) := rfl
theorem i255_176 : mm_cd 255 176 = some (.istore_n 3, 1, 0, 0) := rfl
theorem i255_177 : mm_cd 255 177 = some (.iinc 4 (-1), 3, 0, 0) := rfl
theorem i255_180 : mm_cd 255 180 = some (.goto (-99), 3, 0, 0) := rfl
theorem i255_183 : mm_cd 255 183 = some (.iload_n 3, 1, 0, 0) := rfl
theorem i255_184 : mm_cd 255 184 = some (.ireturn, 1, 0, 0) := rfl
def q255_176 (k81 : Int32 → Int32 → Int32 → Int32 → mS → Option mQ) (v1 : Int32) (v2 : Int32) (v4 : Int32) (y0 : Int32) (s : mS) : Option mQ := bx (v4 + (-1 : Int32)) fun x1 => k81 v1 v2 y0 x1 s
theorem t255_176 {L : Nat} {xs : Nat → Int32} {d : Nat} {k81 : Int32 → Int32 → Int32 → Int32 → mS → Option mQ} (hk81 : ∀ (v1 : Int32) (v2 : Int32) (v3 : Int32) (v4 : Int32) (s : mS) (r : mQ), k81 v1 v2 v3 v4 s = some r → Ev L xs d 255 81 [(0, .ref 512), (1, .int v1), (2, .int v2), (3, .int v3), (4, .int v4)] [] (hp s) (hr r)) (hd : 4 ≤ d) {v1 : Int32} {v2 : Int32} {v4 : Int32} {y0 : Int32} {s : mS} {r : mQ} (h : q255_176 k81 v1 v2 v4 y0 s = some r) : Ev L xs d 255 176 [(0, .ref 512), (1, .int v1), (2, .int v2), (4, .int v4)] [.int y0] (hp s) (hr r) := by
  unfold q255_176 at h
  refine Ev.istore_n H255 i255_176 (Nat.le_of_ble_eq_true rfl) (lv2 := [(3, .int y0), (0, .ref 512), (1, .int v1), (2, .int v2), (4, .int v4)]) rfl ?_
  refine Rd.iinc H255 i255_177 (Nat.le_of_ble_eq_true rfl) rfl kI_m1 (lv2 := fun x1 => [(4, .int x1), (3, .int y0), (0, .ref 512), (1, .int v1), (2, .int v2)]) (fun _ => rfl) h (fun x1 h => ?_)
  refine Ev.goto H255 i255_180 (t := 81) (by decide) ?_
  exact Ev.sub (l := [(0, .ref 512), (1, .int v1), (2, .int v2), (3, .int y0), (4, .int x1)]) rfl rfl (mm_sub_c rfl (mm_sub_c rfl (mm_sub_c rfl (mm_sub_c rfl (mm_sub_c rfl mm_sub_n))))) (hk81 _ _ _ _ _ _ h)
def q255_163 (k81 : Int32 → Int32 → Int32 → Int32 → mS → Option mQ) (v1 : Int32) (v2 : Int32) (v3 : Int32) (v4 : Int32) (y0 : Int32) (s : mS) : Option mQ := if y0 = 0 then (q255_176 k81 v1 v2 v4 v3 s) else (q255_176 k81 v1 v2 v4 v4 s)
theorem t255_163 {L : Nat} {xs : Nat → Int32} {d : Nat} {k81 : Int32 → Int32 → Int32 → Int32 → mS → Option mQ} (hk81 : ∀ (v1 : Int32) (v2 : Int32) (v3 : Int32) (v4 : Int32) (s : mS) (r : mQ), k81 v1 v2 v3 v4 s = some r → Ev L xs d 255 81 [(0, .ref 512), (1, .int v1), (2, .int v2), (3, .int v3), (4, .int v4)] [] (hp s) (hr r)) (hd : 4 ≤ d) {v1 : Int32} {v2 : Int32} {v3 : Int32} {v4 : Int32} {y0 : Int32} {s : mS} {r : mQ} (h : q255_163 k81 v1 v2 v3 v4 y0 s = some r) : Ev L xs d 255 163 [(0, .ref 512), (1, .int v1), (2, .int v2), (3, .int v3), (4, .int v4)] [.int y0] (hp s) (hr r) := by
  unfold q255_163 at h
  refine Ev.istore H255 i255_163 (Nat.le_of_ble_eq_true rfl) (lv2 := [(5, .int y0), (0, .ref 512), (1, .int v1), (2, .int v2), (3, .int v3), (4, .int v4)]) rfl ?_
  refine Ev.iload H255 i255_165 rfl ?_
  refine Rd.if_eq H255 i255_167 (t := 175) (by decide) h (fun hc h => ?_) (fun hc h => ?_)
  · refine Ev.iload_n H255 i255_175 rfl ?_
    exact Ev.sub (l := [(0, .ref 512), (1, .int v1), (2, .int v2), (4, .int v4)]) rfl rfl (mm_sub_c rfl (mm_sub_c rfl (mm_sub_c rfl (mm_sub_c rfl mm_sub_n)))) (t255_176 (k81 := k81) hk81 hd h)
  · refine Ev.iload H255 i255_170 rfl ?_
    refine Ev.goto H255 i255_172 (t := 176) (by decide) ?_
    exact Ev.sub (l := [(0, .ref 512), (1, .int v1), (2, .int v2), (4, .int v4)]) rfl rfl (mm_sub_c rfl (mm_sub_c rfl (mm_sub_c rfl (mm_sub_c rfl mm_sub_n)))) (t255_176 (k81 := k81) hk81 hd h)
def q255_162 (k81 : Int32 → Int32 → Int32 → Int32 → mS → Option mQ) (v1 : Int32) (v2 : Int32) (v3 : Int32) (v4 : Int32) (s : mS) : Option mQ := q255_163 k81 v1 v2 v3 v4 (0 : Int32) s
theorem t255_162 {L : Nat} {xs : Nat → Int32} {d : Nat} {k81 : Int32 → Int32 → Int32 → Int32 → mS → Option mQ} (hk81 : ∀ (v1 : Int32) (v2 : Int32) (v3 : Int32) (v4 : Int32) (s : mS) (r : mQ), k81 v1 v2 v3 v4 s = some r → Ev L xs d 255 81 [(0, .ref 512), (1, .int v1), (2, .int v2), (3, .int v3), (4, .int v4)] [] (hp s) (hr r)) (hd : 4 ≤ d) {v1 : Int32} {v2 : Int32} {v3 : Int32} {v4 : Int32} {s : mS} {r : mQ} (h : q255_162 k81 v1 v2 v3 v4 s = some r) : Ev L xs d 255 162 [(0, .ref 512), (1, .int v1), (2, .int v2), (3, .int v3), (4, .int v4)] [] (hp s) (hr r) := by
  unfold q255_162 at h
  refine Ev.iconst H255 i255_162 kI_0 ?_
  exact Ev.sub (l := [(0, .ref 512), (1, .int v1), (2, .int v2), (3, .int v3), (4, .int v4)]) rfl rfl (mm_sub_c rfl (mm_sub_c rfl (mm_sub_c rfl (mm_sub_c rfl (mm_sub_c rfl mm_sub_n))))) (t255_163 (k81 := k81) hk81 hd h)
def q255_158 (k81 : Int32 → Int32 → Int32 → Int32 → mS → Option mQ) (v1 : Int32) (v2 : Int32) (v3 : Int32) (v4 : Int32) (s : mS) : Option mQ := q255_163 k81 v1 v2 v3 v4 (1 : Int32) s
theorem t255_158 {L : Nat} {xs : Nat → Int32} {d : Nat} {k81 : Int32 → Int32 → Int32 → Int32 → mS → Option mQ} (hk81 : ∀ (v1 : Int32) (v2 : Int32) (v3 : Int32) (v4 : Int32) (s : mS) (r : mQ), k81 v1 v2 v3 v4 s = some r → Ev L xs d 255 81 [(0, .ref 512), (1, .int v1), (2, .int v2), (3, .int v3), (4, .int v4)] [] (hp s) (hr r)) (hd : 4 ≤ d) {v1 : Int32} {v2 : Int32} {v3 : Int32} {v4 : Int32} {s : mS} {r : mQ} (h : q255_158 k81 v1 v2 v3 v4 s = some r) : Ev L xs d 255 158 [(0, .ref 512), (1, .int v1), (2, .int v2), (3, .int v3), (4, .int v4)] [] (hp s) (hr r) := by
  unfold q255_158 at h
  refine Ev.iconst H255 i255_158 kI_1 ?_
  refine Ev.goto H255 i255_159 (t := 163) (by decide) ?_
  exact Ev.sub (l := [(0, .ref 512), (1, .int v1), (2, .int v2), (3, .int v3), (4, .int v4)]) rfl rfl (mm_sub_c rfl (mm_sub_c rfl (mm_sub_c rfl (mm_sub_c rfl (mm_sub_c rfl mm_sub_n))))) (t255_163 (k81 := k81) hk81 hd h)
def q255_138 (k81 : Int32 → Int32 → Int32 → Int32 → mS → Option mQ) (v1 : Int32) (v2 : Int32) (v3 : Int32) (v4 : Int32) (s : mS) : Option mQ := bN (q207 v4 s) fun x3 s2 => if x3 = 0 then (q255_158 k81 v1 v2 v3 v4 s2) else (bN (q204 v4 (2 : Int32) s2) fun x5 s4 => if x5 ≤ v2 then (q255_162 k81 v1 v2 v3 v4 s4) else (q255_158 k81 v1 v2 v3 v4 s4))
theorem t255_138 {L : Nat} {xs : Nat → Int32} {d : Nat} {k81 : Int32 → Int32 → Int32 → Int32 → mS → Option mQ} (hk81 : ∀ (v1 : Int32) (v2 : Int32) (v3 : Int32) (v4 : Int32) (s : mS) (r : mQ), k81 v1 v2 v3 v4 s = some r → Ev L xs d 255 81 [(0, .ref 512), (1, .int v1), (2, .int v2), (3, .int v3), (4, .int v4)] [] (hp s) (hr r)) (hd : 4 ≤ d) {v1 : Int32} {v2 : Int32} {v3 : Int32} {v4 : Int32} {s : mS} {r : mQ} (h : q255_138 k81 v1 v2 v3 v4 s = some r) : Ev L xs d 255 138 [(0, .ref 512), (1, .int v1), (2, .int v2), (3, .int v3), (4, .int v4)] [] (hp s) (hr r) := by
  unfold q255_138 at h
  refine Ev.aload_n H255 i255_138 rfl ?_
  refine Ev.iload H255 i255_139 rfl ?_
  refine Rd.cV1vN H255 i255_141 cal207 ob11 (Nat.le_of_ble_eq_true rfl) (Nat.le_of_ble_eq_true rfl) (Nat.lt_of_lt_of_le (by decide) hd) (fun q hq => c207 hq) h (fun x3 s2 h => ?_)
  refine Rd.if_eq H255 i255_144 (t := 158) (by decide) h (fun hc h => ?_) (fun hc h => ?_)
  · exact Ev.sub (l := [(0, .ref 512), (1, .int v1), (2, .int v2), (3, .int v3), (4, .int v4)]) rfl rfl (mm_sub_c rfl (mm_sub_c rfl (mm_sub_c rfl (mm_sub_c rfl (mm_sub_c rfl mm_sub_n))))) (t255_158 (k81 := k81) hk81 hd h)
  · refine Ev.iload_n H255 i255_147 rfl ?_
    refine Ev.aload_n H255 i255_148 rfl ?_
    refine Ev.iload H255 i255_149 rfl ?_
    refine Ev.iconst H255 i255_151 kI_2 ?_
    refine Rd.cV2vN H255 i255_152 cal204 ob11 (Nat.le_of_ble_eq_true rfl) (Nat.le_of_ble_eq_true rfl) (Nat.lt_of_lt_of_le (by decide) hd) (fun q hq => c204 hq) h (fun x5 s4 h => ?_)
    refine Rd.ic_ge H255 i255_155 (t := 162) (by decide) h (fun hc h => ?_) (fun hc h => ?_)
    · exact Ev.sub (l := [(0, .ref 512), (1, .int v1), (2, .int v2), (3, .int v3), (4, .int v4)]) rfl rfl (mm_sub_c rfl (mm_sub_c rfl (mm_sub_c rfl (mm_sub_c rfl (mm_sub_c rfl mm_sub_n))))) (t255_162 (k81 := k81) hk81 hd h)
    · exact Ev.sub (l := [(0, .ref 512), (1, .int v1), (2, .int v2), (3, .int v3), (4, .int v4)]) rfl rfl (mm_sub_c rfl (mm_sub_c rfl (mm_sub_c rfl (mm_sub_c rfl (mm_sub_c rfl mm_sub_n))))) (t255_158 (k81 := k81) hk81 hd h)
def q255_118 (k81 : Int32 → Int32 → Int32 → Int32 → mS → Option mQ) (v1 : Int32) (v2 : Int32) (v3 : Int32) (v4 : Int32) (s : mS) : Option mQ := bN (q206 v4 s) fun x7 s6 => if x7 = 0 then (q255_138 k81 v1 v2 v3 v4 s6) else (bN (q204 v4 (3 : Int32) s6) fun x9 s8 => if x9 < v2 then (q255_162 k81 v1 v2 v3 v4 s8) else (q255_138 k81 v1 v2 v3 v4 s8))
theorem t255_118 {L : Nat} {xs : Nat → Int32} {d : Nat} {k81 : Int32 → Int32 → Int32 → Int32 → mS → Option mQ} (hk81 : ∀ (v1 : Int32) (v2 : Int32) (v3 : Int32) (v4 : Int32) (s : mS) (r : mQ), k81 v1 v2 v3 v4 s = some r → Ev L xs d 255 81 [(0, .ref 512), (1, .int v1), (2, .int v2), (3, .int v3), (4, .int v4)] [] (hp s) (hr r)) (hd : 4 ≤ d) {v1 : Int32} {v2 : Int32} {v3 : Int32} {v4 : Int32} {s : mS} {r : mQ} (h : q255_118 k81 v1 v2 v3 v4 s = some r) : Ev L xs d 255 118 [(0, .ref 512), (1, .int v1), (2, .int v2), (3, .int v3), (4, .int v4)] [] (hp s) (hr r) := by
  unfold q255_118 at h
  refine Ev.aload_n H255 i255_118 rfl ?_
  refine Ev.iload H255 i255_119 rfl ?_
  refine Rd.cV1vN H255 i255_121 cal206 ob11 (Nat.le_of_ble_eq_true rfl) (Nat.le_of_ble_eq_true rfl) (Nat.lt_of_lt_of_le (by decide) hd) (fun q hq => c206 hq) h (fun x7 s6 h => ?_)
  refine Rd.if_eq H255 i255_124 (t := 138) (by decide) h (fun hc h => ?_) (fun hc h => ?_)
  · exact Ev.sub (l := [(0, .ref 512), (1, .int v1), (2, .int v2), (3, .int v3), (4, .int v4)]) rfl rfl (mm_sub_c rfl (mm_sub_c rfl (mm_sub_c rfl (mm_sub_c rfl (mm_sub_c rfl mm_sub_n))))) (t255_138 (k81 := k81) hk81 hd h)
  · refine Ev.iload_n H255 i255_127 rfl ?_
    refine Ev.aload_n H255 i255_128 rfl ?_
    refine Ev.iload H255 i255_129 rfl ?_
    refine Ev.iconst H255 i255_131 kI_3 ?_
    refine Rd.cV2vN H255 i255_132 cal204 ob11 (Nat.le_of_ble_eq_true rfl) (Nat.le_of_ble_eq_true rfl) (Nat.lt_of_lt_of_le (by decide) hd) (fun q hq => c204 hq) h (fun x9 s8 h => ?_)
    refine Rd.ic_gt H255 i255_135 (t := 162) (by decide) h (fun hc h => ?_) (fun hc h => ?_)
    · exact Ev.sub (l := [(0, .ref 512), (1, .int v1), (2, .int v2), (3, .int v3), (4, .int v4)]) rfl rfl (mm_sub_c rfl (mm_sub_c rfl (mm_sub_c rfl (mm_sub_c rfl (mm_sub_c rfl mm_sub_n))))) (t255_162 (k81 := k81) hk81 hd h)
    · exact Ev.sub (l := [(0, .ref 512), (1, .int v1), (2, .int v2), (3, .int v3), (4, .int v4)]) rfl rfl (mm_sub_c rfl (mm_sub_c rfl (mm_sub_c rfl (mm_sub_c rfl (mm_sub_c rfl mm_sub_n))))) (t255_138 (k81 := k81) hk81 hd h)
def q255_81 : Nat → Int32 → Int32 → Int32 → Int32 → mS → Option mQ
  | 0, _, _, _, _, _ => none
  | n + 1, v1, v2, v3, v4, s => if v4 < 0 then (rv v3 s) else (bN (q204 v4 (7 : Int32) s) fun x11 s10 => bN (q190 x11 v1 s10) fun x13 s12 => if x13 = 0 then (q255_162 (q255_81 n) v1 v2 v3 v4 s12) else (bN (q205 v4 s12) fun x15 s14 => if ¬ x15 = 0 then (q255_118 (q255_81 n) v1 v2 v3 v4 s14) else (bN (q205 v1 s14) fun x17 s16 => if x17 = 0 then (q255_162 (q255_81 n) v1 v2 v3 v4 s16) else (q255_118 (q255_81 n) v1 v2 v3 v4 s16))))
theorem t255_81 {L : Nat} {xs : Nat → Int32} {d : Nat} (hd : 4 ≤ d) : ∀ (n : Nat) (v1 : Int32) (v2 : Int32) (v3 : Int32) (v4 : Int32) (s : mS) (r : mQ), q255_81 n v1 v2 v3 v4 s = some r → Ev L xs d 255 81 [(0, .ref 512), (1, .int v1), (2, .int v2), (3, .int v3), (4, .int v4)] [] (hp s) (hr r) := by
  intro n
  induction n with
  | zero => intro v1 v2 v3 v4 s r h; rw [q255_81] at h; cases h
  | succ n ih =>
    intro v1 v2 v3 v4 s r h
    rw [q255_81] at h
    refine Ev.iload H255 i255_81 rfl ?_
    refine Rd.if_lt H255 i255_83 (t := 183) (by decide) h (fun hc h => ?_) (fun hc h => ?_)
    · refine Ev.iload_n H255 i255_183 rfl ?_
      exact Rd.ireturn H255 i255_184 rfl h
    · refine Ev.aload_n H255 i255_86 rfl ?_
      refine Ev.iload H255 i255_87 rfl ?_
      refine Ev.bipush H255 i255_89 kB_7 ?_
      refine Rd.cV2vN H255 i255_91 cal204 ob11 (Nat.le_of_ble_eq_true rfl) (Nat.le_of_ble_eq_true rfl) (Nat.lt_of_lt_of_le (by decide) hd) (fun q hq => c204 hq) h (fun x11 s10 h => ?_)
      refine Ev.iload_n H255 i255_94 rfl ?_
      refine Rd.cS2vN H255 i255_95 cal190 (Nat.le_of_ble_eq_true rfl) (Nat.le_of_ble_eq_true rfl) (Nat.lt_of_lt_of_le (by decide) hd) (fun q hq => c190 hq) h (fun x13 s12 h => ?_)
      refine Rd.if_eq H255 i255_98 (t := 162) (by decide) h (fun hc h => ?_) (fun hc h => ?_)
      · exact Ev.sub (l := [(0, .ref 512), (1, .int v1), (2, .int v2), (3, .int v3), (4, .int v4)]) rfl rfl (mm_sub_c rfl (mm_sub_c rfl (mm_sub_c rfl (mm_sub_c rfl (mm_sub_c rfl mm_sub_n))))) (t255_162 (k81 := (q255_81 n)) (fun _ _ _ _ _ _ h => ih _ _ _ _ _ _ h) hd h)
      · refine Ev.aload_n H255 i255_101 rfl ?_
        refine Ev.iload H255 i255_102 rfl ?_
        refine Rd.cV1vN H255 i255_104 cal205 ob11 (Nat.le_of_ble_eq_true rfl) (Nat.le_of_ble_eq_true rfl) (Nat.lt_of_lt_of_le (by decide) hd) (fun q hq => c205 hq) h (fun x15 s14 h => ?_)
        refine Rd.if_ne H255 i255_107 (t := 118) (by decide) h (fun hc h => ?_) (fun hc h => ?_)
        · exact Ev.sub (l := [(0, .ref 512), (1, .int v1), (2, .int v2), (3, .int v3), (4, .int v4)]) rfl rfl (mm_sub_c rfl (mm_sub_c rfl (mm_sub_c rfl (mm_sub_c rfl (mm_sub_c rfl mm_sub_n))))) (t255_118 (k81 := (q255_81 n)) (fun _ _ _ _ _ _ h => ih _ _ _ _ _ _ h) hd h)
        · refine Ev.aload_n H255 i255_110 rfl ?_
          refine Ev.iload_n H255 i255_111 rfl ?_
          refine Rd.cV1vN H255 i255_112 cal205 ob11 (Nat.le_of_ble_eq_true rfl) (Nat.le_of_ble_eq_true rfl) (Nat.lt_of_lt_of_le (by decide) hd) (fun q hq => c205 hq) h (fun x17 s16 h => ?_)
          refine Rd.if_eq H255 i255_115 (t := 162) (by decide) h (fun hc h => ?_) (fun hc h => ?_)
          · exact Ev.sub (l := [(0, .ref 512), (1, .int v1), (2, .int v2), (3, .int v3), (4, .int v4)]) rfl rfl (mm_sub_c rfl (mm_sub_c rfl (mm_sub_c rfl (mm_sub_c rfl (mm_sub_c rfl mm_sub_n))))) (t255_162 (k81 := (q255_81 n)) (fun _ _ _ _ _ _ h => ih _ _ _ _ _ _ h) hd h)
          · exact Ev.sub (l := [(0, .ref 512), (1, .int v1), (2, .int v2), (3, .int v3), (4, .int v4)]) rfl rfl (mm_sub_c rfl (mm_sub_c rfl (mm_sub_c rfl (mm_sub_c rfl (mm_sub_c rfl mm_sub_n))))) (t255_118 (k81 := (q255_81 n)) (fun _ _ _ _ _ _ h => ih _ _ _ _ _ _ h) hd h)
def q255_75 (v1 : Int32) (v2 : Int32) (s : mS) : Option mQ := q255_81 10000 v1 v2 (-1 : Int32) (7 : Int32) s
theorem t255_75 {L : Nat} {xs : Nat → Int32} {d : Nat} (hd : 4 ≤ d) {v1 : Int32} {v2 : Int32} {s : mS} {r : mQ} (h : q255_75 v1 v2 s = some r) : Ev L xs d 255 75 [(0, .ref 512), (1, .int v1), (2, .int v2)] [] (hp s) (hr r) := by
  unfold q255_75 at h
  refine Ev.iconst H255 i255_75 kI_m1 ?_
  refine Ev.istore_n H255 i255_76 (Nat.le_of_ble_eq_true rfl) (lv2 := [(3, .int (-1 : Int32)), (0, .ref 512), (1, .int v1), (2, .int v2)]) rfl ?_
  refine Ev.bipush H255 i255_77 kB_7 ?_
  refine Ev.istore H255 i255_79 (Nat.le_of_ble_eq_true rfl) (lv2 := [(4, .int (7 : Int32)), (3, .int (-1 : Int32)), (0, .ref 512), (1, .int v1), (2, .int v2)]) rfl ?_
  exact Ev.sub (l := [(0, .ref 512), (1, .int v1), (2, .int v2), (3, .int (-1 : Int32)), (4, .int (7 : Int32))]) rfl rfl (mm_sub_c rfl (mm_sub_c rfl (mm_sub_c rfl (mm_sub_c rfl (mm_sub_c rfl mm_sub_n))))) (t255_81 hd 10000 _ _ _ _ _ _ h)
def q255_43 (v1 : Int32) (v2 : Int32) (s : mS) : Option mQ := bN (q205 v1 s) fun x19 s18 => if x19 = 0 then (q255_75 v1 v2 s18) else (bN (q204 v1 (9 : Int32) s18) fun x21 s20 => if x21 ≤ 0 then (q255_75 v1 v2 s20) else (bN (q204 v1 (9 : Int32) s20) fun x23 s22 => if x23 < v2 then (q255_75 v1 v2 s22) else (rv (8 : Int32) s22)))
theorem t255_43 {L : Nat} {xs : Nat → Int32} {d : Nat} (hd : 4 ≤ d) {v1 : Int32} {v2 : Int32} {s : mS} {r : mQ} (h : q255_43 v1 v2 s = some r) : Ev L xs d 255 43 [(0, .ref 512), (1, .int v1), (2, .int v2)] [] (hp s) (hr r) := by
  unfold q255_43 at h
  refine Ev.aload_n H255 i255_43 rfl ?_
  refine Ev.iload_n H255 i255_44 rfl ?_
  refine Rd.cV1vN H255 i255_45 cal205 ob11 (Nat.le_of_ble_eq_true rfl) (Nat.le_of_ble_eq_true rfl) (Nat.lt_of_lt_of_le (by decide) hd) (fun q hq => c205 hq) h (fun x19 s18 h => ?_)
  refine Rd.if_eq H255 i255_48 (t := 75) (by decide) h (fun hc h => ?_) (fun hc h => ?_)
  · exact Ev.sub (l := [(0, .ref 512), (1, .int v1), (2, .int v2)]) rfl rfl (mm_sub_c rfl (mm_sub_c rfl (mm_sub_c rfl mm_sub_n))) (t255_75 hd h)
  · refine Ev.aload_n H255 i255_51 rfl ?_
    refine Ev.iload_n H255 i255_52 rfl ?_
    refine Ev.bipush H255 i255_53 kB_9 ?_
    refine Rd.cV2vN H255 i255_55 cal204 ob11 (Nat.le_of_ble_eq_true rfl) (Nat.le_of_ble_eq_true rfl) (Nat.lt_of_lt_of_le (by decide) hd) (fun q hq => c204 hq) h (fun x21 s20 h => ?_)
    refine Rd.if_le H255 i255_58 (t := 75) (by decide) h (fun hc h => ?_) (fun hc h => ?_)
    · exact Ev.sub (l := [(0, .ref 512), (1, .int v1), (2, .int v2)]) rfl rfl (mm_sub_c rfl (mm_sub_c rfl (mm_sub_c rfl mm_sub_n))) (t255_75 hd h)
    · refine Ev.iload_n H255 i255_61 rfl ?_
      refine Ev.aload_n H255 i255_62 rfl ?_
      refine Ev.iload_n H255 i255_63 rfl ?_
      refine Ev.bipush H255 i255_64 kB_9 ?_
      refine Rd.cV2vN H255 i255_66 cal204 ob11 (Nat.le_of_ble_eq_true rfl) (Nat.le_of_ble_eq_true rfl) (Nat.lt_of_lt_of_le (by decide) hd) (fun q hq => c204 hq) h (fun x23 s22 h => ?_)
      refine Rd.ic_gt H255 i255_69 (t := 75) (by decide) h (fun hc h => ?_) (fun hc h => ?_)
      · exact Ev.sub (l := [(0, .ref 512), (1, .int v1), (2, .int v2)]) rfl rfl (mm_sub_c rfl (mm_sub_c rfl (mm_sub_c rfl mm_sub_n))) (t255_75 hd h)
      · refine Ev.bipush H255 i255_72 kB_8 ?_
        exact Rd.ireturn H255 i255_74 rfl h
def q255_18 (v1 : Int32) (y0 : Int32) (s : mS) : Option mQ := if y0 = 0 then (rv (-1 : Int32) s) else (bN (q206 v1 s) fun x25 s24 => if x25 = 0 then (q255_43 v1 y0 s24) else (bN (q204 v1 (3 : Int32) s24) fun x27 s26 => if y0 < x27 then (q255_43 v1 y0 s26) else (rv (-1 : Int32) s26)))
theorem t255_18 {L : Nat} {xs : Nat → Int32} {d : Nat} (hd : 4 ≤ d) {v1 : Int32} {y0 : Int32} {s : mS} {r : mQ} (h : q255_18 v1 y0 s = some r) : Ev L xs d 255 18 [(0, .ref 512), (1, .int v1)] [.int y0] (hp s) (hr r) := by
  unfold q255_18 at h
  refine Ev.istore_n H255 i255_18 (Nat.le_of_ble_eq_true rfl) (lv2 := [(2, .int y0), (0, .ref 512), (1, .int v1)]) rfl ?_
  refine Ev.iload_n H255 i255_19 rfl ?_
  refine Rd.if_eq H255 i255_20 (t := 41) (by decide) h (fun hc h => ?_) (fun hc h => ?_)
  · refine Ev.iconst H255 i255_41 kI_m1 ?_
    exact Rd.ireturn H255 i255_42 rfl h
  · refine Ev.aload_n H255 i255_23 rfl ?_
    refine Ev.iload_n H255 i255_24 rfl ?_
    refine Rd.cV1vN H255 i255_25 cal206 ob11 (Nat.le_of_ble_eq_true rfl) (Nat.le_of_ble_eq_true rfl) (Nat.lt_of_lt_of_le (by decide) hd) (fun q hq => c206 hq) h (fun x25 s24 h => ?_)
    refine Rd.if_eq H255 i255_28 (t := 43) (by decide) h (fun hc h => ?_) (fun hc h => ?_)
    · exact Ev.sub (l := [(0, .ref 512), (1, .int v1), (2, .int y0)]) rfl rfl (mm_sub_c rfl (mm_sub_c rfl (mm_sub_c rfl mm_sub_n))) (t255_43 hd h)
    · refine Ev.iload_n H255 i255_31 rfl ?_
      refine Ev.aload_n H255 i255_32 rfl ?_
      refine Ev.iload_n H255 i255_33 rfl ?_
      refine Ev.iconst H255 i255_34 kI_3 ?_
      refine Rd.cV2vN H255 i255_35 cal204 ob11 (Nat.le_of_ble_eq_true rfl) (Nat.le_of_ble_eq_true rfl) (Nat.lt_of_lt_of_le (by decide) hd) (fun q hq => c204 hq) h (fun x27 s26 h => ?_)
      refine Rd.ic_lt H255 i255_38 (t := 43) (by decide) h (fun hc h => ?_) (fun hc h => ?_)
      · exact Ev.sub (l := [(0, .ref 512), (1, .int v1), (2, .int y0)]) rfl rfl (mm_sub_c rfl (mm_sub_c rfl (mm_sub_c rfl mm_sub_n))) (t255_43 hd h)
      · refine Ev.iconst H255 i255_41 kI_m1 ?_
        exact Rd.ireturn H255 i255_42 rfl h
/-- SerialGateModel.aheadOf(I)I -/
def q255 (v1 : Int32) (s : mS) : Option mQ := bN (q204 v1 (0 : Int32) s) fun x29 s28 => if ¬ x29 = 0 then (bN (q251 v1 s28) fun x31 s30 => q255_18 v1 x31 s30) else (q255_18 v1 (0 : Int32) s28)
theorem c255 {L : Nat} {xs : Nat → Int32} {v1 : Int32} {s : mS} {r : mQ} (h : q255 v1 s = some r) : ∀ d, 4 ≤ d → Cl L xs d 255 [.ref 512, .int v1] (hp s) (hr r) := by
  intro d hd
  show Ev L xs d 255 0 [(0, .ref 512), (1, .int v1)] [] (hp s) (hr r)
  unfold q255 at h
  refine Ev.aload_n H255 i255_0 rfl ?_
  refine Ev.iload_n H255 i255_1 rfl ?_
  refine Ev.iconst H255 i255_2 kI_0 ?_
  refine Rd.cV2vN H255 i255_3 cal204 ob11 (Nat.le_of_ble_eq_true rfl) (Nat.le_of_ble_eq_true rfl) (Nat.lt_of_lt_of_le (by decide) hd) (fun q hq => c204 hq) h (fun x29 s28 h => ?_)
  refine Rd.if_ne H255 i255_6 (t := 13) (by decide) h (fun hc h => ?_) (fun hc h => ?_)
  · refine Ev.aload_n H255 i255_13 rfl ?_
    refine Ev.iload_n H255 i255_14 rfl ?_
    refine Rd.cV1vN H255 i255_15 cal251 ob11 (Nat.le_of_ble_eq_true rfl) (Nat.le_of_ble_eq_true rfl) (Nat.lt_of_lt_of_le (by decide) hd) (fun q hq => c251 hq) h (fun x31 s30 h => ?_)
    exact Ev.sub (l := [(0, .ref 512), (1, .int v1)]) rfl rfl (mm_sub_c rfl (mm_sub_c rfl mm_sub_n)) (t255_18 hd h)
  · refine Ev.iconst H255 i255_9 kI_0 ?_
    refine Ev.goto H255 i255_10 (t := 18) (by decide) ?_
    exact Ev.sub (l := [(0, .ref 512), (1, .int v1)]) rfl rfl (mm_sub_c rfl (mm_sub_c rfl mm_sub_n)) (t255_18 hd h)
theorem i256_0 : mm_cd 256 0 = some (.iload_n 2, 1, 0, 0) := rfl
theorem i256_1 : mm_cd 256 1 = some (.bipush 8, 2, 0, 0) := rfl
theorem i256_3 : mm_cd 256 3 = some (.if_icmp .eq 11, 3, 0, 0) := rfl
theorem i256_6 : mm_cd 256 6 = some (.aload_n 0, 1, 0, 0) := rfl
theorem i256_7 : mm_cd 256 7 = some (.iload_n 2, 1, 0, 0) := rfl
theorem i256_8 : mm_cd 256 8 = some (.invokevirtual 75, 3, 0, 205) := rfl
theorem i256_11 : mm_cd 256 11 = some (.ifCond .ne 5, 3, 0, 0) := rfl
theorem i256_14 : mm_cd 256 14 = some (.iload_n 1, 1, 0, 0) := rfl
theorem i256_15 : mm_cd 256 15 = some (.ireturn, 1, 0, 0) := rfl
theorem i256_16 : mm_cd 256 16 = some (.aload_n 0, 1, 0, 0) := rfl
theorem i256_17 : mm_cd 256 17 = some (.iload_n 1, 1, 0, 0) := rfl
theorem i256_18 : mm_cd 256 18 = some (.invokevirtual 75, 3, 0, 205) := rfl
theorem i256_21 : mm_cd 256 21 = some (.ifCond .eq 20, 3, 0, 0) := rfl
theorem i256_24 : mm_cd 256 24 = some (.aload_n 0, 1, 0, 0) := rfl
theorem i256_25 : mm_cd 256 25 = some (.iload_n 1, 1, 0, 0) := rfl
theorem i256_26 : mm_cd 256 26 = some (.invokevirtual 298, 3, 0, 247) := rfl
theorem i256_29 : mm_cd 256 29 = some (.aload_n 0, 1, 0, 0) := rfl
theorem i256_30 : mm_cd 256 30 = some (.iload_n 2, 1, 0, 0) := rfl
theorem i256_31 : mm_cd 256 31 = some (.invokevirtual 298, 3, 0, 247) := rfl
theorem i256_34 : mm_cd 256 34 = some (.if_icmp .lt 7, 3, 0, 0) := rfl
theorem i256_37 : mm_cd 256 37 = some (.iload_n 1, 1, 0, 0) := rfl
theorem i256_38 : mm_cd 256 38 = some (.goto 4, 3, 0, 0) := rfl
theorem i256_41 : mm_cd 256 41 = some (.iload_n 2, 1, 0, 0) := rfl
theorem i256_42 : mm_cd 256 42 = some (.ireturn, 1, 0, 0) := rfl
/-- SerialGateModel.victimOf(II)I -/
def q256 (v1 : Int32) (v2 : Int32) (s : mS) : Option mQ := if v2 = (8 : Int32) then (rv v1 s) else (bN (q205 v2 s) fun x2 s1 => if ¬ x2 = 0 then (bN (q205 v1 s1) fun x4 s3 => if x4 = 0 then (rv v2 s3) else (bN (q247 v1 s3) fun x6 s5 => bN (q247 v2 s5) fun x8 s7 => if x6 < x8 then (rv v2 s7) else (rv v1 s7))) else (rv v1 s1))
theorem c256 {L : Nat} {xs : Nat → Int32} {v1 : Int32} {v2 : Int32} {s : mS} {r : mQ} (h : q256 v1 v2 s = some r) : ∀ d, 8 ≤ d → Cl L xs d 256 [.ref 512, .int v1, .int v2] (hp s) (hr r) := by
  intro d hd
  show Ev L xs d 256 0 [(0, .ref 512), (1, .int v1), (2, .int v2)] [] (hp s) (hr r)
  unfold q256 at h
  refine Ev.iload_n H256 i256_0 rfl ?_
  refine Ev.bipush H256 i256_1 kB_8 ?_
  refine Rd.ic_eq H256 i256_3 (t := 14) (by decide) h (fun hc h => ?_) (fun hc h => ?_)
  · refine Ev.iload_n H256 i256_14 rfl ?_
    exact Rd.ireturn H256 i256_15 rfl h
  · refine Ev.aload_n H256 i256_6 rfl ?_
    refine Ev.iload_n H256 i256_7 rfl ?_
    refine Rd.cV1vN H256 i256_8 cal205 ob11 (Nat.le_of_ble_eq_true rfl) (Nat.le_of_ble_eq_true rfl) (Nat.lt_of_lt_of_le (by decide) hd) (fun q hq => c205 hq) h (fun x2 s1 h => ?_)
    refine Rd.if_ne H256 i256_11 (t := 16) (by decide) h (fun hc h => ?_) (fun hc h => ?_)
    · refine Ev.aload_n H256 i256_16 rfl ?_
      refine Ev.iload_n H256 i256_17 rfl ?_
      refine Rd.cV1vN H256 i256_18 cal205 ob11 (Nat.le_of_ble_eq_true rfl) (Nat.le_of_ble_eq_true rfl) (Nat.lt_of_lt_of_le (by decide) hd) (fun q hq => c205 hq) h (fun x4 s3 h => ?_)
      refine Rd.if_eq H256 i256_21 (t := 41) (by decide) h (fun hc h => ?_) (fun hc h => ?_)
      · refine Ev.iload_n H256 i256_41 rfl ?_
        exact Rd.ireturn H256 i256_42 rfl h
      · refine Ev.aload_n H256 i256_24 rfl ?_
        refine Ev.iload_n H256 i256_25 rfl ?_
        refine Rd.cV1vN H256 i256_26 cal247 ob11 (Nat.le_of_ble_eq_true rfl) (Nat.le_of_ble_eq_true rfl) (Nat.lt_of_lt_of_le (by decide) hd) (fun q hq => c247 hq) h (fun x6 s5 h => ?_)
        refine Ev.aload_n H256 i256_29 rfl ?_
        refine Ev.iload_n H256 i256_30 rfl ?_
        refine Rd.cV1vN H256 i256_31 cal247 ob11 (Nat.le_of_ble_eq_true rfl) (Nat.le_of_ble_eq_true rfl) (Nat.lt_of_lt_of_le (by decide) hd) (fun q hq => c247 hq) h (fun x8 s7 h => ?_)
        refine Rd.ic_lt H256 i256_34 (t := 41) (by decide) h (fun hc h => ?_) (fun hc h => ?_)
        · refine Ev.iload_n H256 i256_41 rfl ?_
          exact Rd.ireturn H256 i256_42 rfl h
        · refine Ev.iload_n H256 i256_37 rfl ?_
          refine Ev.goto H256 i256_38 (t := 42) (by decide) ?_
          exact Rd.ireturn H256 i256_42 rfl h
    · refine Ev.iload_n H256 i256_14 rfl ?_
      exact Rd.ireturn H256 i256_15 rfl h
theorem i257_0 : mm_cd 257 0 = some (.iconst 0, 1, 0, 0) := rfl
theorem i257_1 : mm_cd 257 1 = some (.istore_n 1, 1, 0, 0) := rfl
theorem i257_2 : mm_cd 257 2 = some (.iload_n 1, 1, 0, 0) := rfl
theorem i257_3 : mm_cd 257 3 = some (.bipush 8, 2, 0, 0) := rfl
theorem i257_5 : mm_cd 257 5 = some (.if_icmp .ge 36, 3, 0, 0) := rfl
theorem i257_8 : mm_cd 257 8 = some (.aload_n 0, 1, 0, 0) := rfl
theorem i257_9 : mm_cd 257 9 = some (.iload_n 1, 1, 0, 0) := rfl
theorem i257_10 : mm_cd 257 10 = some (.invokevirtual 301, 3, 0, 255) := rfl
theorem i257_13 : mm_cd 257 13 = some (.istore_n 2, 1, 0, 0) := rfl
theorem i257_14 : mm_cd 257 14 = some (.iload_n 2, 1, 0, 0) := rfl
theorem i257_15 : mm_cd 257 15 = some (.iconst (-1), 1, 0, 0) := rfl
theorem i257_16 : mm_cd 257 16 = some (.if_icmp .ne 9, 3, 0, 0) := rfl
theorem i257_19 : mm_cd 257 19 = some (.iinc 1 1, 3, 0, 0) := rfl
theorem i257_22 : mm_cd 257 22 = some (.goto 16, 3, 0, 0) := rfl
theorem i257_25 : mm_cd 257 25 = some (.aload_n 0, 1, 0, 0) := rfl
theorem i257_26 : mm_cd 257 26 = some (.aload_n 0, 1, 0, 0) := rfl
theorem i257_27 : mm_cd 257 27 = some (.iload_n 1, 1, 0, 0) := rfl
theorem i257_28 : mm_cd 257 28 = some (.iload_n 2, 1, 0, 0) := rfl
theorem i257_29 : mm_cd 257 29 = some (.invokevirtual 304, 3, 0, 256) := rfl
theorem i257_32 : mm_cd 257 32 = some (.iconst 3, 1, 0, 0) := rfl
theorem i257_33 : mm_cd 257 33 = some (.invokevirtual 307, 3, 0, 254) := rfl
theorem i257_36 : mm_cd 257 36 = some (.iconst 0, 1, 0, 0) := rfl
theorem i257_37 : mm_cd 257 37 = some (.istore_n 1, 1, 0, 0) := rfl
theorem i257_38 : mm_cd 257 38 = some (.goto (-36), 3, 0, 0) := rfl
theorem i257_41 : mm_cd 257 41 = some (.return_, 1, 0, 0) := rfl
def q257_38 (k2 : Int32 → mS → Option mQ) (v1 : Int32) (s : mS) : Option mQ := k2 v1 s
theorem t257_38 {L : Nat} {xs : Nat → Int32} {d : Nat} {k2 : Int32 → mS → Option mQ} (hk2 : ∀ (v1 : Int32) (s : mS) (r : mQ), k2 v1 s = some r → Ev L xs d 257 2 [(0, .ref 512), (1, .int v1)] [] (hp s) (hr r)) (hd : 9 ≤ d) {v1 : Int32} {s : mS} {r : mQ} (h : q257_38 k2 v1 s = some r) : Ev L xs d 257 38 [(0, .ref 512), (1, .int v1)] [] (hp s) (hr r) := by
  unfold q257_38 at h
  refine Ev.goto H257 i257_38 (t := 2) (by decide) ?_
  exact Ev.sub (l := [(0, .ref 512), (1, .int v1)]) rfl rfl (mm_sub_c rfl (mm_sub_c rfl mm_sub_n)) (hk2 _ _ _ h)
def q257_2 : Nat → Int32 → mS → Option mQ
  | 0, _, _ => none
  | n + 1, v1, s => if (8 : Int32) ≤ v1 then (ru s) else (bN (q255 v1 s) fun x2 s1 => if ¬ x2 = (-1 : Int32) then (bN (q256 v1 x2 s1) fun x4 s3 => bM (q254 x4 (3 : Int32) s3) fun s5 => q257_38 (q257_2 n) (0 : Int32) s5) else (bx (v1 + (1 : Int32)) fun x6 => q257_38 (q257_2 n) x6 s1))
theorem t257_2 {L : Nat} {xs : Nat → Int32} {d : Nat} (hd : 9 ≤ d) : ∀ (n : Nat) (v1 : Int32) (s : mS) (r : mQ), q257_2 n v1 s = some r → Ev L xs d 257 2 [(0, .ref 512), (1, .int v1)] [] (hp s) (hr r) := by
  intro n
  induction n with
  | zero => intro v1 s r h; rw [q257_2] at h; cases h
  | succ n ih =>
    intro v1 s r h
    rw [q257_2] at h
    refine Ev.iload_n H257 i257_2 rfl ?_
    refine Ev.bipush H257 i257_3 kB_8 ?_
    refine Rd.ic_ge H257 i257_5 (t := 41) (by decide) h (fun hc h => ?_) (fun hc h => ?_)
    · exact Rd.return_ H257 i257_41 rfl h
    · refine Ev.aload_n H257 i257_8 rfl ?_
      refine Ev.iload_n H257 i257_9 rfl ?_
      refine Rd.cV1vN H257 i257_10 cal255 ob11 (Nat.le_of_ble_eq_true rfl) (Nat.le_of_ble_eq_true rfl) (Nat.lt_of_lt_of_le (by decide) hd) (fun q hq => c255 hq) h (fun x2 s1 h => ?_)
      refine Ev.istore_n H257 i257_13 (Nat.le_of_ble_eq_true rfl) (lv2 := [(2, .int x2), (0, .ref 512), (1, .int v1)]) rfl ?_
      refine Ev.iload_n H257 i257_14 rfl ?_
      refine Ev.iconst H257 i257_15 kI_m1 ?_
      refine Rd.ic_ne H257 i257_16 (t := 25) (by decide) h (fun hc h => ?_) (fun hc h => ?_)
      · refine Ev.aload_n H257 i257_25 rfl ?_
        refine Ev.aload_n H257 i257_26 rfl ?_
        refine Ev.iload_n H257 i257_27 rfl ?_
        refine Ev.iload_n H257 i257_28 rfl ?_
        refine Rd.cV2vN H257 i257_29 cal256 ob11 (Nat.le_of_ble_eq_true rfl) (Nat.le_of_ble_eq_true rfl) (Nat.lt_of_lt_of_le (by decide) hd) (fun q hq => c256 hq) h (fun x4 s3 h => ?_)
        refine Ev.iconst H257 i257_32 kI_3 ?_
        refine Rd.cV2uN H257 i257_33 cal254 ob11 (Nat.le_of_ble_eq_true rfl) (Nat.le_of_ble_eq_true rfl) (Nat.lt_of_lt_of_le (by decide) hd) (fun q hq => c254 hq) h (fun s5 h => ?_)
        refine Ev.iconst H257 i257_36 kI_0 ?_
        refine Ev.istore_n H257 i257_37 (Nat.le_of_ble_eq_true rfl) (lv2 := [(1, .int (0 : Int32)), (2, .int x2), (0, .ref 512)]) rfl ?_
        exact Ev.sub (l := [(0, .ref 512), (1, .int (0 : Int32))]) rfl rfl (mm_sub_c rfl (mm_sub_c rfl mm_sub_n)) (t257_38 (k2 := (q257_2 n)) (fun _ _ _ h => ih _ _ _ h) hd h)
      · refine Rd.iinc H257 i257_19 (Nat.le_of_ble_eq_true rfl) rfl kI_1 (lv2 := fun x6 => [(1, .int x6), (2, .int x2), (0, .ref 512)]) (fun _ => rfl) h (fun x6 h => ?_)
        refine Ev.goto H257 i257_22 (t := 38) (by decide) ?_
        exact Ev.sub (l := [(0, .ref 512), (1, .int x6)]) rfl rfl (mm_sub_c rfl (mm_sub_c rfl mm_sub_n)) (t257_38 (k2 := (q257_2 n)) (fun _ _ _ h => ih _ _ _ h) hd h)
/-- SerialGateModel.areMet()V -/
def q257 (s : mS) : Option mQ := q257_2 10000 (0 : Int32) s
theorem c257 {L : Nat} {xs : Nat → Int32} {s : mS} {r : mQ} (h : q257 s = some r) : ∀ d, 9 ≤ d → Cl L xs d 257 [.ref 512] (hp s) (hr r) := by
  intro d hd
  show Ev L xs d 257 0 [(0, .ref 512)] [] (hp s) (hr r)
  unfold q257 at h
  refine Ev.iconst H257 i257_0 kI_0 ?_
  refine Ev.istore_n H257 i257_1 (Nat.le_of_ble_eq_true rfl) (lv2 := [(1, .int (0 : Int32)), (0, .ref 512)]) rfl ?_
  exact Ev.sub (l := [(0, .ref 512), (1, .int (0 : Int32))]) rfl rfl (mm_sub_c rfl (mm_sub_c rfl mm_sub_n)) (t257_2 hd 10000 _ _ _ h)
theorem i269_0 : mm_cd 269 0 = some (.iload_n 0, 1, 0, 0) := rfl
theorem i269_1 : mm_cd 269 1 = some (.invokestatic 343, 3, 0, 342) := rfl
theorem i269_4 : mm_cd 269 4 = some (.ireturn, 1, 0, 0) := rfl
/-- SerialGateModel.firstOf(I)I -/
def q269 (v0 : Int32) (s : mS) : Option mQ := bN (q342 v0 s) fun x2 s1 => rv x2 s1
theorem c269 {L : Nat} {xs : Nat → Int32} {v0 : Int32} {s : mS} {r : mQ} (h : q269 v0 s = some r) : ∀ d, 1 ≤ d → Cl L xs d 269 [.int v0] (hp s) (hr r) := by
  intro d hd
  show Ev L xs d 269 0 [(0, .int v0)] [] (hp s) (hr r)
  unfold q269 at h
  refine Ev.iload_n H269 i269_0 rfl ?_
  refine Rd.cS1vN H269 i269_1 cal342 (Nat.le_of_ble_eq_true rfl) (Nat.le_of_ble_eq_true rfl) (Nat.lt_of_lt_of_le (by decide) hd) (fun q hq => c342 hq) h (fun x2 s1 h => ?_)
  exact Rd.ireturn H269 i269_4 rfl h
theorem i262_0 : mm_cd 262 0 = some (.aload_n 0, 1, 0, 0) := rfl
theorem i262_1 : mm_cd 262 1 = some (.iconst 0, 1, 0, 0) := rfl
theorem i262_2 : mm_cd 262 2 = some (.invokevirtual 313, 3, 0, 208) := rfl
theorem i262_5 : mm_cd 262 5 = some (.invokestatic 322, 3, 0, 269) := rfl
theorem i262_8 : mm_cd 262 8 = some (.istore_n 2, 1, 0, 0) := rfl
theorem i262_9 : mm_cd 262 9 = some (.aload_n 0, 1, 0, 0) := rfl
theorem i262_10 : mm_cd 262 10 = some (.getfield 13, 3, ((11 : Nat) : Int), 1) := rfl
theorem i262_13 : mm_cd 262 13 = some (.iconst 3, 1, 0, 0) := rfl
theorem i262_14 : mm_cd 262 14 = some (.dup2, 1, 0, 0) := rfl
theorem i262_15 : mm_cd 262 15 = some (.iaload, 1, 0, 0) := rfl
theorem i262_16 : mm_cd 262 16 = some (.iconst 1, 1, 0, 0) := rfl
theorem i262_17 : mm_cd 262 17 = some (.iadd, 1, 0, 0) := rfl
theorem i262_18 : mm_cd 262 18 = some (.iastore, 1, 0, 0) := rfl
theorem i262_19 : mm_cd 262 19 = some (.aload_n 0, 1, 0, 0) := rfl
theorem i262_20 : mm_cd 262 20 = some (.getfield 13, 3, ((11 : Nat) : Int), 1) := rfl
theorem i262_23 : mm_cd 262 23 = some (.iload_n 2, 1, 0, 0) := rfl
theorem i262_24 : mm_cd 262 24 = some (.iconst 0, 1, 0, 0) := rfl
theorem i262_25 : mm_cd 262 25 = some (.invokestatic 66, 3, 0, 203) := rfl
theorem i262_28 : mm_cd 262 28 = some (.iconst 1, 1, 0, 0) := rfl
theorem i262_29 : mm_cd 262 29 = some (.iastore, 1, 0, 0) := rfl
theorem i262_30 : mm_cd 262 30 = some (.aload_n 0, 1, 0, 0) := rfl
theorem i262_31 : mm_cd 262 31 = some (.getfield 13, 3, ((11 : Nat) : Int), 1) := rfl
theorem i262_34 : mm_cd 262 34 = some (.iload_n 2, 1, 0, 0) := rfl
theorem i262_35 : mm_cd 262 35 = some (.iconst 1, 1, 0, 0) := rfl
theorem i262_36 : mm_cd 262 36 = some (.invokestatic 66, 3, 0, 203) := rfl
theorem i262_39 : mm_cd 262 39 = some (.iload_n 1, 1, 0, 0) := rfl
theorem i262_40 : mm_cd 262 40 = some (.iastore, 1, 0, 0) := rfl
theorem i262_41 : mm_cd 262 41 = some (.aload_n 0, 1, 0, 0) := rfl
theorem i262_42 : mm_cd 262 42 = some (.getfield 13, 3, ((11 : Nat) : Int), 1) := rfl
theorem i262_45 : mm_cd 262 45 = some (.iload_n 2, 1, 0, 0) := rfl
theorem i262_46 : mm_cd 262 46 = some (.iconst 2, 1, 0, 0) := rfl
theorem i262_47 : mm_cd 262 47 = some (.invokestatic 66, 3, 0, 203) := rfl
theorem i262_50 : mm_cd 262 50 = some (.aload_n 0, 1, 0, 0) := rfl
theorem i262_51 : mm_cd 262 51 = some (.getfield 13, 3, ((11 : Nat) : Int), 1) := rfl
theorem i262_54 : mm_cd 262 54 = some (.iconst 3, 1, 0, 0) := rfl
theorem i262_55 : mm_cd 262 55 = some (.iaload, 1, 0, 0) := rfl
theorem i262_56 : mm_cd 262 56 = some (.iastore, 1, 0, 0) := rfl
theorem i262_57 : mm_cd 262 57 = some (.iconst 0, 1, 0, 0) := rfl
theorem i262_58 : mm_cd 262 58 = some (.istore_n 3, 1, 0, 0) := rfl
theorem i262_59 : mm_cd 262 59 = some (.iload_n 3, 1, 0, 0) := rfl
theorem i262_60 : mm_cd 262 60 = some (.bipush 10, 2, 0, 0) := rfl
theorem i262_62 : mm_cd 262 62 = some (.if_icmp .ge 28, 3, 0, 0) := rfl
theorem i262_65 : mm_cd 262 65 = some (.aload_n 0, 1, 0, 0) := rfl
theorem i262_66 : mm_cd 262 66 = some (.getfield 13, 3, ((11 : Nat) : Int), 1) := rfl
theorem i262_69 : mm_cd 262 69 = some (.iload_n 2, 1, 0, 0) := rfl
theorem i262_70 : mm_cd 262 70 = some (.bipush 11, 2, 0, 0) := rfl
theorem i262_72 : mm_cd 262 72 = some (.iload_n 3, 1, 0, 0) := rfl
theorem i262_73 : mm_cd 262 73 = some (.iadd, 1, 0, 0) := rfl
theorem i262_74 : mm_cd 262 74 = some (.invokestatic 66, 3, 0, 203) := rfl
theorem i262_77 : mm_cd 262 77 = some (.aload_n 0, 1, 0, 0) := rfl
theorem i262_78 : mm_cd 262 78 = some (.iload_n 3, 1, 0, 0) := rfl
theorem i262_79 : mm_cd 262 79 = some (.iconst 0, 1, 0, 0) := rfl
theorem i262_80 : mm_cd 262 80 = some (.invokevirtual 146, 3, 0, 200) := rfl
theorem i262_83 : mm_cd 262 83 = some (.iastore, 1, 0, 0) := rfl
theorem i262_84 : mm_cd 262 84 = some (.iinc 3 1, 3, 0, 0) := rfl
theorem i262_87 : mm_cd 262 87 = some (.goto (-28), 3, 0, 0) := rfl
theorem i262_90 : mm_cd 262 90 = some (.iload_n 2, 1, 0, 0) := rfl
theorem i262_91 : mm_cd 262 91 = some (.ireturn, 1, 0, 0) := rfl
def q262_59 : Nat → Int32 → Int32 → mS → Option mQ
  | 0, _, _, _ => none
  | n + 1, v2, v3, s => if (10 : Int32) ≤ v3 then (rv v2 s) else (bN (q203 v2 ((11 : Int32) + v3) s) fun x2 s1 => bN (q200 v3 (0 : Int32) s1) fun x4 s3 => gA 2468 x2 <| sp (sI s3 513 x2.toNatClampNeg x4) fun s5 => bx (v3 + (1 : Int32)) fun x6 => q262_59 n v2 x6 s5)
theorem t262_59 {L : Nat} {xs : Nat → Int32} {d : Nat} (hd : 3 ≤ d) : ∀ (n : Nat) (v2 : Int32) (v3 : Int32) (s : mS) (r : mQ), q262_59 n v2 v3 s = some r → Ev L xs d 262 59 [(0, .ref 512), (2, .int v2), (3, .int v3)] [] (hp s) (hr r) := by
  intro n
  induction n with
  | zero => intro v2 v3 s r h; rw [q262_59] at h; cases h
  | succ n ih =>
    intro v2 v3 s r h
    rw [q262_59] at h
    refine Ev.iload_n H262 i262_59 rfl ?_
    refine Ev.bipush H262 i262_60 kB_10 ?_
    refine Rd.ic_ge H262 i262_62 (t := 90) (by decide) h (fun hc h => ?_) (fun hc h => ?_)
    · refine Ev.iload_n H262 i262_90 rfl ?_
      exact Rd.ireturn H262 i262_91 rfl h
    · refine Ev.aload_n H262 i262_65 rfl ?_
      refine Rd.getR H262 i262_66 ob11 rfl ?_
      refine Ev.iload_n H262 i262_69 rfl ?_
      refine Ev.bipush H262 i262_70 kB_11 ?_
      refine Ev.iload_n H262 i262_72 rfl ?_
      refine Ev.iadd H262 i262_73 ?_
      refine Rd.cS2vN H262 i262_74 cal203 (Nat.le_of_ble_eq_true rfl) (Nat.le_of_ble_eq_true rfl) (Nat.lt_of_lt_of_le (by decide) hd) (fun q hq => c203 hq) h (fun x2 s1 h => ?_)
      refine Ev.aload_n H262 i262_77 rfl ?_
      refine Ev.iload_n H262 i262_78 rfl ?_
      refine Ev.iconst H262 i262_79 kI_0 ?_
      refine Rd.cV2vN H262 i262_80 cal200 ob11 (Nat.le_of_ble_eq_true rfl) (Nat.le_of_ble_eq_true rfl) (Nat.lt_of_lt_of_le (by decide) hd) (fun q hq => c200 hq) h (fun x4 s3 h => ?_)
      refine Rd.iastore H262 i262_83 ar_513 h (fun s5 h => ?_)
      refine Rd.iinc H262 i262_84 (Nat.le_of_ble_eq_true rfl) rfl kI_1 (lv2 := fun x6 => [(3, .int x6), (0, .ref 512), (2, .int v2)]) (fun _ => rfl) h (fun x6 h => ?_)
      refine Ev.goto H262 i262_87 (t := 59) (by decide) ?_
      exact Ev.sub (l := [(0, .ref 512), (2, .int v2), (3, .int x6)]) rfl rfl (mm_sub_c rfl (mm_sub_c rfl (mm_sub_c rfl mm_sub_n))) (ih _ _ _ _ h)
/-- SerialGateModel.begins(I)I -/
def q262 (v1 : Int32) (s : mS) : Option mQ := bN (q208 (0 : Int32) s) fun x8 s7 => bN (q269 x8 s7) fun x10 s9 => gA 2468 (3 : Int32) <| gA 2468 (3 : Int32) <| sp (sI s9 513 (3 : Int32).toNatClampNeg ((s9.1 513 (3 : Int32).toNatClampNeg) + (1 : Int32))) fun s11 => bN (q203 x10 (0 : Int32) s11) fun x13 s12 => gA 2468 x13 <| sp (sI s12 513 x13.toNatClampNeg (1 : Int32)) fun s14 => bN (q203 x10 (1 : Int32) s14) fun x16 s15 => gA 2468 x16 <| sp (sI s15 513 x16.toNatClampNeg v1) fun s17 => bN (q203 x10 (2 : Int32) s17) fun x19 s18 => gA 2468 (3 : Int32) <| gA 2468 x19 <| sp (sI s18 513 x19.toNatClampNeg (s18.1 513 (3 : Int32).toNatClampNeg)) fun s20 => q262_59 10000 x10 (0 : Int32) s20
theorem c262 {L : Nat} {xs : Nat → Int32} {v1 : Int32} {s : mS} {r : mQ} (h : q262 v1 s = some r) : ∀ d, 3 ≤ d → Cl L xs d 262 [.ref 512, .int v1] (hp s) (hr r) := by
  intro d hd
  show Ev L xs d 262 0 [(0, .ref 512), (1, .int v1)] [] (hp s) (hr r)
  unfold q262 at h
  refine Ev.aload_n H262 i262_0 rfl ?_
  refine Ev.iconst H262 i262_1 kI_0 ?_
  refine Rd.cV1vN H262 i262_2 cal208 ob11 (Nat.le_of_ble_eq_true rfl) (Nat.le_of_ble_eq_true rfl) (Nat.lt_of_lt_of_le (by decide) hd) (fun q hq => c208 hq) h (fun x8 s7 h => ?_)
  refine Rd.cS1vN H262 i262_5 cal269 (Nat.le_of_ble_eq_true rfl) (Nat.le_of_ble_eq_true rfl) (Nat.lt_of_lt_of_le (by decide) hd) (fun q hq => c269 hq) h (fun x10 s9 h => ?_)
  refine Ev.istore_n H262 i262_8 (Nat.le_of_ble_eq_true rfl) (lv2 := [(2, .int x10), (0, .ref 512), (1, .int v1)]) rfl ?_
  refine Ev.aload_n H262 i262_9 rfl ?_
  refine Rd.getR H262 i262_10 ob11 rfl ?_
  refine Ev.iconst H262 i262_13 kI_3 ?_
  refine Ev.dup2 H262 i262_14 ⟨rfl, rfl⟩ ?_
  refine Rd.iaload H262 i262_15 ar_513 h (fun h => ?_)
  refine Ev.iconst H262 i262_16 kI_1 ?_
  refine Ev.iadd H262 i262_17 ?_
  refine Rd.iastore H262 i262_18 ar_513 h (fun s11 h => ?_)
  refine Ev.aload_n H262 i262_19 rfl ?_
  refine Rd.getR H262 i262_20 ob11 rfl ?_
  refine Ev.iload_n H262 i262_23 rfl ?_
  refine Ev.iconst H262 i262_24 kI_0 ?_
  refine Rd.cS2vN H262 i262_25 cal203 (Nat.le_of_ble_eq_true rfl) (Nat.le_of_ble_eq_true rfl) (Nat.lt_of_lt_of_le (by decide) hd) (fun q hq => c203 hq) h (fun x13 s12 h => ?_)
  refine Ev.iconst H262 i262_28 kI_1 ?_
  refine Rd.iastore H262 i262_29 ar_513 h (fun s14 h => ?_)
  refine Ev.aload_n H262 i262_30 rfl ?_
  refine Rd.getR H262 i262_31 ob11 rfl ?_
  refine Ev.iload_n H262 i262_34 rfl ?_
  refine Ev.iconst H262 i262_35 kI_1 ?_
  refine Rd.cS2vN H262 i262_36 cal203 (Nat.le_of_ble_eq_true rfl) (Nat.le_of_ble_eq_true rfl) (Nat.lt_of_lt_of_le (by decide) hd) (fun q hq => c203 hq) h (fun x16 s15 h => ?_)
  refine Ev.iload_n H262 i262_39 rfl ?_
  refine Rd.iastore H262 i262_40 ar_513 h (fun s17 h => ?_)
  refine Ev.aload_n H262 i262_41 rfl ?_
  refine Rd.getR H262 i262_42 ob11 rfl ?_
  refine Ev.iload_n H262 i262_45 rfl ?_
  refine Ev.iconst H262 i262_46 kI_2 ?_
  refine Rd.cS2vN H262 i262_47 cal203 (Nat.le_of_ble_eq_true rfl) (Nat.le_of_ble_eq_true rfl) (Nat.lt_of_lt_of_le (by decide) hd) (fun q hq => c203 hq) h (fun x19 s18 h => ?_)
  refine Ev.aload_n H262 i262_50 rfl ?_
  refine Rd.getR H262 i262_51 ob11 rfl ?_
  refine Ev.iconst H262 i262_54 kI_3 ?_
  refine Rd.iaload H262 i262_55 ar_513 h (fun h => ?_)
  refine Rd.iastore H262 i262_56 ar_513 h (fun s20 h => ?_)
  refine Ev.iconst H262 i262_57 kI_0 ?_
  refine Ev.istore_n H262 i262_58 (Nat.le_of_ble_eq_true rfl) (lv2 := [(3, .int (0 : Int32)), (2, .int x10), (0, .ref 512), (1, .int v1)]) rfl ?_
  exact Ev.sub (l := [(0, .ref 512), (2, .int x10), (3, .int (0 : Int32))]) rfl rfl (mm_sub_c rfl (mm_sub_c rfl (mm_sub_c rfl mm_sub_n))) (t262_59 hd 10000 _ _ _ _ h)
theorem i263_0 : mm_cd 263 0 = some (.aload_n 0, 1, 0, 0) := rfl
theorem i263_1 : mm_cd 263 1 = some (.getfield 13, 3, ((11 : Nat) : Int), 1) := rfl
theorem i263_4 : mm_cd 263 4 = some (.iload_n 1, 1, 0, 0) := rfl
theorem i263_5 : mm_cd 263 5 = some (.iconst 4, 1, 0, 0) := rfl
theorem i263_6 : mm_cd 263 6 = some (.invokestatic 66, 3, 0, 203) := rfl
theorem i263_9 : mm_cd 263 9 = some (.dup2, 1, 0, 0) := rfl
theorem i263_10 : mm_cd 263 10 = some (.iaload, 1, 0, 0) := rfl
theorem i263_11 : mm_cd 263 11 = some (.iconst 1, 1, 0, 0) := rfl
theorem i263_12 : mm_cd 263 12 = some (.iload_n 2, 1, 0, 0) := rfl
theorem i263_13 : mm_cd 263 13 = some (.ishl, 1, 0, 0) := rfl
theorem i263_14 : mm_cd 263 14 = some (.ior, 1, 0, 0) := rfl
theorem i263_15 : mm_cd 263 15 = some (.iastore, 1, 0, 0) := rfl
theorem i263_16 : mm_cd 263 16 = some (.aload_n 0, 1, 0, 0) := rfl
theorem i263_17 : mm_cd 263 17 = some (.iload_n 1, 1, 0, 0) := rfl
theorem i263_18 : mm_cd 263 18 = some (.bipush 6, 2, 0, 0) := rfl
theorem i263_20 : mm_cd 263 20 = some (.invokevirtual 69, 3, 0, 204) := rfl
theorem i263_23 : mm_cd 263 23 = some (.iload_n 2, 1, 0, 0) := rfl
theorem i263_24 : mm_cd 263 24 = some (.invokestatic 79, 3, 0, 190) := rfl
theorem i263_27 : mm_cd 263 27 = some (.ifCond .ne 11, 3, 0, 0) := rfl
theorem i263_30 : mm_cd 263 30 = some (.aload_n 0, 1, 0, 0) := rfl
theorem i263_31 : mm_cd 263 31 = some (.iload_n 1, 1, 0, 0) := rfl
theorem i263_32 : mm_cd 263 32 = some (.invokevirtual 325, 3, 0, 252) := rfl
theorem i263_35 : mm_cd 263 35 = some (.ifCond .eq 4, 3, 0, 0) := rfl
theorem i263_38 : mm_cd 263 38 = some (.return_, 1, 0, 0) := rfl
theorem i263_39 : mm_cd 263 39 = some (.aload_n 0, 1, 0, 0) := rfl
theorem i263_40 : mm_cd 263 40 = some (.getfield 13, 3, ((11 : Nat) : Int), 1) := rfl
theorem i263_43 : mm_cd 263 43 = some (.iload_n 1, 1, 0, 0) := rfl
theorem i263_44 : mm_cd 263 44 = some (.iconst 5, 1, 0, 0) := rfl
theorem i263_45 : mm_cd 263 45 = some (.invokestatic 66, 3, 0, 203) := rfl
theorem i263_48 : mm_cd 263 48 = some (.dup2, 1, 0, 0) := rfl
theorem i263_49 : mm_cd 263 49 = some (.iaload, 1, 0, 0) := rfl
theorem i263_50 : mm_cd 263 50 = some (.iconst 1, 1, 0, 0) := rfl
theorem i263_51 : mm_cd 263 51 = some (.iload_n 2, 1, 0, 0) := rfl
theorem i263_52 : mm_cd 263 52 = some (.ishl, 1, 0, 0) := rfl
theorem i263_53 : mm_cd 263 53 = some (.ior, 1, 0, 0) := rfl
theorem i263_54 : mm_cd 263 54 = some (.iastore, 1, 0, 0) := rfl
theorem i263_55 : mm_cd 263 55 = some (.iconst 0, 1, 0, 0) := rfl
theorem i263_56 : mm_cd 263 56 = some (.istore_n 3, 1, 0, 0) := rfl
theorem i263_57 : mm_cd 263 57 = some (.iload_n 3, 1, 0, 0) := rfl
theorem i263_58 : mm_cd 263 58 = some (.bipush 8, 2, 0, 0) := rfl
theorem i263_60 : mm_cd 263 60 = some (.if_icmp .ge 49, 3, 0, 0) := rfl
theorem i263_63 : mm_cd 263 63 = some (.aload_n 0, 1, 0, 0) := rfl
theorem i263_64 : mm_cd 263 64 = some (.iload_n 1, 1, 0, 0) := rfl
theorem i263_65 : mm_cd 263 65 = some (.iload_n 3, 1, 0, 0) := rfl
theorem i263_66 : mm_cd 263 66 = some (.invokevirtual 328, 3, 0, 250) := rfl
theorem i263_69 : mm_cd 263 69 = some (.ifCond .eq 34, 3, 0, 0) := rfl
theorem i263_72 : mm_cd 263 72 = some (.aload_n 0, 1, 0, 0) := rfl
theorem i263_73 : mm_cd 263 73 = some (.iload_n 3, 1, 0, 0) := rfl
theorem i263_74 : mm_cd 263 74 = some (.bipush 6, 2, 0, 0) := rfl
theorem i263_76 : mm_cd 263 76 = some (.invokevirtual 69, 3, 0, 204) := rfl
theorem i263_79 : mm_cd 263 79 = some (.iload_n 2, 1, 0, 0) := rfl
theorem i263_80 : mm_cd 263 80 = some (.invokestatic 79, 3, 0, 190) := rfl
theorem i263_83 : mm_cd 263 83 = some (.ifCond .eq 20, 3, 0, 0) := rfl
theorem i263_86 : mm_cd 263 86 = some (.aload_n 0, 1, 0, 0) := rfl
theorem i263_87 : mm_cd 263 87 = some (.getfield 13, 3, ((11 : Nat) : Int), 1) := rfl
theorem i263_90 : mm_cd 263 90 = some (.iload_n 1, 1, 0, 0) := rfl
theorem i263_91 : mm_cd 263 91 = some (.bipush 7, 2, 0, 0) := rfl
theorem i263_93 : mm_cd 263 93 = some (.invokestatic 66, 3, 0, 203) := rfl
theorem i263_96 : mm_cd 263 96 = some (.dup2, 1, 0, 0) := rfl
theorem i263_97 : mm_cd 263 97 = some (.iaload, 1, 0, 0) := rfl
theorem i263_98 : mm_cd 263 98 = some (.iconst 1, 1, 0, 0) := rfl
theorem i263_99 : mm_cd 263 99 = some (.iload_n 3, 1, 0, 0) := rfl
theorem i263_100 : mm_cd 263 100 = some (.ishl, 1, 0, 0) := rfl
theorem i263_101 : mm_cd 263 101 = some (.ior, 1, 0, 0) := rfl
theorem i263_102 : mm_cd 263 102 = some (.iastore, 1, 0, 0) := rfl
theorem i263_103 : mm_cd 263 103 = some (.iinc 3 1, 3, 0, 0) := rfl
theorem i263_106 : mm_cd 263 106 = some (.goto (-49), 3, 0, 0) := rfl
theorem i263_109 : mm_cd 263 109 = some (.aload_n 0, 1, 0, 0) := rfl
theorem i263_110 : mm_cd 263 110 = some (.iload_n 2, 1, 0, 0) := rfl
theorem i263_111 : mm_cd 263 111 = some (.iconst 2, 1, 0, 0) := rfl
theorem i263_112 : mm_cd 263 112 = some (.invokevirtual 146, 3, 0, 200) := rfl
theorem i263_115 : mm_cd 263 115 = some (.aload_n 0, 1, 0, 0) := rfl
theorem i263_116 : mm_cd 263 116 = some (.iload_n 1, 1, 0, 0) := rfl
theorem i263_117 : mm_cd 263 117 = some (.iconst 2, 1, 0, 0) := rfl
theorem i263_118 : mm_cd 263 118 = some (.invokevirtual 69, 3, 0, 204) := rfl
theorem i263_121 : mm_cd 263 121 = some (.if_icmp .le 57, 3, 0, 0) := rfl
theorem i263_124 : mm_cd 263 124 = some (.aload_n 0, 1, 0, 0) := rfl
theorem i263_125 : mm_cd 263 125 = some (.getfield 13, 3, ((11 : Nat) : Int), 1) := rfl
theorem i263_128 : mm_cd 263 128 = some (.iload_n 1, 1, 0, 0) := rfl
theorem i263_129 : mm_cd 263 129 = some (.bipush 8, 2, 0, 0) := rfl
theorem i263_131 : mm_cd 263 131 = some (.invokestatic 66, 3, 0, 203) := rfl
theorem i263_134 : mm_cd 263 134 = some (.aload_n 0, 1, 0, 0) := rfl
theorem i263_135 : mm_cd 263 135 = some (.iload_n 1, 1, 0, 0) := rfl
theorem i263_136 : mm_cd 263 136 = some (.iconst 2, 1, 0, 0) := rfl
theorem i263_137 : mm_cd 263 137 = some (.invokevirtual 69, 3, 0, 204) := rfl
theorem i263_140 : mm_cd 263 140 = some (.iconst 1, 1, 0, 0) := rfl
theorem i263_141 : mm_cd 263 141 = some (.iadd, 1, 0, 0) := rfl
theorem i263_142 : mm_cd 263 142 = some (.iastore, 1, 0, 0) := rfl
theorem i263_143 : mm_cd 263 143 = some (.aload_n 0, 1, 0, 0) := rfl
theorem i263_144 : mm_cd 263 144 = some (.iload_n 2, 1, 0, 0) := rfl
theorem i263_145 : mm_cd 263 145 = some (.iconst 3, 1, 0, 0) := rfl
theorem i263_146 : mm_cd 263 146 = some (.invokevirtual 146, 3, 0, 200) := rfl
theorem i263_149 : mm_cd 263 149 = some (.istore_n 3, 1, 0, 0) := rfl
theorem i263_150 : mm_cd 263 150 = some (.iload_n 3, 1, 0, 0) := rfl
theorem i263_151 : mm_cd 263 151 = some (.ifCond .le 27, 3, 0, 0) := rfl
theorem i263_154 : mm_cd 263 154 = some (.aload_n 0, 1, 0, 0) := rfl
theorem i263_155 : mm_cd 263 155 = some (.iload_n 1, 1, 0, 0) := rfl
theorem i263_156 : mm_cd 263 156 = some (.invokevirtual 282, 3, 0, 207) := rfl
theorem i263_159 : mm_cd 263 159 = some (.ifCond .eq 13, 3, 0, 0) := rfl
theorem i263_162 : mm_cd 263 162 = some (.iload_n 3, 1, 0, 0) := rfl
theorem i263_163 : mm_cd 263 163 = some (.aload_n 0, 1, 0, 0) := rfl
theorem i263_164 : mm_cd 263 164 = some (.iload_n 1, 1, 0, 0) := rfl
theorem i263_165 : mm_cd 263 165 = some (.iconst 2, 1, 0, 0) := rfl
theorem i263_166 : mm_cd 263 166 = some (.invokevirtual 69, 3, 0, 204) := rfl
theorem i263_169 : mm_cd 263 169 = some (.if_icmp .ge 9, 3, 0, 0) := rfl
theorem i263_172 : mm_cd 263 172 = some (.aload_n 0, 1, 0, 0) := rfl
theorem i263_173 : mm_cd 263 173 = some (.iload_n 1, 1, 0, 0) := rfl
theorem i263_174 : mm_cd 263 174 = some (.iconst 1, 1, 0, 0) := rfl
theorem i263_175 : mm_cd 263 175 = some (.invokevirtual 307, 3, 0, 254) := rfl
theorem i263_178 : mm_cd 263 178 = some (.aload_n 0, 1, 0, 0) := rfl
theorem i263_179 : mm_cd 263 179 = some (.invokevirtual 331, 3, 0, 257) := rfl
theorem i263_182 : mm_cd 263 182 = some (.aload_n 0, 1, 0, 0) := rfl
theorem i263_183 : mm_cd 263 183 = some (.invokevirtual 252, 3, 0, 261) := rfl
theorem i263_186 : mm_cd 263 186 = some (.return_, 1, 0, 0) := rfl
def q263_103 (k57 : Int32 → Int32 → Int32 → mS → Option mQ) (v1 : Int32) (v2 : Int32) (v3 : Int32) (s : mS) : Option mQ := bx (v3 + (1 : Int32)) fun x1 => k57 v1 v2 x1 s
theorem t263_103 {L : Nat} {xs : Nat → Int32} {d : Nat} {k57 : Int32 → Int32 → Int32 → mS → Option mQ} (hk57 : ∀ (v1 : Int32) (v2 : Int32) (v3 : Int32) (s : mS) (r : mQ), k57 v1 v2 v3 s = some r → Ev L xs d 263 57 [(0, .ref 512), (1, .int v1), (2, .int v2), (3, .int v3)] [] (hp s) (hr r)) (hd : 10 ≤ d) {v1 : Int32} {v2 : Int32} {v3 : Int32} {s : mS} {r : mQ} (h : q263_103 k57 v1 v2 v3 s = some r) : Ev L xs d 263 103 [(0, .ref 512), (1, .int v1), (2, .int v2), (3, .int v3)] [] (hp s) (hr r) := by
  unfold q263_103 at h
  refine Rd.iinc H263 i263_103 (Nat.le_of_ble_eq_true rfl) rfl kI_1 (lv2 := fun x1 => [(3, .int x1), (0, .ref 512), (1, .int v1), (2, .int v2)]) (fun _ => rfl) h (fun x1 h => ?_)
  refine Ev.goto H263 i263_106 (t := 57) (by decide) ?_
  exact Ev.sub (l := [(0, .ref 512), (1, .int v1), (2, .int v2), (3, .int x1)]) rfl rfl (mm_sub_c rfl (mm_sub_c rfl (mm_sub_c rfl (mm_sub_c rfl mm_sub_n)))) (hk57 _ _ _ _ _ h)
def q263_57 (k109 : Int32 → Int32 → mS → Option mQ) : Nat → Int32 → Int32 → Int32 → mS → Option mQ
  | 0, _, _, _, _ => none
  | n + 1, v1, v2, v3, s => if (8 : Int32) ≤ v3 then (k109 v1 v2 s) else (bN (q250 v1 v3 s) fun x3 s2 => if x3 = 0 then (q263_103 (q263_57 k109 n) v1 v2 v3 s2) else (bN (q204 v3 (6 : Int32) s2) fun x5 s4 => bN (q190 x5 v2 s4) fun x7 s6 => if x7 = 0 then (q263_103 (q263_57 k109 n) v1 v2 v3 s6) else (bN (q203 v1 (7 : Int32) s6) fun x9 s8 => gA 2468 x9 <| gA 2468 x9 <| sp (sI s8 513 x9.toNatClampNeg ((s8.1 513 x9.toNatClampNeg) ||| (shlI (1 : Int32) v3))) fun s10 => q263_103 (q263_57 k109 n) v1 v2 v3 s10)))
theorem t263_57 {L : Nat} {xs : Nat → Int32} {d : Nat} {k109 : Int32 → Int32 → mS → Option mQ} (hk109 : ∀ (v1 : Int32) (v2 : Int32) (s : mS) (r : mQ), k109 v1 v2 s = some r → Ev L xs d 263 109 [(0, .ref 512), (1, .int v1), (2, .int v2)] [] (hp s) (hr r)) (hd : 10 ≤ d) : ∀ (n : Nat) (v1 : Int32) (v2 : Int32) (v3 : Int32) (s : mS) (r : mQ), q263_57 k109 n v1 v2 v3 s = some r → Ev L xs d 263 57 [(0, .ref 512), (1, .int v1), (2, .int v2), (3, .int v3)] [] (hp s) (hr r) := by
  intro n
  induction n with
  | zero => intro v1 v2 v3 s r h; rw [q263_57] at h; cases h
  | succ n ih =>
    intro v1 v2 v3 s r h
    rw [q263_57] at h
    refine Ev.iload_n H263 i263_57 rfl ?_
    refine Ev.bipush H263 i263_58 kB_8 ?_
    refine Rd.ic_ge H263 i263_60 (t := 109) (by decide) h (fun hc h => ?_) (fun hc h => ?_)
    · exact Ev.sub (l := [(0, .ref 512), (1, .int v1), (2, .int v2)]) rfl rfl (mm_sub_c rfl (mm_sub_c rfl (mm_sub_c rfl mm_sub_n))) (hk109 _ _ _ _ h)
    · refine Ev.aload_n H263 i263_63 rfl ?_
      refine Ev.iload_n H263 i263_64 rfl ?_
      refine Ev.iload_n H263 i263_65 rfl ?_
      refine Rd.cV2vN H263 i263_66 cal250 ob11 (Nat.le_of_ble_eq_true rfl) (Nat.le_of_ble_eq_true rfl) (Nat.lt_of_lt_of_le (by decide) hd) (fun q hq => c250 hq) h (fun x3 s2 h => ?_)
      refine Rd.if_eq H263 i263_69 (t := 103) (by decide) h (fun hc h => ?_) (fun hc h => ?_)
      · exact Ev.sub (l := [(0, .ref 512), (1, .int v1), (2, .int v2), (3, .int v3)]) rfl rfl (mm_sub_c rfl (mm_sub_c rfl (mm_sub_c rfl (mm_sub_c rfl mm_sub_n)))) (t263_103 (k57 := (q263_57 k109 n)) (fun _ _ _ _ _ h => ih _ _ _ _ _ h) hd h)
      · refine Ev.aload_n H263 i263_72 rfl ?_
        refine Ev.iload_n H263 i263_73 rfl ?_
        refine Ev.bipush H263 i263_74 kB_6 ?_
        refine Rd.cV2vN H263 i263_76 cal204 ob11 (Nat.le_of_ble_eq_true rfl) (Nat.le_of_ble_eq_true rfl) (Nat.lt_of_lt_of_le (by decide) hd) (fun q hq => c204 hq) h (fun x5 s4 h => ?_)
        refine Ev.iload_n H263 i263_79 rfl ?_
        refine Rd.cS2vN H263 i263_80 cal190 (Nat.le_of_ble_eq_true rfl) (Nat.le_of_ble_eq_true rfl) (Nat.lt_of_lt_of_le (by decide) hd) (fun q hq => c190 hq) h (fun x7 s6 h => ?_)
        refine Rd.if_eq H263 i263_83 (t := 103) (by decide) h (fun hc h => ?_) (fun hc h => ?_)
        · exact Ev.sub (l := [(0, .ref 512), (1, .int v1), (2, .int v2), (3, .int v3)]) rfl rfl (mm_sub_c rfl (mm_sub_c rfl (mm_sub_c rfl (mm_sub_c rfl mm_sub_n)))) (t263_103 (k57 := (q263_57 k109 n)) (fun _ _ _ _ _ h => ih _ _ _ _ _ h) hd h)
        · refine Ev.aload_n H263 i263_86 rfl ?_
          refine Rd.getR H263 i263_87 ob11 rfl ?_
          refine Ev.iload_n H263 i263_90 rfl ?_
          refine Ev.bipush H263 i263_91 kB_7 ?_
          refine Rd.cS2vN H263 i263_93 cal203 (Nat.le_of_ble_eq_true rfl) (Nat.le_of_ble_eq_true rfl) (Nat.lt_of_lt_of_le (by decide) hd) (fun q hq => c203 hq) h (fun x9 s8 h => ?_)
          refine Ev.dup2 H263 i263_96 ⟨rfl, rfl⟩ ?_
          refine Rd.iaload H263 i263_97 ar_513 h (fun h => ?_)
          refine Ev.iconst H263 i263_98 kI_1 ?_
          refine Ev.iload_n H263 i263_99 rfl ?_
          refine Rd.ishl H263 i263_100 ?_
          refine Ev.ior H263 i263_101 ?_
          refine Rd.iastore H263 i263_102 ar_513 h (fun s10 h => ?_)
          exact Ev.sub (l := [(0, .ref 512), (1, .int v1), (2, .int v2), (3, .int v3)]) rfl rfl (mm_sub_c rfl (mm_sub_c rfl (mm_sub_c rfl (mm_sub_c rfl mm_sub_n)))) (t263_103 (k57 := (q263_57 k109 n)) (fun _ _ _ _ _ h => ih _ _ _ _ _ h) hd h)
def q263_178 (s : mS) : Option mQ := bM (q257 s) fun s11 => bM (q261 s11) fun s12 => ru s12
theorem t263_178 {L : Nat} {xs : Nat → Int32} {d : Nat} (hd : 10 ≤ d) {s : mS} {r : mQ} (h : q263_178 s = some r) : Ev L xs d 263 178 [(0, .ref 512)] [] (hp s) (hr r) := by
  unfold q263_178 at h
  refine Ev.aload_n H263 i263_178 rfl ?_
  refine Rd.cV0uN H263 i263_179 cal257 ob11 (Nat.le_of_ble_eq_true rfl) (Nat.le_of_ble_eq_true rfl) (Nat.lt_of_lt_of_le (by decide) hd) (fun q hq => c257 hq) h (fun s11 h => ?_)
  refine Ev.aload_n H263 i263_182 rfl ?_
  refine Rd.cV0uN H263 i263_183 cal261 ob11 (Nat.le_of_ble_eq_true rfl) (Nat.le_of_ble_eq_true rfl) (Nat.lt_of_lt_of_le (by decide) hd) (fun q hq => c261 hq) h (fun s12 h => ?_)
  exact Rd.return_ H263 i263_186 rfl h
def q263_172 (v1 : Int32) (s : mS) : Option mQ := bM (q254 v1 (1 : Int32) s) fun s13 => q263_178 s13
theorem t263_172 {L : Nat} {xs : Nat → Int32} {d : Nat} (hd : 10 ≤ d) {v1 : Int32} {s : mS} {r : mQ} (h : q263_172 v1 s = some r) : Ev L xs d 263 172 [(0, .ref 512), (1, .int v1)] [] (hp s) (hr r) := by
  unfold q263_172 at h
  refine Ev.aload_n H263 i263_172 rfl ?_
  refine Ev.iload_n H263 i263_173 rfl ?_
  refine Ev.iconst H263 i263_174 kI_1 ?_
  refine Rd.cV2uN H263 i263_175 cal254 ob11 (Nat.le_of_ble_eq_true rfl) (Nat.le_of_ble_eq_true rfl) (Nat.lt_of_lt_of_le (by decide) hd) (fun q hq => c254 hq) h (fun s13 h => ?_)
  exact Ev.sub (l := [(0, .ref 512)]) rfl rfl (mm_sub_c rfl mm_sub_n) (t263_178 hd h)
def q263_109 (v1 : Int32) (v2 : Int32) (s : mS) : Option mQ := bN (q200 v2 (2 : Int32) s) fun x15 s14 => bN (q204 v1 (2 : Int32) s14) fun x17 s16 => if x15 ≤ x17 then (q263_178 s16) else (bN (q203 v1 (8 : Int32) s16) fun x19 s18 => bN (q204 v1 (2 : Int32) s18) fun x21 s20 => gA 2468 x19 <| sp (sI s20 513 x19.toNatClampNeg (x21 + (1 : Int32))) fun s22 => bN (q200 v2 (3 : Int32) s22) fun x24 s23 => if x24 ≤ 0 then (q263_178 s23) else (bN (q207 v1 s23) fun x26 s25 => if x26 = 0 then (q263_172 v1 s25) else (bN (q204 v1 (2 : Int32) s25) fun x28 s27 => if x28 ≤ x24 then (q263_178 s27) else (q263_172 v1 s27))))
theorem t263_109 {L : Nat} {xs : Nat → Int32} {d : Nat} (hd : 10 ≤ d) {v1 : Int32} {v2 : Int32} {s : mS} {r : mQ} (h : q263_109 v1 v2 s = some r) : Ev L xs d 263 109 [(0, .ref 512), (1, .int v1), (2, .int v2)] [] (hp s) (hr r) := by
  unfold q263_109 at h
  refine Ev.aload_n H263 i263_109 rfl ?_
  refine Ev.iload_n H263 i263_110 rfl ?_
  refine Ev.iconst H263 i263_111 kI_2 ?_
  refine Rd.cV2vN H263 i263_112 cal200 ob11 (Nat.le_of_ble_eq_true rfl) (Nat.le_of_ble_eq_true rfl) (Nat.lt_of_lt_of_le (by decide) hd) (fun q hq => c200 hq) h (fun x15 s14 h => ?_)
  refine Ev.aload_n H263 i263_115 rfl ?_
  refine Ev.iload_n H263 i263_116 rfl ?_
  refine Ev.iconst H263 i263_117 kI_2 ?_
  refine Rd.cV2vN H263 i263_118 cal204 ob11 (Nat.le_of_ble_eq_true rfl) (Nat.le_of_ble_eq_true rfl) (Nat.lt_of_lt_of_le (by decide) hd) (fun q hq => c204 hq) h (fun x17 s16 h => ?_)
  refine Rd.ic_le H263 i263_121 (t := 178) (by decide) h (fun hc h => ?_) (fun hc h => ?_)
  · exact Ev.sub (l := [(0, .ref 512)]) rfl rfl (mm_sub_c rfl mm_sub_n) (t263_178 hd h)
  · refine Ev.aload_n H263 i263_124 rfl ?_
    refine Rd.getR H263 i263_125 ob11 rfl ?_
    refine Ev.iload_n H263 i263_128 rfl ?_
    refine Ev.bipush H263 i263_129 kB_8 ?_
    refine Rd.cS2vN H263 i263_131 cal203 (Nat.le_of_ble_eq_true rfl) (Nat.le_of_ble_eq_true rfl) (Nat.lt_of_lt_of_le (by decide) hd) (fun q hq => c203 hq) h (fun x19 s18 h => ?_)
    refine Ev.aload_n H263 i263_134 rfl ?_
    refine Ev.iload_n H263 i263_135 rfl ?_
    refine Ev.iconst H263 i263_136 kI_2 ?_
    refine Rd.cV2vN H263 i263_137 cal204 ob11 (Nat.le_of_ble_eq_true rfl) (Nat.le_of_ble_eq_true rfl) (Nat.lt_of_lt_of_le (by decide) hd) (fun q hq => c204 hq) h (fun x21 s20 h => ?_)
    refine Ev.iconst H263 i263_140 kI_1 ?_
    refine Ev.iadd H263 i263_141 ?_
    refine Rd.iastore H263 i263_142 ar_513 h (fun s22 h => ?_)
    refine Ev.aload_n H263 i263_143 rfl ?_
    refine Ev.iload_n H263 i263_144 rfl ?_
    refine Ev.iconst H263 i263_145 kI_3 ?_
    refine Rd.cV2vN H263 i263_146 cal200 ob11 (Nat.le_of_ble_eq_true rfl) (Nat.le_of_ble_eq_true rfl) (Nat.lt_of_lt_of_le (by decide) hd) (fun q hq => c200 hq) h (fun x24 s23 h => ?_)
    refine Ev.istore_n H263 i263_149 (Nat.le_of_ble_eq_true rfl) (lv2 := [(3, .int x24), (0, .ref 512), (1, .int v1), (2, .int v2)]) rfl ?_
    refine Ev.iload_n H263 i263_150 rfl ?_
    refine Rd.if_le H263 i263_151 (t := 178) (by decide) h (fun hc h => ?_) (fun hc h => ?_)
    · exact Ev.sub (l := [(0, .ref 512)]) rfl rfl (mm_sub_c rfl mm_sub_n) (t263_178 hd h)
    · refine Ev.aload_n H263 i263_154 rfl ?_
      refine Ev.iload_n H263 i263_155 rfl ?_
      refine Rd.cV1vN H263 i263_156 cal207 ob11 (Nat.le_of_ble_eq_true rfl) (Nat.le_of_ble_eq_true rfl) (Nat.lt_of_lt_of_le (by decide) hd) (fun q hq => c207 hq) h (fun x26 s25 h => ?_)
      refine Rd.if_eq H263 i263_159 (t := 172) (by decide) h (fun hc h => ?_) (fun hc h => ?_)
      · exact Ev.sub (l := [(0, .ref 512), (1, .int v1)]) rfl rfl (mm_sub_c rfl (mm_sub_c rfl mm_sub_n)) (t263_172 hd h)
      · refine Ev.iload_n H263 i263_162 rfl ?_
        refine Ev.aload_n H263 i263_163 rfl ?_
        refine Ev.iload_n H263 i263_164 rfl ?_
        refine Ev.iconst H263 i263_165 kI_2 ?_
        refine Rd.cV2vN H263 i263_166 cal204 ob11 (Nat.le_of_ble_eq_true rfl) (Nat.le_of_ble_eq_true rfl) (Nat.lt_of_lt_of_le (by decide) hd) (fun q hq => c204 hq) h (fun x28 s27 h => ?_)
        refine Rd.ic_ge H263 i263_169 (t := 178) (by decide) h (fun hc h => ?_) (fun hc h => ?_)
        · exact Ev.sub (l := [(0, .ref 512)]) rfl rfl (mm_sub_c rfl mm_sub_n) (t263_178 hd h)
        · exact Ev.sub (l := [(0, .ref 512), (1, .int v1)]) rfl rfl (mm_sub_c rfl (mm_sub_c rfl mm_sub_n)) (t263_172 hd h)
/-- SerialGateModel.reads(II)V -/
def q263 (v1 : Int32) (v2 : Int32) (s : mS) : Option mQ := bN (q203 v1 (4 : Int32) s) fun x30 s29 => gA 2468 x30 <| gA 2468 x30 <| sp (sI s29 513 x30.toNatClampNeg ((s29.1 513 x30.toNatClampNeg) ||| (shlI (1 : Int32) v2))) fun s31 => bN (q204 v1 (6 : Int32) s31) fun x33 s32 => bN (q190 x33 v2 s32) fun x35 s34 => if ¬ x35 = 0 then (ru s34) else (bN (q252 v1 s34) fun x37 s36 => if x37 = 0 then (bN (q203 v1 (5 : Int32) s36) fun x39 s38 => gA 2468 x39 <| gA 2468 x39 <| sp (sI s38 513 x39.toNatClampNeg ((s38.1 513 x39.toNatClampNeg) ||| (shlI (1 : Int32) v2))) fun s40 => q263_57 (q263_109) 10000 v1 v2 (0 : Int32) s40) else (ru s36))
theorem c263 {L : Nat} {xs : Nat → Int32} {v1 : Int32} {v2 : Int32} {s : mS} {r : mQ} (h : q263 v1 v2 s = some r) : ∀ d, 10 ≤ d → Cl L xs d 263 [.ref 512, .int v1, .int v2] (hp s) (hr r) := by
  intro d hd
  show Ev L xs d 263 0 [(0, .ref 512), (1, .int v1), (2, .int v2)] [] (hp s) (hr r)
  unfold q263 at h
  refine Ev.aload_n H263 i263_0 rfl ?_
  refine Rd.getR H263 i263_1 ob11 rfl ?_
  refine Ev.iload_n H263 i263_4 rfl ?_
  refine Ev.iconst H263 i263_5 kI_4 ?_
  refine Rd.cS2vN H263 i263_6 cal203 (Nat.le_of_ble_eq_true rfl) (Nat.le_of_ble_eq_true rfl) (Nat.lt_of_lt_of_le (by decide) hd) (fun q hq => c203 hq) h (fun x30 s29 h => ?_)
  refine Ev.dup2 H263 i263_9 ⟨rfl, rfl⟩ ?_
  refine Rd.iaload H263 i263_10 ar_513 h (fun h => ?_)
  refine Ev.iconst H263 i263_11 kI_1 ?_
  refine Ev.iload_n H263 i263_12 rfl ?_
  refine Rd.ishl H263 i263_13 ?_
  refine Ev.ior H263 i263_14 ?_
  refine Rd.iastore H263 i263_15 ar_513 h (fun s31 h => ?_)
  refine Ev.aload_n H263 i263_16 rfl ?_
  refine Ev.iload_n H263 i263_17 rfl ?_
  refine Ev.bipush H263 i263_18 kB_6 ?_
  refine Rd.cV2vN H263 i263_20 cal204 ob11 (Nat.le_of_ble_eq_true rfl) (Nat.le_of_ble_eq_true rfl) (Nat.lt_of_lt_of_le (by decide) hd) (fun q hq => c204 hq) h (fun x33 s32 h => ?_)
  refine Ev.iload_n H263 i263_23 rfl ?_
  refine Rd.cS2vN H263 i263_24 cal190 (Nat.le_of_ble_eq_true rfl) (Nat.le_of_ble_eq_true rfl) (Nat.lt_of_lt_of_le (by decide) hd) (fun q hq => c190 hq) h (fun x35 s34 h => ?_)
  refine Rd.if_ne H263 i263_27 (t := 38) (by decide) h (fun hc h => ?_) (fun hc h => ?_)
  · exact Rd.return_ H263 i263_38 rfl h
  · refine Ev.aload_n H263 i263_30 rfl ?_
    refine Ev.iload_n H263 i263_31 rfl ?_
    refine Rd.cV1vN H263 i263_32 cal252 ob11 (Nat.le_of_ble_eq_true rfl) (Nat.le_of_ble_eq_true rfl) (Nat.lt_of_lt_of_le (by decide) hd) (fun q hq => c252 hq) h (fun x37 s36 h => ?_)
    refine Rd.if_eq H263 i263_35 (t := 39) (by decide) h (fun hc h => ?_) (fun hc h => ?_)
    · refine Ev.aload_n H263 i263_39 rfl ?_
      refine Rd.getR H263 i263_40 ob11 rfl ?_
      refine Ev.iload_n H263 i263_43 rfl ?_
      refine Ev.iconst H263 i263_44 kI_5 ?_
      refine Rd.cS2vN H263 i263_45 cal203 (Nat.le_of_ble_eq_true rfl) (Nat.le_of_ble_eq_true rfl) (Nat.lt_of_lt_of_le (by decide) hd) (fun q hq => c203 hq) h (fun x39 s38 h => ?_)
      refine Ev.dup2 H263 i263_48 ⟨rfl, rfl⟩ ?_
      refine Rd.iaload H263 i263_49 ar_513 h (fun h => ?_)
      refine Ev.iconst H263 i263_50 kI_1 ?_
      refine Ev.iload_n H263 i263_51 rfl ?_
      refine Rd.ishl H263 i263_52 ?_
      refine Ev.ior H263 i263_53 ?_
      refine Rd.iastore H263 i263_54 ar_513 h (fun s40 h => ?_)
      refine Ev.iconst H263 i263_55 kI_0 ?_
      refine Ev.istore_n H263 i263_56 (Nat.le_of_ble_eq_true rfl) (lv2 := [(3, .int (0 : Int32)), (0, .ref 512), (1, .int v1), (2, .int v2)]) rfl ?_
      exact Ev.sub (l := [(0, .ref 512), (1, .int v1), (2, .int v2), (3, .int (0 : Int32))]) rfl rfl (mm_sub_c rfl (mm_sub_c rfl (mm_sub_c rfl (mm_sub_c rfl mm_sub_n)))) (t263_57 (k109 := (q263_109)) (fun _ _ _ _ h => t263_109 hd h) hd 10000 _ _ _ _ _ h)
    · exact Rd.return_ H263 i263_38 rfl h
theorem i264_0 : mm_cd 264 0 = some (.aload_n 0, 1, 0, 0) := rfl
theorem i264_1 : mm_cd 264 1 = some (.iload_n 2, 1, 0, 0) := rfl
theorem i264_2 : mm_cd 264 2 = some (.invokevirtual 142, 3, 0, 210) := rfl
theorem i264_5 : mm_cd 264 5 = some (.istore_n 3, 1, 0, 0) := rfl
theorem i264_6 : mm_cd 264 6 = some (.iload_n 3, 1, 0, 0) := rfl
theorem i264_7 : mm_cd 264 7 = some (.iconst (-1), 1, 0, 0) := rfl
theorem i264_8 : mm_cd 264 8 = some (.if_icmp .eq 12, 3, 0, 0) := rfl
theorem i264_11 : mm_cd 264 11 = some (.iload_n 3, 1, 0, 0) := rfl
theorem i264_12 : mm_cd 264 12 = some (.iload_n 1, 1, 0, 0) := rfl
theorem i264_13 : mm_cd 264 13 = some (.if_icmp .eq 7, 3, 0, 0) := rfl
theorem i264_16 : mm_cd 264 16 = some (.iconst 1, 1, 0, 0) := rfl
theorem i264_17 : mm_cd 264 17 = some (.goto 4, 3, 0, 0) := rfl
theorem i264_20 : mm_cd 264 20 = some (.iconst 0, 1, 0, 0) := rfl
theorem i264_21 : mm_cd 264 21 = some (.ireturn, 1, 0, 0) := rfl
/-- SerialGateModel.hasToWait(II)Z -/
def q264 (v1 : Int32) (v2 : Int32) (s : mS) : Option mQ := bN (q210 v2 s) fun x2 s1 => if x2 = (-1 : Int32) then (rv (0 : Int32) s1) else (if x2 = v1 then (rv (0 : Int32) s1) else (rv (1 : Int32) s1))
theorem c264 {L : Nat} {xs : Nat → Int32} {v1 : Int32} {v2 : Int32} {s : mS} {r : mQ} (h : q264 v1 v2 s = some r) : ∀ d, 4 ≤ d → Cl L xs d 264 [.ref 512, .int v1, .int v2] (hp s) (hr r) := by
  intro d hd
  show Ev L xs d 264 0 [(0, .ref 512), (1, .int v1), (2, .int v2)] [] (hp s) (hr r)
  unfold q264 at h
  refine Ev.aload_n H264 i264_0 rfl ?_
  refine Ev.iload_n H264 i264_1 rfl ?_
  refine Rd.cV1vN H264 i264_2 cal210 ob11 (Nat.le_of_ble_eq_true rfl) (Nat.le_of_ble_eq_true rfl) (Nat.lt_of_lt_of_le (by decide) hd) (fun q hq => c210 hq) h (fun x2 s1 h => ?_)
  refine Ev.istore_n H264 i264_5 (Nat.le_of_ble_eq_true rfl) (lv2 := [(3, .int x2), (0, .ref 512), (1, .int v1), (2, .int v2)]) rfl ?_
  refine Ev.iload_n H264 i264_6 rfl ?_
  refine Ev.iconst H264 i264_7 kI_m1 ?_
  refine Rd.ic_eq H264 i264_8 (t := 20) (by decide) h (fun hc h => ?_) (fun hc h => ?_)
  · refine Ev.iconst H264 i264_20 kI_0 ?_
    exact Rd.ireturnK H264 i264_21 rfl (Or.inl rfl) h
  · refine Ev.iload_n H264 i264_11 rfl ?_
    refine Ev.iload_n H264 i264_12 rfl ?_
    refine Rd.ic_eq H264 i264_13 (t := 20) (by decide) h (fun hc h => ?_) (fun hc h => ?_)
    · refine Ev.iconst H264 i264_20 kI_0 ?_
      exact Rd.ireturnK H264 i264_21 rfl (Or.inl rfl) h
    · refine Ev.iconst H264 i264_16 kI_1 ?_
      refine Ev.goto H264 i264_17 (t := 21) (by decide) ?_
      exact Rd.ireturnK H264 i264_21 rfl (Or.inr rfl) h
theorem i265_0 : mm_cd 265 0 = some (.aload_n 0, 1, 0, 0) := rfl
theorem i265_1 : mm_cd 265 1 = some (.iload_n 2, 1, 0, 0) := rfl
theorem i265_2 : mm_cd 265 2 = some (.iconst 0, 1, 0, 0) := rfl
theorem i265_3 : mm_cd 265 3 = some (.invokevirtual 146, 3, 0, 200) := rfl
theorem i265_6 : mm_cd 265 6 = some (.aload_n 0, 1, 0, 0) := rfl
theorem i265_7 : mm_cd 265 7 = some (.iload_n 1, 1, 0, 0) := rfl
theorem i265_8 : mm_cd 265 8 = some (.bipush 11, 2, 0, 0) := rfl
theorem i265_10 : mm_cd 265 10 = some (.iload_n 2, 1, 0, 0) := rfl
theorem i265_11 : mm_cd 265 11 = some (.iadd, 1, 0, 0) := rfl
theorem i265_12 : mm_cd 265 12 = some (.invokevirtual 69, 3, 0, 204) := rfl
theorem i265_15 : mm_cd 265 15 = some (.if_icmp .ne 118, 3, 0, 0) := rfl
theorem i265_18 : mm_cd 265 18 = some (.aload_n 0, 1, 0, 0) := rfl
theorem i265_19 : mm_cd 265 19 = some (.getfield 13, 3, ((11 : Nat) : Int), 1) := rfl
theorem i265_22 : mm_cd 265 22 = some (.iload_n 1, 1, 0, 0) := rfl
theorem i265_23 : mm_cd 265 23 = some (.bipush 6, 2, 0, 0) := rfl
theorem i265_25 : mm_cd 265 25 = some (.invokestatic 66, 3, 0, 203) := rfl
theorem i265_28 : mm_cd 265 28 = some (.dup2, 1, 0, 0) := rfl
theorem i265_29 : mm_cd 265 29 = some (.iaload, 1, 0, 0) := rfl
theorem i265_30 : mm_cd 265 30 = some (.iconst 1, 1, 0, 0) := rfl
theorem i265_31 : mm_cd 265 31 = some (.iload_n 2, 1, 0, 0) := rfl
theorem i265_32 : mm_cd 265 32 = some (.ishl, 1, 0, 0) := rfl
theorem i265_33 : mm_cd 265 33 = some (.ior, 1, 0, 0) := rfl
theorem i265_34 : mm_cd 265 34 = some (.iastore, 1, 0, 0) := rfl
theorem i265_35 : mm_cd 265 35 = some (.iconst 0, 1, 0, 0) := rfl
theorem i265_36 : mm_cd 265 36 = some (.istore_n 3, 1, 0, 0) := rfl
theorem i265_37 : mm_cd 265 37 = some (.iload_n 3, 1, 0, 0) := rfl
theorem i265_38 : mm_cd 265 38 = some (.bipush 8, 2, 0, 0) := rfl
theorem i265_40 : mm_cd 265 40 = some (.if_icmp .ge 48, 3, 0, 0) := rfl
theorem i265_43 : mm_cd 265 43 = some (.aload_n 0, 1, 0, 0) := rfl
theorem i265_44 : mm_cd 265 44 = some (.iload_n 1, 1, 0, 0) := rfl
theorem i265_45 : mm_cd 265 45 = some (.iload_n 3, 1, 0, 0) := rfl
theorem i265_46 : mm_cd 265 46 = some (.invokevirtual 328, 3, 0, 250) := rfl
theorem i265_49 : mm_cd 265 49 = some (.ifCond .eq 33, 3, 0, 0) := rfl
theorem i265_52 : mm_cd 265 52 = some (.aload_n 0, 1, 0, 0) := rfl
theorem i265_53 : mm_cd 265 53 = some (.iload_n 3, 1, 0, 0) := rfl
theorem i265_54 : mm_cd 265 54 = some (.iconst 5, 1, 0, 0) := rfl
theorem i265_55 : mm_cd 265 55 = some (.invokevirtual 69, 3, 0, 204) := rfl
theorem i265_58 : mm_cd 265 58 = some (.iload_n 2, 1, 0, 0) := rfl
theorem i265_59 : mm_cd 265 59 = some (.invokestatic 79, 3, 0, 190) := rfl
theorem i265_62 : mm_cd 265 62 = some (.ifCond .eq 20, 3, 0, 0) := rfl
theorem i265_65 : mm_cd 265 65 = some (.aload_n 0, 1, 0, 0) := rfl
theorem i265_66 : mm_cd 265 66 = some (.getfield 13, 3, ((11 : Nat) : Int), 1) := rfl
theorem i265_69 : mm_cd 265 69 = some (.iload_n 3, 1, 0, 0) := rfl
theorem i265_70 : mm_cd 265 70 = some (.bipush 7, 2, 0, 0) := rfl
theorem i265_72 : mm_cd 265 72 = some (.invokestatic 66, 3, 0, 203) := rfl
theorem i265_75 : mm_cd 265 75 = some (.dup2, 1, 0, 0) := rfl
theorem i265_76 : mm_cd 265 76 = some (.iaload, 1, 0, 0) := rfl
theorem i265_77 : mm_cd 265 77 = some (.iconst 1, 1, 0, 0) := rfl
theorem i265_78 : mm_cd 265 78 = some (.iload_n 1, 1, 0, 0) := rfl
theorem i265_79 : mm_cd 265 79 = some (.ishl, 1, 0, 0) := rfl
theorem i265_80 : mm_cd 265 80 = some (.ior, 1, 0, 0) := rfl
theorem i265_81 : mm_cd 265 81 = some (.iastore, 1, 0, 0) := rfl
theorem i265_82 : mm_cd 265 82 = some (.iinc 3 1, 3, 0, 0) := rfl
theorem i265_85 : mm_cd 265 85 = some (.goto (-48), 3, 0, 0) := rfl
theorem i265_88 : mm_cd 265 88 = some (.aload_n 0, 1, 0, 0) := rfl
theorem i265_89 : mm_cd 265 89 = some (.iload_n 2, 1, 0, 0) := rfl
theorem i265_90 : mm_cd 265 90 = some (.iconst 1, 1, 0, 0) := rfl
theorem i265_91 : mm_cd 265 91 = some (.invokevirtual 146, 3, 0, 200) := rfl
theorem i265_94 : mm_cd 265 94 = some (.aload_n 0, 1, 0, 0) := rfl
theorem i265_95 : mm_cd 265 95 = some (.iload_n 1, 1, 0, 0) := rfl
theorem i265_96 : mm_cd 265 96 = some (.iconst 2, 1, 0, 0) := rfl
theorem i265_97 : mm_cd 265 97 = some (.invokevirtual 69, 3, 0, 204) := rfl
theorem i265_100 : mm_cd 265 100 = some (.if_icmp .le 39, 3, 0, 0) := rfl
theorem i265_103 : mm_cd 265 103 = some (.aload_n 0, 1, 0, 0) := rfl
theorem i265_104 : mm_cd 265 104 = some (.getfield 13, 3, ((11 : Nat) : Int), 1) := rfl
theorem i265_107 : mm_cd 265 107 = some (.iload_n 1, 1, 0, 0) := rfl
theorem i265_108 : mm_cd 265 108 = some (.bipush 9, 2, 0, 0) := rfl
theorem i265_110 : mm_cd 265 110 = some (.invokestatic 66, 3, 0, 203) := rfl
theorem i265_113 : mm_cd 265 113 = some (.aload_n 0, 1, 0, 0) := rfl
theorem i265_114 : mm_cd 265 114 = some (.iload_n 1, 1, 0, 0) := rfl
theorem i265_115 : mm_cd 265 115 = some (.bipush 9, 2, 0, 0) := rfl
theorem i265_117 : mm_cd 265 117 = some (.invokevirtual 69, 3, 0, 204) := rfl
theorem i265_120 : mm_cd 265 120 = some (.aload_n 0, 1, 0, 0) := rfl
theorem i265_121 : mm_cd 265 121 = some (.iload_n 2, 1, 0, 0) := rfl
theorem i265_122 : mm_cd 265 122 = some (.iconst 1, 1, 0, 0) := rfl
theorem i265_123 : mm_cd 265 123 = some (.invokevirtual 146, 3, 0, 200) := rfl
theorem i265_126 : mm_cd 265 126 = some (.invokestatic 276, 3, 2, 0) := rfl
theorem i265_129 : mm_cd 265 129 = some (.iastore, 1, 0, 0) := rfl
theorem i265_130 : mm_cd 265 130 = some (.goto 9, 3, 0, 0) := rfl
theorem i265_133 : mm_cd 265 133 = some (.aload_n 0, 1, 0, 0) := rfl
theorem i265_134 : mm_cd 265 134 = some (.iload_n 1, 1, 0, 0) := rfl
theorem i265_135 : mm_cd 265 135 = some (.iconst 2, 1, 0, 0) := rfl
theorem i265_136 : mm_cd 265 136 = some (.invokevirtual 307, 3, 0, 254) := rfl
theorem i265_139 : mm_cd 265 139 = some (.aload_n 0, 1, 0, 0) := rfl
theorem i265_140 : mm_cd 265 140 = some (.invokevirtual 331, 3, 0, 257) := rfl
theorem i265_143 : mm_cd 265 143 = some (.aload_n 0, 1, 0, 0) := rfl
theorem i265_144 : mm_cd 265 144 = some (.invokevirtual 252, 3, 0, 261) := rfl
theorem i265_147 : mm_cd 265 147 = some (.return_, 1, 0, 0) := rfl
def q265_139 (s : mS) : Option mQ := bM (q257 s) fun s1 => bM (q261 s1) fun s2 => ru s2
theorem t265_139 {L : Nat} {xs : Nat → Int32} {d : Nat} (hd : 10 ≤ d) {s : mS} {r : mQ} (h : q265_139 s = some r) : Ev L xs d 265 139 [(0, .ref 512)] [] (hp s) (hr r) := by
  unfold q265_139 at h
  refine Ev.aload_n H265 i265_139 rfl ?_
  refine Rd.cV0uN H265 i265_140 cal257 ob11 (Nat.le_of_ble_eq_true rfl) (Nat.le_of_ble_eq_true rfl) (Nat.lt_of_lt_of_le (by decide) hd) (fun q hq => c257 hq) h (fun s1 h => ?_)
  refine Ev.aload_n H265 i265_143 rfl ?_
  refine Rd.cV0uN H265 i265_144 cal261 ob11 (Nat.le_of_ble_eq_true rfl) (Nat.le_of_ble_eq_true rfl) (Nat.lt_of_lt_of_le (by decide) hd) (fun q hq => c261 hq) h (fun s2 h => ?_)
  exact Rd.return_ H265 i265_147 rfl h
def q265_82 (k37 : Int32 → Int32 → Int32 → mS → Option mQ) (v1 : Int32) (v2 : Int32) (v3 : Int32) (s : mS) : Option mQ := bx (v3 + (1 : Int32)) fun x3 => k37 v1 v2 x3 s
theorem t265_82 {L : Nat} {xs : Nat → Int32} {d : Nat} {k37 : Int32 → Int32 → Int32 → mS → Option mQ} (hk37 : ∀ (v1 : Int32) (v2 : Int32) (v3 : Int32) (s : mS) (r : mQ), k37 v1 v2 v3 s = some r → Ev L xs d 265 37 [(0, .ref 512), (1, .int v1), (2, .int v2), (3, .int v3)] [] (hp s) (hr r)) (hd : 10 ≤ d) {v1 : Int32} {v2 : Int32} {v3 : Int32} {s : mS} {r : mQ} (h : q265_82 k37 v1 v2 v3 s = some r) : Ev L xs d 265 82 [(0, .ref 512), (1, .int v1), (2, .int v2), (3, .int v3)] [] (hp s) (hr r) := by
  unfold q265_82 at h
  refine Rd.iinc H265 i265_82 (Nat.le_of_ble_eq_true rfl) rfl kI_1 (lv2 := fun x3 => [(3, .int x3), (0, .ref 512), (1, .int v1), (2, .int v2)]) (fun _ => rfl) h (fun x3 h => ?_)
  refine Ev.goto H265 i265_85 (t := 37) (by decide) ?_
  exact Ev.sub (l := [(0, .ref 512), (1, .int v1), (2, .int v2), (3, .int x3)]) rfl rfl (mm_sub_c rfl (mm_sub_c rfl (mm_sub_c rfl (mm_sub_c rfl mm_sub_n)))) (hk37 _ _ _ _ _ h)
def q265_37 (k88 : Int32 → Int32 → mS → Option mQ) : Nat → Int32 → Int32 → Int32 → mS → Option mQ
  | 0, _, _, _, _ => none
  | n + 1, v1, v2, v3, s => if (8 : Int32) ≤ v3 then (k88 v1 v2 s) else (bN (q250 v1 v3 s) fun x5 s4 => if x5 = 0 then (q265_82 (q265_37 k88 n) v1 v2 v3 s4) else (bN (q204 v3 (5 : Int32) s4) fun x7 s6 => bN (q190 x7 v2 s6) fun x9 s8 => if x9 = 0 then (q265_82 (q265_37 k88 n) v1 v2 v3 s8) else (bN (q203 v3 (7 : Int32) s8) fun x11 s10 => gA 2468 x11 <| gA 2468 x11 <| sp (sI s10 513 x11.toNatClampNeg ((s10.1 513 x11.toNatClampNeg) ||| (shlI (1 : Int32) v1))) fun s12 => q265_82 (q265_37 k88 n) v1 v2 v3 s12)))
theorem t265_37 {L : Nat} {xs : Nat → Int32} {d : Nat} {k88 : Int32 → Int32 → mS → Option mQ} (hk88 : ∀ (v1 : Int32) (v2 : Int32) (s : mS) (r : mQ), k88 v1 v2 s = some r → Ev L xs d 265 88 [(0, .ref 512), (1, .int v1), (2, .int v2)] [] (hp s) (hr r)) (hd : 10 ≤ d) : ∀ (n : Nat) (v1 : Int32) (v2 : Int32) (v3 : Int32) (s : mS) (r : mQ), q265_37 k88 n v1 v2 v3 s = some r → Ev L xs d 265 37 [(0, .ref 512), (1, .int v1), (2, .int v2), (3, .int v3)] [] (hp s) (hr r) := by
  intro n
  induction n with
  | zero => intro v1 v2 v3 s r h; rw [q265_37] at h; cases h
  | succ n ih =>
    intro v1 v2 v3 s r h
    rw [q265_37] at h
    refine Ev.iload_n H265 i265_37 rfl ?_
    refine Ev.bipush H265 i265_38 kB_8 ?_
    refine Rd.ic_ge H265 i265_40 (t := 88) (by decide) h (fun hc h => ?_) (fun hc h => ?_)
    · exact Ev.sub (l := [(0, .ref 512), (1, .int v1), (2, .int v2)]) rfl rfl (mm_sub_c rfl (mm_sub_c rfl (mm_sub_c rfl mm_sub_n))) (hk88 _ _ _ _ h)
    · refine Ev.aload_n H265 i265_43 rfl ?_
      refine Ev.iload_n H265 i265_44 rfl ?_
      refine Ev.iload_n H265 i265_45 rfl ?_
      refine Rd.cV2vN H265 i265_46 cal250 ob11 (Nat.le_of_ble_eq_true rfl) (Nat.le_of_ble_eq_true rfl) (Nat.lt_of_lt_of_le (by decide) hd) (fun q hq => c250 hq) h (fun x5 s4 h => ?_)
      refine Rd.if_eq H265 i265_49 (t := 82) (by decide) h (fun hc h => ?_) (fun hc h => ?_)
      · exact Ev.sub (l := [(0, .ref 512), (1, .int v1), (2, .int v2), (3, .int v3)]) rfl rfl (mm_sub_c rfl (mm_sub_c rfl (mm_sub_c rfl (mm_sub_c rfl mm_sub_n)))) (t265_82 (k37 := (q265_37 k88 n)) (fun _ _ _ _ _ h => ih _ _ _ _ _ h) hd h)
      · refine Ev.aload_n H265 i265_52 rfl ?_
        refine Ev.iload_n H265 i265_53 rfl ?_
        refine Ev.iconst H265 i265_54 kI_5 ?_
        refine Rd.cV2vN H265 i265_55 cal204 ob11 (Nat.le_of_ble_eq_true rfl) (Nat.le_of_ble_eq_true rfl) (Nat.lt_of_lt_of_le (by decide) hd) (fun q hq => c204 hq) h (fun x7 s6 h => ?_)
        refine Ev.iload_n H265 i265_58 rfl ?_
        refine Rd.cS2vN H265 i265_59 cal190 (Nat.le_of_ble_eq_true rfl) (Nat.le_of_ble_eq_true rfl) (Nat.lt_of_lt_of_le (by decide) hd) (fun q hq => c190 hq) h (fun x9 s8 h => ?_)
        refine Rd.if_eq H265 i265_62 (t := 82) (by decide) h (fun hc h => ?_) (fun hc h => ?_)
        · exact Ev.sub (l := [(0, .ref 512), (1, .int v1), (2, .int v2), (3, .int v3)]) rfl rfl (mm_sub_c rfl (mm_sub_c rfl (mm_sub_c rfl (mm_sub_c rfl mm_sub_n)))) (t265_82 (k37 := (q265_37 k88 n)) (fun _ _ _ _ _ h => ih _ _ _ _ _ h) hd h)
        · refine Ev.aload_n H265 i265_65 rfl ?_
          refine Rd.getR H265 i265_66 ob11 rfl ?_
          refine Ev.iload_n H265 i265_69 rfl ?_
          refine Ev.bipush H265 i265_70 kB_7 ?_
          refine Rd.cS2vN H265 i265_72 cal203 (Nat.le_of_ble_eq_true rfl) (Nat.le_of_ble_eq_true rfl) (Nat.lt_of_lt_of_le (by decide) hd) (fun q hq => c203 hq) h (fun x11 s10 h => ?_)
          refine Ev.dup2 H265 i265_75 ⟨rfl, rfl⟩ ?_
          refine Rd.iaload H265 i265_76 ar_513 h (fun h => ?_)
          refine Ev.iconst H265 i265_77 kI_1 ?_
          refine Ev.iload_n H265 i265_78 rfl ?_
          refine Rd.ishl H265 i265_79 ?_
          refine Ev.ior H265 i265_80 ?_
          refine Rd.iastore H265 i265_81 ar_513 h (fun s12 h => ?_)
          exact Ev.sub (l := [(0, .ref 512), (1, .int v1), (2, .int v2), (3, .int v3)]) rfl rfl (mm_sub_c rfl (mm_sub_c rfl (mm_sub_c rfl (mm_sub_c rfl mm_sub_n)))) (t265_82 (k37 := (q265_37 k88 n)) (fun _ _ _ _ _ h => ih _ _ _ _ _ h) hd h)
def q265_88 (v1 : Int32) (v2 : Int32) (s : mS) : Option mQ := bN (q200 v2 (1 : Int32) s) fun x14 s13 => bN (q204 v1 (2 : Int32) s13) fun x16 s15 => if x14 ≤ x16 then (q265_139 s15) else (bN (q203 v1 (9 : Int32) s15) fun x18 s17 => bN (q204 v1 (9 : Int32) s17) fun x20 s19 => bN (q200 v2 (1 : Int32) s19) fun x22 s21 => gA 2468 x18 <| sp (sI s21 513 x18.toNatClampNeg (mxI x20 x22)) fun s23 => q265_139 s23)
theorem t265_88 {L : Nat} {xs : Nat → Int32} {d : Nat} (hd : 10 ≤ d) {v1 : Int32} {v2 : Int32} {s : mS} {r : mQ} (h : q265_88 v1 v2 s = some r) : Ev L xs d 265 88 [(0, .ref 512), (1, .int v1), (2, .int v2)] [] (hp s) (hr r) := by
  unfold q265_88 at h
  refine Ev.aload_n H265 i265_88 rfl ?_
  refine Ev.iload_n H265 i265_89 rfl ?_
  refine Ev.iconst H265 i265_90 kI_1 ?_
  refine Rd.cV2vN H265 i265_91 cal200 ob11 (Nat.le_of_ble_eq_true rfl) (Nat.le_of_ble_eq_true rfl) (Nat.lt_of_lt_of_le (by decide) hd) (fun q hq => c200 hq) h (fun x14 s13 h => ?_)
  refine Ev.aload_n H265 i265_94 rfl ?_
  refine Ev.iload_n H265 i265_95 rfl ?_
  refine Ev.iconst H265 i265_96 kI_2 ?_
  refine Rd.cV2vN H265 i265_97 cal204 ob11 (Nat.le_of_ble_eq_true rfl) (Nat.le_of_ble_eq_true rfl) (Nat.lt_of_lt_of_le (by decide) hd) (fun q hq => c204 hq) h (fun x16 s15 h => ?_)
  refine Rd.ic_le H265 i265_100 (t := 139) (by decide) h (fun hc h => ?_) (fun hc h => ?_)
  · exact Ev.sub (l := [(0, .ref 512)]) rfl rfl (mm_sub_c rfl mm_sub_n) (t265_139 hd h)
  · refine Ev.aload_n H265 i265_103 rfl ?_
    refine Rd.getR H265 i265_104 ob11 rfl ?_
    refine Ev.iload_n H265 i265_107 rfl ?_
    refine Ev.bipush H265 i265_108 kB_9 ?_
    refine Rd.cS2vN H265 i265_110 cal203 (Nat.le_of_ble_eq_true rfl) (Nat.le_of_ble_eq_true rfl) (Nat.lt_of_lt_of_le (by decide) hd) (fun q hq => c203 hq) h (fun x18 s17 h => ?_)
    refine Ev.aload_n H265 i265_113 rfl ?_
    refine Ev.iload_n H265 i265_114 rfl ?_
    refine Ev.bipush H265 i265_115 kB_9 ?_
    refine Rd.cV2vN H265 i265_117 cal204 ob11 (Nat.le_of_ble_eq_true rfl) (Nat.le_of_ble_eq_true rfl) (Nat.lt_of_lt_of_le (by decide) hd) (fun q hq => c204 hq) h (fun x20 s19 h => ?_)
    refine Ev.aload_n H265 i265_120 rfl ?_
    refine Ev.iload_n H265 i265_121 rfl ?_
    refine Ev.iconst H265 i265_122 kI_1 ?_
    refine Rd.cV2vN H265 i265_123 cal200 ob11 (Nat.le_of_ble_eq_true rfl) (Nat.le_of_ble_eq_true rfl) (Nat.lt_of_lt_of_le (by decide) hd) (fun q hq => c200 hq) h (fun x22 s21 h => ?_)
    refine Rd.max H265 i265_126 (Nat.le_of_ble_eq_true rfl) ?_
    refine Rd.iastore H265 i265_129 ar_513 h (fun s23 h => ?_)
    refine Ev.goto H265 i265_130 (t := 139) (by decide) ?_
    exact Ev.sub (l := [(0, .ref 512)]) rfl rfl (mm_sub_c rfl mm_sub_n) (t265_139 hd h)
/-- SerialGateModel.writes(II)V -/
def q265 (v1 : Int32) (v2 : Int32) (s : mS) : Option mQ := bN (q200 v2 (0 : Int32) s) fun x25 s24 => bN (q204 v1 ((11 : Int32) + v2) s24) fun x27 s26 => if ¬ x25 = x27 then (bM (q254 v1 (2 : Int32) s26) fun s28 => q265_139 s28) else (bN (q203 v1 (6 : Int32) s26) fun x30 s29 => gA 2468 x30 <| gA 2468 x30 <| sp (sI s29 513 x30.toNatClampNeg ((s29.1 513 x30.toNatClampNeg) ||| (shlI (1 : Int32) v2))) fun s31 => q265_37 (q265_88) 10000 v1 v2 (0 : Int32) s31)
theorem c265 {L : Nat} {xs : Nat → Int32} {v1 : Int32} {v2 : Int32} {s : mS} {r : mQ} (h : q265 v1 v2 s = some r) : ∀ d, 10 ≤ d → Cl L xs d 265 [.ref 512, .int v1, .int v2] (hp s) (hr r) := by
  intro d hd
  show Ev L xs d 265 0 [(0, .ref 512), (1, .int v1), (2, .int v2)] [] (hp s) (hr r)
  unfold q265 at h
  refine Ev.aload_n H265 i265_0 rfl ?_
  refine Ev.iload_n H265 i265_1 rfl ?_
  refine Ev.iconst H265 i265_2 kI_0 ?_
  refine Rd.cV2vN H265 i265_3 cal200 ob11 (Nat.le_of_ble_eq_true rfl) (Nat.le_of_ble_eq_true rfl) (Nat.lt_of_lt_of_le (by decide) hd) (fun q hq => c200 hq) h (fun x25 s24 h => ?_)
  refine Ev.aload_n H265 i265_6 rfl ?_
  refine Ev.iload_n H265 i265_7 rfl ?_
  refine Ev.bipush H265 i265_8 kB_11 ?_
  refine Ev.iload_n H265 i265_10 rfl ?_
  refine Ev.iadd H265 i265_11 ?_
  refine Rd.cV2vN H265 i265_12 cal204 ob11 (Nat.le_of_ble_eq_true rfl) (Nat.le_of_ble_eq_true rfl) (Nat.lt_of_lt_of_le (by decide) hd) (fun q hq => c204 hq) h (fun x27 s26 h => ?_)
  refine Rd.ic_ne H265 i265_15 (t := 133) (by decide) h (fun hc h => ?_) (fun hc h => ?_)
  · refine Ev.aload_n H265 i265_133 rfl ?_
    refine Ev.iload_n H265 i265_134 rfl ?_
    refine Ev.iconst H265 i265_135 kI_2 ?_
    refine Rd.cV2uN H265 i265_136 cal254 ob11 (Nat.le_of_ble_eq_true rfl) (Nat.le_of_ble_eq_true rfl) (Nat.lt_of_lt_of_le (by decide) hd) (fun q hq => c254 hq) h (fun s28 h => ?_)
    exact Ev.sub (l := [(0, .ref 512)]) rfl rfl (mm_sub_c rfl mm_sub_n) (t265_139 hd h)
  · refine Ev.aload_n H265 i265_18 rfl ?_
    refine Rd.getR H265 i265_19 ob11 rfl ?_
    refine Ev.iload_n H265 i265_22 rfl ?_
    refine Ev.bipush H265 i265_23 kB_6 ?_
    refine Rd.cS2vN H265 i265_25 cal203 (Nat.le_of_ble_eq_true rfl) (Nat.le_of_ble_eq_true rfl) (Nat.lt_of_lt_of_le (by decide) hd) (fun q hq => c203 hq) h (fun x30 s29 h => ?_)
    refine Ev.dup2 H265 i265_28 ⟨rfl, rfl⟩ ?_
    refine Rd.iaload H265 i265_29 ar_513 h (fun h => ?_)
    refine Ev.iconst H265 i265_30 kI_1 ?_
    refine Ev.iload_n H265 i265_31 rfl ?_
    refine Rd.ishl H265 i265_32 ?_
    refine Ev.ior H265 i265_33 ?_
    refine Rd.iastore H265 i265_34 ar_513 h (fun s31 h => ?_)
    refine Ev.iconst H265 i265_35 kI_0 ?_
    refine Ev.istore_n H265 i265_36 (Nat.le_of_ble_eq_true rfl) (lv2 := [(3, .int (0 : Int32)), (0, .ref 512), (1, .int v1), (2, .int v2)]) rfl ?_
    exact Ev.sub (l := [(0, .ref 512), (1, .int v1), (2, .int v2), (3, .int (0 : Int32))]) rfl rfl (mm_sub_c rfl (mm_sub_c rfl (mm_sub_c rfl (mm_sub_c rfl mm_sub_n)))) (t265_37 (k88 := (q265_88)) (fun _ _ _ _ h => t265_88 hd h) hd 10000 _ _ _ _ _ h)
theorem i266_0 : mm_cd 266 0 = some (.sipush 242, 3, 0, 0) := rfl
theorem i266_3 : mm_cd 266 3 = some (.bipush 24, 2, 0, 0) := rfl
theorem i266_5 : mm_cd 266 5 = some (.iload_n 1, 1, 0, 0) := rfl
theorem i266_6 : mm_cd 266 6 = some (.imul, 1, 0, 0) := rfl
theorem i266_7 : mm_cd 266 7 = some (.iadd, 1, 0, 0) := rfl
theorem i266_8 : mm_cd 266 8 = some (.ireturn, 1, 0, 0) := rfl
/-- SerialGateModel.storyAt(I)I -/
def q266 (v1 : Int32) (s : mS) : Option mQ := rv ((242 : Int32) + ((24 : Int32) * v1)) s
theorem c266 {L : Nat} {xs : Nat → Int32} {v1 : Int32} {s : mS} {r : mQ} (h : q266 v1 s = some r) : ∀ d, 0 ≤ d → Cl L xs d 266 [.ref 512, .int v1] (hp s) (hr r) := by
  intro d hd
  show Ev L xs d 266 0 [(0, .ref 512), (1, .int v1)] [] (hp s) (hr r)
  unfold q266 at h
  refine Ev.sipush H266 i266_0 kS_242 ?_
  refine Ev.bipush H266 i266_3 kB_24 ?_
  refine Ev.iload_n H266 i266_5 rfl ?_
  refine Ev.imul H266 i266_6 ?_
  refine Ev.iadd H266 i266_7 ?_
  exact Rd.ireturn H266 i266_8 rfl h
theorem i267_0 : mm_cd 267 0 = some (.aload_n 0, 1, 0, 0) := rfl
theorem i267_1 : mm_cd 267 1 = some (.getfield 13, 3, ((11 : Nat) : Int), 1) := rfl
theorem i267_4 : mm_cd 267 4 = some (.bipush 7, 2, 0, 0) := rfl
theorem i267_6 : mm_cd 267 6 = some (.iaload, 1, 0, 0) := rfl
theorem i267_7 : mm_cd 267 7 = some (.bipush 12, 2, 0, 0) := rfl
theorem i267_9 : mm_cd 267 9 = some (.if_icmp .ne 44, 3, 0, 0) := rfl
theorem i267_12 : mm_cd 267 12 = some (.iconst 0, 1, 0, 0) := rfl
theorem i267_13 : mm_cd 267 13 = some (.istore_n 2, 1, 0, 0) := rfl
theorem i267_14 : mm_cd 267 14 = some (.iload_n 2, 1, 0, 0) := rfl
theorem i267_15 : mm_cd 267 15 = some (.sipush 264, 3, 0, 0) := rfl
theorem i267_18 : mm_cd 267 18 = some (.if_icmp .ge 32, 3, 0, 0) := rfl
theorem i267_21 : mm_cd 267 21 = some (.aload_n 0, 1, 0, 0) := rfl
theorem i267_22 : mm_cd 267 22 = some (.getfield 13, 3, ((11 : Nat) : Int), 1) := rfl
theorem i267_25 : mm_cd 267 25 = some (.sipush 242, 3, 0, 0) := rfl
theorem i267_28 : mm_cd 267 28 = some (.iload_n 2, 1, 0, 0) := rfl
theorem i267_29 : mm_cd 267 29 = some (.iadd, 1, 0, 0) := rfl
theorem i267_30 : mm_cd 267 30 = some (.aload_n 0, 1, 0, 0) := rfl
theorem i267_31 : mm_cd 267 31 = some (.getfield 13, 3, ((11 : Nat) : Int), 1) := rfl
theorem i267_34 : mm_cd 267 34 = some (.sipush 242, 3, 0, 0) := rfl
theorem i267_37 : mm_cd 267 37 = some (.iload_n 2, 1, 0, 0) := rfl
theorem i267_38 : mm_cd 267 38 = some (.iadd, 1, 0, 0) := rfl
theorem i267_39 : mm_cd 267 39 = some (.bipush 24, 2, 0, 0) := rfl
theorem i267_41 : mm_cd 267 41 = some (.iadd, 1, 0, 0) := rfl
theorem i267_42 : mm_cd 267 42 = some (.iaload, 1, 0, 0) := rfl
theorem i267_43 : mm_cd 267 43 = some (.iastore, 1, 0, 0) := rfl
theorem i267_44 : mm_cd 267 44 = some (.iinc 2 1, 3, 0, 0) := rfl
theorem i267_47 : mm_cd 267 47 = some (.goto (-33), 3, 0, 0) := rfl
theorem i267_50 : mm_cd 267 50 = some (.goto 14, 3, 0, 0) := rfl
theorem i267_53 : mm_cd 267 53 = some (.aload_n 0, 1, 0, 0) := rfl
theorem i267_54 : mm_cd 267 54 = some (.getfield 13, 3, ((11 : Nat) : Int), 1) := rfl
theorem i267_57 : mm_cd 267 57 = some (.bipush 7, 2, 0, 0) := rfl
theorem i267_59 : mm_cd 267 59 = some (.dup2, 1, 0, 0) := rfl
theorem i267_60 : mm_cd 267 60 = some (.iaload, 1, 0, 0) := rfl
theorem i267_61 : mm_cd 267 61 = some (.iconst 1, 1, 0, 0) := rfl
theorem i267_62 : mm_cd 267 62 = some (.iadd, 1, 0, 0) := rfl
theorem i267_63 : mm_cd 267 63 = some (.iastore, 1, 0, 0) := rfl
theorem i267_64 : mm_cd 267 64 = some (.aload_n 0, 1, 0, 0) := rfl
theorem i267_65 : mm_cd 267 65 = some (.aload_n 0, 1, 0, 0) := rfl
theorem i267_66 : mm_cd 267 66 = some (.getfield 13, 3, ((11 : Nat) : Int), 1) := rfl
theorem i267_69 : mm_cd 267 69 = some (.bipush 7, 2, 0, 0) := rfl
theorem i267_71 : mm_cd 267 71 = some (.iaload, 1, 0, 0) := rfl
theorem i267_72 : mm_cd 267 72 = some (.iconst 1, 1, 0, 0) := rfl
theorem i267_73 : mm_cd 267 73 = some (.isub, 1, 0, 0) := rfl
theorem i267_74 : mm_cd 267 74 = some (.invokevirtual 334, 3, 0, 266) := rfl
theorem i267_77 : mm_cd 267 77 = some (.istore_n 2, 1, 0, 0) := rfl
theorem i267_78 : mm_cd 267 78 = some (.aload_n 0, 1, 0, 0) := rfl
theorem i267_79 : mm_cd 267 79 = some (.getfield 13, 3, ((11 : Nat) : Int), 1) := rfl
theorem i267_82 : mm_cd 267 82 = some (.iload_n 2, 1, 0, 0) := rfl
theorem i267_83 : mm_cd 267 83 = some (.iconst 0, 1, 0, 0) := rfl
theorem i267_84 : mm_cd 267 84 = some (.iadd, 1, 0, 0) := rfl
theorem i267_85 : mm_cd 267 85 = some (.aload_n 0, 1, 0, 0) := rfl
theorem i267_86 : mm_cd 267 86 = some (.iload_n 1, 1, 0, 0) := rfl
theorem i267_87 : mm_cd 267 87 = some (.iconst 1, 1, 0, 0) := rfl
theorem i267_88 : mm_cd 267 88 = some (.invokevirtual 69, 3, 0, 204) := rfl
theorem i267_91 : mm_cd 267 91 = some (.iastore, 1, 0, 0) := rfl
theorem i267_92 : mm_cd 267 92 = some (.aload_n 0, 1, 0, 0) := rfl
theorem i267_93 : mm_cd 267 93 = some (.getfield 13, 3, ((11 : Nat) : Int), 1) := rfl
theorem i267_96 : mm_cd 267 96 = some (.iload_n 2, 1, 0, 0) := rfl
theorem i267_97 : mm_cd 267 97 = some (.iconst 1, 1, 0, 0) := rfl
theorem i267_98 : mm_cd 267 98 = some (.iadd, 1, 0, 0) := rfl
theorem i267_99 : mm_cd 267 99 = some (.aload_n 0, 1, 0, 0) := rfl
theorem i267_100 : mm_cd 267 100 = some (.iload_n 1, 1, 0, 0) := rfl
theorem i267_101 : mm_cd 267 101 = some (.iconst 3, 1, 0, 0) := rfl
theorem i267_102 : mm_cd 267 102 = some (.invokevirtual 69, 3, 0, 204) := rfl
theorem i267_105 : mm_cd 267 105 = some (.iastore, 1, 0, 0) := rfl
theorem i267_106 : mm_cd 267 106 = some (.aload_n 0, 1, 0, 0) := rfl
theorem i267_107 : mm_cd 267 107 = some (.getfield 13, 3, ((11 : Nat) : Int), 1) := rfl
theorem i267_110 : mm_cd 267 110 = some (.iload_n 2, 1, 0, 0) := rfl
theorem i267_111 : mm_cd 267 111 = some (.iconst 2, 1, 0, 0) := rfl
theorem i267_112 : mm_cd 267 112 = some (.iadd, 1, 0, 0) := rfl
theorem i267_113 : mm_cd 267 113 = some (.aload_n 0, 1, 0, 0) := rfl
theorem i267_114 : mm_cd 267 114 = some (.iload_n 1, 1, 0, 0) := rfl
theorem i267_115 : mm_cd 267 115 = some (.iconst 4, 1, 0, 0) := rfl
theorem i267_116 : mm_cd 267 116 = some (.invokevirtual 69, 3, 0, 204) := rfl
theorem i267_119 : mm_cd 267 119 = some (.iastore, 1, 0, 0) := rfl
theorem i267_120 : mm_cd 267 120 = some (.aload_n 0, 1, 0, 0) := rfl
theorem i267_121 : mm_cd 267 121 = some (.getfield 13, 3, ((11 : Nat) : Int), 1) := rfl
theorem i267_124 : mm_cd 267 124 = some (.iload_n 2, 1, 0, 0) := rfl
theorem i267_125 : mm_cd 267 125 = some (.iconst 3, 1, 0, 0) := rfl
theorem i267_126 : mm_cd 267 126 = some (.iadd, 1, 0, 0) := rfl
theorem i267_127 : mm_cd 267 127 = some (.aload_n 0, 1, 0, 0) := rfl
theorem i267_128 : mm_cd 267 128 = some (.iload_n 1, 1, 0, 0) := rfl
theorem i267_129 : mm_cd 267 129 = some (.bipush 6, 2, 0, 0) := rfl
theorem i267_131 : mm_cd 267 131 = some (.invokevirtual 69, 3, 0, 204) := rfl
theorem i267_134 : mm_cd 267 134 = some (.iastore, 1, 0, 0) := rfl
theorem i267_135 : mm_cd 267 135 = some (.iconst 0, 1, 0, 0) := rfl
theorem i267_136 : mm_cd 267 136 = some (.istore_n 3, 1, 0, 0) := rfl
theorem i267_137 : mm_cd 267 137 = some (.iload_n 3, 1, 0, 0) := rfl
theorem i267_138 : mm_cd 267 138 = some (.bipush 10, 2, 0, 0) := rfl
theorem i267_140 : mm_cd 267 140 = some (.if_icmp .ge 45, 3, 0, 0) := rfl
theorem i267_143 : mm_cd 267 143 = some (.aload_n 0, 1, 0, 0) := rfl
theorem i267_144 : mm_cd 267 144 = some (.getfield 13, 3, ((11 : Nat) : Int), 1) := rfl
theorem i267_147 : mm_cd 267 147 = some (.iload_n 2, 1, 0, 0) := rfl
theorem i267_148 : mm_cd 267 148 = some (.iconst 4, 1, 0, 0) := rfl
theorem i267_149 : mm_cd 267 149 = some (.iadd, 1, 0, 0) := rfl
theorem i267_150 : mm_cd 267 150 = some (.iload_n 3, 1, 0, 0) := rfl
theorem i267_151 : mm_cd 267 151 = some (.iadd, 1, 0, 0) := rfl
theorem i267_152 : mm_cd 267 152 = some (.aload_n 0, 1, 0, 0) := rfl
theorem i267_153 : mm_cd 267 153 = some (.iload_n 1, 1, 0, 0) := rfl
theorem i267_154 : mm_cd 267 154 = some (.bipush 11, 2, 0, 0) := rfl
theorem i267_156 : mm_cd 267 156 = some (.iload_n 3, 1, 0, 0) := rfl
theorem i267_157 : mm_cd 267 157 = some (.iadd, 1, 0, 0) := rfl
theorem i267_158 : mm_cd 267 158 = some (.invokevirtual 69, 3, 0, 204) := rfl
theorem i267_161 : mm_cd 267 161 = some (.iastore, 1, 0, 0) := rfl
theorem i267_162 : mm_cd 267 162 = some (.aload_n 0, 1, 0, 0) := rfl
theorem i267_163 : mm_cd 267 163 = some (.getfield 13, 3, ((11 : Nat) : Int), 1) := rfl
theorem i267_166 : mm_cd 267 166 = some (.iload_n 2, 1, 0, 0) := rfl
theorem i267_167 : mm_cd 267 167 = some (.bipush 14, 2, 0, 0) := rfl
theorem i267_169 : mm_cd 267 169 = some (.iadd, 1, 0, 0) := rfl
theorem i267_170 : mm_cd 267 170 = some (.iload_n 3, 1, 0, 0) := rfl
theorem i267_171 : mm_cd 267 171 = some (.iadd, 1, 0, 0) := rfl
theorem i267_172 : mm_cd 267 172 = some (.aload_n 0, 1, 0, 0) := rfl
theorem i267_173 : mm_cd 267 173 = some (.iload_n 3, 1, 0, 0) := rfl
theorem i267_174 : mm_cd 267 174 = some (.iconst 0, 1, 0, 0) := rfl
theorem i267_175 : mm_cd 267 175 = some (.invokevirtual 146, 3, 0, 200) := rfl
theorem i267_178 : mm_cd 267 178 = some (.iastore, 1, 0, 0) := rfl
theorem i267_179 : mm_cd 267 179 = some (.iinc 3 1, 3, 0, 0) := rfl
theorem i267_182 : mm_cd 267 182 = some (.goto (-45), 3, 0, 0) := rfl
theorem i267_185 : mm_cd 267 185 = some (.return_, 1, 0, 0) := rfl
def q267_137 : Nat → Int32 → Int32 → Int32 → mS → Option mQ
  | 0, _, _, _, _ => none
  | n + 1, v1, v2, v3, s => if (10 : Int32) ≤ v3 then (ru s) else (bN (q204 v1 ((11 : Int32) + v3) s) fun x2 s1 => gA 2468 ((v2 + (4 : Int32)) + v3) <| sp (sI s1 513 ((v2 + (4 : Int32)) + v3).toNatClampNeg x2) fun s3 => bN (q200 v3 (0 : Int32) s3) fun x5 s4 => gA 2468 ((v2 + (14 : Int32)) + v3) <| sp (sI s4 513 ((v2 + (14 : Int32)) + v3).toNatClampNeg x5) fun s6 => bx (v3 + (1 : Int32)) fun x7 => q267_137 n v1 v2 x7 s6)
theorem t267_137 {L : Nat} {xs : Nat → Int32} {d : Nat} (hd : 2 ≤ d) : ∀ (n : Nat) (v1 : Int32) (v2 : Int32) (v3 : Int32) (s : mS) (r : mQ), q267_137 n v1 v2 v3 s = some r → Ev L xs d 267 137 [(0, .ref 512), (1, .int v1), (2, .int v2), (3, .int v3)] [] (hp s) (hr r) := by
  intro n
  induction n with
  | zero => intro v1 v2 v3 s r h; rw [q267_137] at h; cases h
  | succ n ih =>
    intro v1 v2 v3 s r h
    rw [q267_137] at h
    refine Ev.iload_n H267 i267_137 rfl ?_
    refine Ev.bipush H267 i267_138 kB_10 ?_
    refine Rd.ic_ge H267 i267_140 (t := 185) (by decide) h (fun hc h => ?_) (fun hc h => ?_)
    · exact Rd.return_ H267 i267_185 rfl h
    · refine Ev.aload_n H267 i267_143 rfl ?_
      refine Rd.getR H267 i267_144 ob11 rfl ?_
      refine Ev.iload_n H267 i267_147 rfl ?_
      refine Ev.iconst H267 i267_148 kI_4 ?_
      refine Ev.iadd H267 i267_149 ?_
      refine Ev.iload_n H267 i267_150 rfl ?_
      refine Ev.iadd H267 i267_151 ?_
      refine Ev.aload_n H267 i267_152 rfl ?_
      refine Ev.iload_n H267 i267_153 rfl ?_
      refine Ev.bipush H267 i267_154 kB_11 ?_
      refine Ev.iload_n H267 i267_156 rfl ?_
      refine Ev.iadd H267 i267_157 ?_
      refine Rd.cV2vN H267 i267_158 cal204 ob11 (Nat.le_of_ble_eq_true rfl) (Nat.le_of_ble_eq_true rfl) (Nat.lt_of_lt_of_le (by decide) hd) (fun q hq => c204 hq) h (fun x2 s1 h => ?_)
      refine Rd.iastore H267 i267_161 ar_513 h (fun s3 h => ?_)
      refine Ev.aload_n H267 i267_162 rfl ?_
      refine Rd.getR H267 i267_163 ob11 rfl ?_
      refine Ev.iload_n H267 i267_166 rfl ?_
      refine Ev.bipush H267 i267_167 kB_14 ?_
      refine Ev.iadd H267 i267_169 ?_
      refine Ev.iload_n H267 i267_170 rfl ?_
      refine Ev.iadd H267 i267_171 ?_
      refine Ev.aload_n H267 i267_172 rfl ?_
      refine Ev.iload_n H267 i267_173 rfl ?_
      refine Ev.iconst H267 i267_174 kI_0 ?_
      refine Rd.cV2vN H267 i267_175 cal200 ob11 (Nat.le_of_ble_eq_true rfl) (Nat.le_of_ble_eq_true rfl) (Nat.lt_of_lt_of_le (by decide) hd) (fun q hq => c200 hq) h (fun x5 s4 h => ?_)
      refine Rd.iastore H267 i267_178 ar_513 h (fun s6 h => ?_)
      refine Rd.iinc H267 i267_179 (Nat.le_of_ble_eq_true rfl) rfl kI_1 (lv2 := fun x7 => [(3, .int x7), (0, .ref 512), (1, .int v1), (2, .int v2)]) (fun _ => rfl) h (fun x7 h => ?_)
      refine Ev.goto H267 i267_182 (t := 137) (by decide) ?_
      exact Ev.sub (l := [(0, .ref 512), (1, .int v1), (2, .int v2), (3, .int x7)]) rfl rfl (mm_sub_c rfl (mm_sub_c rfl (mm_sub_c rfl (mm_sub_c rfl mm_sub_n)))) (ih _ _ _ _ _ h)
def q267_64 (v1 : Int32) (s : mS) : Option mQ := gA 2468 (7 : Int32) <| bN (q266 ((s.1 513 (7 : Int32).toNatClampNeg) - (1 : Int32)) s) fun x9 s8 => bN (q204 v1 (1 : Int32) s8) fun x11 s10 => gA 2468 (x9 + (0 : Int32)) <| sp (sI s10 513 (x9 + (0 : Int32)).toNatClampNeg x11) fun s12 => bN (q204 v1 (3 : Int32) s12) fun x14 s13 => gA 2468 (x9 + (1 : Int32)) <| sp (sI s13 513 (x9 + (1 : Int32)).toNatClampNeg x14) fun s15 => bN (q204 v1 (4 : Int32) s15) fun x17 s16 => gA 2468 (x9 + (2 : Int32)) <| sp (sI s16 513 (x9 + (2 : Int32)).toNatClampNeg x17) fun s18 => bN (q204 v1 (6 : Int32) s18) fun x20 s19 => gA 2468 (x9 + (3 : Int32)) <| sp (sI s19 513 (x9 + (3 : Int32)).toNatClampNeg x20) fun s21 => q267_137 10000 v1 x9 (0 : Int32) s21
theorem t267_64 {L : Nat} {xs : Nat → Int32} {d : Nat} (hd : 2 ≤ d) {v1 : Int32} {s : mS} {r : mQ} (h : q267_64 v1 s = some r) : Ev L xs d 267 64 [(0, .ref 512), (1, .int v1)] [] (hp s) (hr r) := by
  unfold q267_64 at h
  refine Ev.aload_n H267 i267_64 rfl ?_
  refine Ev.aload_n H267 i267_65 rfl ?_
  refine Rd.getR H267 i267_66 ob11 rfl ?_
  refine Ev.bipush H267 i267_69 kB_7 ?_
  refine Rd.iaload H267 i267_71 ar_513 h (fun h => ?_)
  refine Ev.iconst H267 i267_72 kI_1 ?_
  refine Ev.isub H267 i267_73 ?_
  refine Rd.cV1vN H267 i267_74 cal266 ob11 (Nat.le_of_ble_eq_true rfl) (Nat.le_of_ble_eq_true rfl) (Nat.lt_of_lt_of_le (by decide) hd) (fun q hq => c266 hq) h (fun x9 s8 h => ?_)
  refine Ev.istore_n H267 i267_77 (Nat.le_of_ble_eq_true rfl) (lv2 := [(2, .int x9), (0, .ref 512), (1, .int v1)]) rfl ?_
  refine Ev.aload_n H267 i267_78 rfl ?_
  refine Rd.getR H267 i267_79 ob11 rfl ?_
  refine Ev.iload_n H267 i267_82 rfl ?_
  refine Ev.iconst H267 i267_83 kI_0 ?_
  refine Ev.iadd H267 i267_84 ?_
  refine Ev.aload_n H267 i267_85 rfl ?_
  refine Ev.iload_n H267 i267_86 rfl ?_
  refine Ev.iconst H267 i267_87 kI_1 ?_
  refine Rd.cV2vN H267 i267_88 cal204 ob11 (Nat.le_of_ble_eq_true rfl) (Nat.le_of_ble_eq_true rfl) (Nat.lt_of_lt_of_le (by decide) hd) (fun q hq => c204 hq) h (fun x11 s10 h => ?_)
  refine Rd.iastore H267 i267_91 ar_513 h (fun s12 h => ?_)
  refine Ev.aload_n H267 i267_92 rfl ?_
  refine Rd.getR H267 i267_93 ob11 rfl ?_
  refine Ev.iload_n H267 i267_96 rfl ?_
  refine Ev.iconst H267 i267_97 kI_1 ?_
  refine Ev.iadd H267 i267_98 ?_
  refine Ev.aload_n H267 i267_99 rfl ?_
  refine Ev.iload_n H267 i267_100 rfl ?_
  refine Ev.iconst H267 i267_101 kI_3 ?_
  refine Rd.cV2vN H267 i267_102 cal204 ob11 (Nat.le_of_ble_eq_true rfl) (Nat.le_of_ble_eq_true rfl) (Nat.lt_of_lt_of_le (by decide) hd) (fun q hq => c204 hq) h (fun x14 s13 h => ?_)
  refine Rd.iastore H267 i267_105 ar_513 h (fun s15 h => ?_)
  refine Ev.aload_n H267 i267_106 rfl ?_
  refine Rd.getR H267 i267_107 ob11 rfl ?_
  refine Ev.iload_n H267 i267_110 rfl ?_
  refine Ev.iconst H267 i267_111 kI_2 ?_
  refine Ev.iadd H267 i267_112 ?_
  refine Ev.aload_n H267 i267_113 rfl ?_
  refine Ev.iload_n H267 i267_114 rfl ?_
  refine Ev.iconst H267 i267_115 kI_4 ?_
  refine Rd.cV2vN H267 i267_116 cal204 ob11 (Nat.le_of_ble_eq_true rfl) (Nat.le_of_ble_eq_true rfl) (Nat.lt_of_lt_of_le (by decide) hd) (fun q hq => c204 hq) h (fun x17 s16 h => ?_)
  refine Rd.iastore H267 i267_119 ar_513 h (fun s18 h => ?_)
  refine Ev.aload_n H267 i267_120 rfl ?_
  refine Rd.getR H267 i267_121 ob11 rfl ?_
  refine Ev.iload_n H267 i267_124 rfl ?_
  refine Ev.iconst H267 i267_125 kI_3 ?_
  refine Ev.iadd H267 i267_126 ?_
  refine Ev.aload_n H267 i267_127 rfl ?_
  refine Ev.iload_n H267 i267_128 rfl ?_
  refine Ev.bipush H267 i267_129 kB_6 ?_
  refine Rd.cV2vN H267 i267_131 cal204 ob11 (Nat.le_of_ble_eq_true rfl) (Nat.le_of_ble_eq_true rfl) (Nat.lt_of_lt_of_le (by decide) hd) (fun q hq => c204 hq) h (fun x20 s19 h => ?_)
  refine Rd.iastore H267 i267_134 ar_513 h (fun s21 h => ?_)
  refine Ev.iconst H267 i267_135 kI_0 ?_
  refine Ev.istore_n H267 i267_136 (Nat.le_of_ble_eq_true rfl) (lv2 := [(3, .int (0 : Int32)), (2, .int x9), (0, .ref 512), (1, .int v1)]) rfl ?_
  exact Ev.sub (l := [(0, .ref 512), (1, .int v1), (2, .int x9), (3, .int (0 : Int32))]) rfl rfl (mm_sub_c rfl (mm_sub_c rfl (mm_sub_c rfl (mm_sub_c rfl mm_sub_n)))) (t267_137 hd 10000 _ _ _ _ _ h)
def q267_14 (k50 : Int32 → mS → Option mQ) : Nat → Int32 → Int32 → mS → Option mQ
  | 0, _, _, _ => none
  | n + 1, v1, v2, s => if (264 : Int32) ≤ v2 then (k50 v1 s) else (gA 2468 (((242 : Int32) + v2) + (24 : Int32)) <| gA 2468 ((242 : Int32) + v2) <| sp (sI s 513 ((242 : Int32) + v2).toNatClampNeg (s.1 513 (((242 : Int32) + v2) + (24 : Int32)).toNatClampNeg)) fun s22 => bx (v2 + (1 : Int32)) fun x23 => q267_14 k50 n v1 x23 s22)
theorem t267_14 {L : Nat} {xs : Nat → Int32} {d : Nat} {k50 : Int32 → mS → Option mQ} (hk50 : ∀ (v1 : Int32) (s : mS) (r : mQ), k50 v1 s = some r → Ev L xs d 267 50 [(0, .ref 512), (1, .int v1)] [] (hp s) (hr r)) (hd : 2 ≤ d) : ∀ (n : Nat) (v1 : Int32) (v2 : Int32) (s : mS) (r : mQ), q267_14 k50 n v1 v2 s = some r → Ev L xs d 267 14 [(0, .ref 512), (1, .int v1), (2, .int v2)] [] (hp s) (hr r) := by
  intro n
  induction n with
  | zero => intro v1 v2 s r h; rw [q267_14] at h; cases h
  | succ n ih =>
    intro v1 v2 s r h
    rw [q267_14] at h
    refine Ev.iload_n H267 i267_14 rfl ?_
    refine Ev.sipush H267 i267_15 kS_264 ?_
    refine Rd.ic_ge H267 i267_18 (t := 50) (by decide) h (fun hc h => ?_) (fun hc h => ?_)
    · exact Ev.sub (l := [(0, .ref 512), (1, .int v1)]) rfl rfl (mm_sub_c rfl (mm_sub_c rfl mm_sub_n)) (hk50 _ _ _ h)
    · refine Ev.aload_n H267 i267_21 rfl ?_
      refine Rd.getR H267 i267_22 ob11 rfl ?_
      refine Ev.sipush H267 i267_25 kS_242 ?_
      refine Ev.iload_n H267 i267_28 rfl ?_
      refine Ev.iadd H267 i267_29 ?_
      refine Ev.aload_n H267 i267_30 rfl ?_
      refine Rd.getR H267 i267_31 ob11 rfl ?_
      refine Ev.sipush H267 i267_34 kS_242 ?_
      refine Ev.iload_n H267 i267_37 rfl ?_
      refine Ev.iadd H267 i267_38 ?_
      refine Ev.bipush H267 i267_39 kB_24 ?_
      refine Ev.iadd H267 i267_41 ?_
      refine Rd.iaload H267 i267_42 ar_513 h (fun h => ?_)
      refine Rd.iastore H267 i267_43 ar_513 h (fun s22 h => ?_)
      refine Rd.iinc H267 i267_44 (Nat.le_of_ble_eq_true rfl) rfl kI_1 (lv2 := fun x23 => [(2, .int x23), (0, .ref 512), (1, .int v1)]) (fun _ => rfl) h (fun x23 h => ?_)
      refine Ev.goto H267 i267_47 (t := 14) (by decide) ?_
      exact Ev.sub (l := [(0, .ref 512), (1, .int v1), (2, .int x23)]) rfl rfl (mm_sub_c rfl (mm_sub_c rfl (mm_sub_c rfl mm_sub_n))) (ih _ _ _ _ h)
def q267_50 (v1 : Int32) (s : mS) : Option mQ := q267_64 v1 s
theorem t267_50 {L : Nat} {xs : Nat → Int32} {d : Nat} (hd : 2 ≤ d) {v1 : Int32} {s : mS} {r : mQ} (h : q267_50 v1 s = some r) : Ev L xs d 267 50 [(0, .ref 512), (1, .int v1)] [] (hp s) (hr r) := by
  unfold q267_50 at h
  refine Ev.goto H267 i267_50 (t := 64) (by decide) ?_
  exact Ev.sub (l := [(0, .ref 512), (1, .int v1)]) rfl rfl (mm_sub_c rfl (mm_sub_c rfl mm_sub_n)) (t267_64 hd h)
/-- SerialGateModel.isHistory(I)V -/
def q267 (v1 : Int32) (s : mS) : Option mQ := gA 2468 (7 : Int32) <| if ¬ (s.1 513 (7 : Int32).toNatClampNeg) = (12 : Int32) then (gA 2468 (7 : Int32) <| gA 2468 (7 : Int32) <| sp (sI s 513 (7 : Int32).toNatClampNeg ((s.1 513 (7 : Int32).toNatClampNeg) + (1 : Int32))) fun s24 => q267_64 v1 s24) else (q267_14 (q267_50) 10000 v1 (0 : Int32) s)
theorem c267 {L : Nat} {xs : Nat → Int32} {v1 : Int32} {s : mS} {r : mQ} (h : q267 v1 s = some r) : ∀ d, 2 ≤ d → Cl L xs d 267 [.ref 512, .int v1] (hp s) (hr r) := by
  intro d hd
  show Ev L xs d 267 0 [(0, .ref 512), (1, .int v1)] [] (hp s) (hr r)
  unfold q267 at h
  refine Ev.aload_n H267 i267_0 rfl ?_
  refine Rd.getR H267 i267_1 ob11 rfl ?_
  refine Ev.bipush H267 i267_4 kB_7 ?_
  refine Rd.iaload H267 i267_6 ar_513 h (fun h => ?_)
  refine Ev.bipush H267 i267_7 kB_12 ?_
  refine Rd.ic_ne H267 i267_9 (t := 53) (by decide) h (fun hc h => ?_) (fun hc h => ?_)
  · refine Ev.aload_n H267 i267_53 rfl ?_
    refine Rd.getR H267 i267_54 ob11 rfl ?_
    refine Ev.bipush H267 i267_57 kB_7 ?_
    refine Ev.dup2 H267 i267_59 ⟨rfl, rfl⟩ ?_
    refine Rd.iaload H267 i267_60 ar_513 h (fun h => ?_)
    refine Ev.iconst H267 i267_61 kI_1 ?_
    refine Ev.iadd H267 i267_62 ?_
    refine Rd.iastore H267 i267_63 ar_513 h (fun s24 h => ?_)
    exact Ev.sub (l := [(0, .ref 512), (1, .int v1)]) rfl rfl (mm_sub_c rfl (mm_sub_c rfl mm_sub_n)) (t267_64 hd h)
  · refine Ev.iconst H267 i267_12 kI_0 ?_
    refine Ev.istore_n H267 i267_13 (Nat.le_of_ble_eq_true rfl) (lv2 := [(2, .int (0 : Int32)), (0, .ref 512), (1, .int v1)]) rfl ?_
    exact Ev.sub (l := [(0, .ref 512), (1, .int v1), (2, .int (0 : Int32))]) rfl rfl (mm_sub_c rfl (mm_sub_c rfl (mm_sub_c rfl mm_sub_n))) (t267_14 (k50 := (q267_50)) (fun _ _ _ h => t267_50 hd h) hd 10000 _ _ _ _ h)
theorem i268_0 : mm_cd 268 0 = some (.aload_n 0, 1, 0, 0) := rfl
theorem i268_1 : mm_cd 268 1 = some (.iload_n 1, 1, 0, 0) := rfl
theorem i268_2 : mm_cd 268 2 = some (.iconst 1, 1, 0, 0) := rfl
theorem i268_3 : mm_cd 268 3 = some (.invokevirtual 69, 3, 0, 204) := rfl
theorem i268_6 : mm_cd 268 6 = some (.istore_n 2, 1, 0, 0) := rfl
theorem i268_7 : mm_cd 268 7 = some (.aload_n 0, 1, 0, 0) := rfl
theorem i268_8 : mm_cd 268 8 = some (.iload_n 1, 1, 0, 0) := rfl
theorem i268_9 : mm_cd 268 9 = some (.invokevirtual 337, 3, 0, 248) := rfl
theorem i268_12 : mm_cd 268 12 = some (.istore_n 3, 1, 0, 0) := rfl
theorem i268_13 : mm_cd 268 13 = some (.aload_n 0, 1, 0, 0) := rfl
theorem i268_14 : mm_cd 268 14 = some (.getfield 13, 3, ((11 : Nat) : Int), 1) := rfl
theorem i268_17 : mm_cd 268 17 = some (.iconst 3, 1, 0, 0) := rfl
theorem i268_18 : mm_cd 268 18 = some (.dup2, 1, 0, 0) := rfl
theorem i268_19 : mm_cd 268 19 = some (.iaload, 1, 0, 0) := rfl
theorem i268_20 : mm_cd 268 20 = some (.iconst 1, 1, 0, 0) := rfl
theorem i268_21 : mm_cd 268 21 = some (.iadd, 1, 0, 0) := rfl
theorem i268_22 : mm_cd 268 22 = some (.iastore, 1, 0, 0) := rfl
theorem i268_23 : mm_cd 268 23 = some (.aload_n 0, 1, 0, 0) := rfl
theorem i268_24 : mm_cd 268 24 = some (.getfield 13, 3, ((11 : Nat) : Int), 1) := rfl
theorem i268_27 : mm_cd 268 27 = some (.iconst 3, 1, 0, 0) := rfl
theorem i268_28 : mm_cd 268 28 = some (.iaload, 1, 0, 0) := rfl
theorem i268_29 : mm_cd 268 29 = some (.istore 4, 2, 0, 0) := rfl
theorem i268_31 : mm_cd 268 31 = some (.aload_n 0, 1, 0, 0) := rfl
theorem i268_32 : mm_cd 268 32 = some (.getfield 13, 3, ((11 : Nat) : Int), 1) := rfl
theorem i268_35 : mm_cd 268 35 = some (.iload_n 1, 1, 0, 0) := rfl
theorem i268_36 : mm_cd 268 36 = some (.iconst 3, 1, 0, 0) := rfl
theorem i268_37 : mm_cd 268 37 = some (.invokestatic 66, 3, 0, 203) := rfl
theorem i268_40 : mm_cd 268 40 = some (.iload 4, 2, 0, 0) := rfl
theorem i268_42 : mm_cd 268 42 = some (.iastore, 1, 0, 0) := rfl
theorem i268_43 : mm_cd 268 43 = some (.aload_n 0, 1, 0, 0) := rfl
theorem i268_44 : mm_cd 268 44 = some (.getfield 13, 3, ((11 : Nat) : Int), 1) := rfl
theorem i268_47 : mm_cd 268 47 = some (.iload_n 1, 1, 0, 0) := rfl
theorem i268_48 : mm_cd 268 48 = some (.iconst 0, 1, 0, 0) := rfl
theorem i268_49 : mm_cd 268 49 = some (.invokestatic 66, 3, 0, 203) := rfl
theorem i268_52 : mm_cd 268 52 = some (.iconst 2, 1, 0, 0) := rfl
theorem i268_53 : mm_cd 268 53 = some (.iastore, 1, 0, 0) := rfl
theorem i268_54 : mm_cd 268 54 = some (.iconst 0, 1, 0, 0) := rfl
theorem i268_55 : mm_cd 268 55 = some (.istore 5, 2, 0, 0) := rfl
theorem i268_57 : mm_cd 268 57 = some (.iload 5, 2, 0, 0) := rfl
theorem i268_59 : mm_cd 268 59 = some (.bipush 10, 2, 0, 0) := rfl
theorem i268_61 : mm_cd 268 61 = some (.if_icmp .ge 50, 3, 0, 0) := rfl
theorem i268_64 : mm_cd 268 64 = some (.aload_n 0, 1, 0, 0) := rfl
theorem i268_65 : mm_cd 268 65 = some (.iload_n 1, 1, 0, 0) := rfl
theorem i268_66 : mm_cd 268 66 = some (.bipush 6, 2, 0, 0) := rfl
theorem i268_68 : mm_cd 268 68 = some (.invokevirtual 69, 3, 0, 204) := rfl
theorem i268_71 : mm_cd 268 71 = some (.iload 5, 2, 0, 0) := rfl
theorem i268_73 : mm_cd 268 73 = some (.invokestatic 79, 3, 0, 190) := rfl
theorem i268_76 : mm_cd 268 76 = some (.ifCond .eq 29, 3, 0, 0) := rfl
theorem i268_79 : mm_cd 268 79 = some (.aload_n 0, 1, 0, 0) := rfl
theorem i268_80 : mm_cd 268 80 = some (.getfield 13, 3, ((11 : Nat) : Int), 1) := rfl
theorem i268_83 : mm_cd 268 83 = some (.iload 5, 2, 0, 0) := rfl
theorem i268_85 : mm_cd 268 85 = some (.iconst 0, 1, 0, 0) := rfl
theorem i268_86 : mm_cd 268 86 = some (.invokestatic 59, 3, 0, 199) := rfl
theorem i268_89 : mm_cd 268 89 = some (.sipush 9999, 3, 0, 0) := rfl
theorem i268_92 : mm_cd 268 92 = some (.aload_n 0, 1, 0, 0) := rfl
theorem i268_93 : mm_cd 268 93 = some (.iload 5, 2, 0, 0) := rfl
theorem i268_95 : mm_cd 268 95 = some (.iconst 0, 1, 0, 0) := rfl
theorem i268_96 : mm_cd 268 96 = some (.invokevirtual 146, 3, 0, 200) := rfl
theorem i268_99 : mm_cd 268 99 = some (.iconst 1, 1, 0, 0) := rfl
theorem i268_100 : mm_cd 268 100 = some (.iadd, 1, 0, 0) := rfl
theorem i268_101 : mm_cd 268 101 = some (.invokestatic 149, 3, 3, 0) := rfl
theorem i268_104 : mm_cd 268 104 = some (.iastore, 1, 0, 0) := rfl
theorem i268_105 : mm_cd 268 105 = some (.iinc 5 1, 3, 0, 0) := rfl
theorem i268_108 : mm_cd 268 108 = some (.goto (-51), 3, 0, 0) := rfl
theorem i268_111 : mm_cd 268 111 = some (.aload_n 0, 1, 0, 0) := rfl
theorem i268_112 : mm_cd 268 112 = some (.getfield 13, 3, ((11 : Nat) : Int), 1) := rfl
theorem i268_115 : mm_cd 268 115 = some (.iload_n 2, 1, 0, 0) := rfl
theorem i268_116 : mm_cd 268 116 = some (.iconst 4, 1, 0, 0) := rfl
theorem i268_117 : mm_cd 268 117 = some (.invokestatic 63, 3, 0, 201) := rfl
theorem i268_120 : mm_cd 268 120 = some (.dup2, 1, 0, 0) := rfl
theorem i268_121 : mm_cd 268 121 = some (.iaload, 1, 0, 0) := rfl
theorem i268_122 : mm_cd 268 122 = some (.iconst 1, 1, 0, 0) := rfl
theorem i268_123 : mm_cd 268 123 = some (.iadd, 1, 0, 0) := rfl
theorem i268_124 : mm_cd 268 124 = some (.iastore, 1, 0, 0) := rfl
theorem i268_125 : mm_cd 268 125 = some (.aload_n 0, 1, 0, 0) := rfl
theorem i268_126 : mm_cd 268 126 = some (.getfield 13, 3, ((11 : Nat) : Int), 1) := rfl
theorem i268_129 : mm_cd 268 129 = some (.iload_n 2, 1, 0, 0) := rfl
theorem i268_130 : mm_cd 268 130 = some (.iconst 3, 1, 0, 0) := rfl
theorem i268_131 : mm_cd 268 131 = some (.invokestatic 63, 3, 0, 201) := rfl
theorem i268_134 : mm_cd 268 134 = some (.iconst 0, 1, 0, 0) := rfl
theorem i268_135 : mm_cd 268 135 = some (.iastore, 1, 0, 0) := rfl
theorem i268_136 : mm_cd 268 136 = some (.aload_n 0, 1, 0, 0) := rfl
theorem i268_137 : mm_cd 268 137 = some (.getfield 13, 3, ((11 : Nat) : Int), 1) := rfl
theorem i268_140 : mm_cd 268 140 = some (.iconst 5, 1, 0, 0) := rfl
theorem i268_141 : mm_cd 268 141 = some (.sipush 9999, 3, 0, 0) := rfl
theorem i268_144 : mm_cd 268 144 = some (.aload_n 0, 1, 0, 0) := rfl
theorem i268_145 : mm_cd 268 145 = some (.getfield 13, 3, ((11 : Nat) : Int), 1) := rfl
theorem i268_148 : mm_cd 268 148 = some (.iconst 5, 1, 0, 0) := rfl
theorem i268_149 : mm_cd 268 149 = some (.iaload, 1, 0, 0) := rfl
theorem i268_150 : mm_cd 268 150 = some (.iload_n 3, 1, 0, 0) := rfl
theorem i268_151 : mm_cd 268 151 = some (.iadd, 1, 0, 0) := rfl
theorem i268_152 : mm_cd 268 152 = some (.invokestatic 149, 3, 3, 0) := rfl
theorem i268_155 : mm_cd 268 155 = some (.iastore, 1, 0, 0) := rfl
theorem i268_156 : mm_cd 268 156 = some (.aload_n 0, 1, 0, 0) := rfl
theorem i268_157 : mm_cd 268 157 = some (.iload_n 1, 1, 0, 0) := rfl
theorem i268_158 : mm_cd 268 158 = some (.invokevirtual 340, 3, 0, 267) := rfl
theorem i268_161 : mm_cd 268 161 = some (.aload_n 0, 1, 0, 0) := rfl
theorem i268_162 : mm_cd 268 162 = some (.iload_n 1, 1, 0, 0) := rfl
theorem i268_163 : mm_cd 268 163 = some (.iconst 0, 1, 0, 0) := rfl
theorem i268_164 : mm_cd 268 164 = some (.invokevirtual 285, 3, 0, 249) := rfl
theorem i268_167 : mm_cd 268 167 = some (.aload_n 0, 1, 0, 0) := rfl
theorem i268_168 : mm_cd 268 168 = some (.iload_n 1, 1, 0, 0) := rfl
theorem i268_169 : mm_cd 268 169 = some (.invokevirtual 282, 3, 0, 207) := rfl
theorem i268_172 : mm_cd 268 172 = some (.ifCond .eq 7, 3, 0, 0) := rfl
theorem i268_175 : mm_cd 268 175 = some (.iconst 0, 1, 0, 0) := rfl
theorem i268_176 : mm_cd 268 176 = some (.goto 8, 3, 0, 0) := rfl
theorem i268_179 : mm_cd 268 179 = some (.aload_n 0, 1, 0, 0) := rfl
theorem i268_180 : mm_cd 268 180 = some (.iload_n 1, 1, 0, 0) := rfl
theorem i268_181 : mm_cd 268 181 = some (.invokevirtual 295, 3, 0, 251) := rfl
theorem i268_184 : mm_cd 268 184 = some (.istore 5, 2, 0, 0) := rfl
theorem i268_186 : mm_cd 268 186 = some (.iconst 0, 1, 0, 0) := rfl
theorem i268_187 : mm_cd 268 187 = some (.istore 6, 2, 0, 0) := rfl
theorem i268_189 : mm_cd 268 189 = some (.iload 6, 2, 0, 0) := rfl
theorem i268_191 : mm_cd 268 191 = some (.bipush 8, 2, 0, 0) := rfl
theorem i268_193 : mm_cd 268 193 = some (.if_icmp .ge 73, 3, 0, 0) := rfl
theorem i268_196 : mm_cd 268 196 = some (.iload 5, 2, 0, 0) := rfl
theorem i268_198 : mm_cd 268 198 = some (.ifCond .le 68, 3, 0, 0) := rfl
theorem i268_201 : mm_cd 268 201 = some (.aload_n 0, 1, 0, 0) := rfl
theorem i268_202 : mm_cd 268 202 = some (.iload 6, 2, 0, 0) := rfl
theorem i268_204 : mm_cd 268 204 = some (.invokevirtual 75, 3, 0, 205) := rfl
theorem i268_207 : mm_cd 268 207 = some (.ifCond .eq 53, 3, 0, 0) := rfl
theorem i268_210 : mm_cd 268 210 = some (.aload_n 0, 1, 0, 0) := rfl
theorem i268_211 : mm_cd 268 211 = some (.iload 6, 2, 0, 0) := rfl
theorem i268_213 : mm_cd 268 213 = some (.invokevirtual 282, 3, 0, 207) := rfl
theorem i268_216 : mm_cd 268 216 = some (.ifCond .eq 44, 3, 0, 0) := rfl
theorem i268_219 : mm_cd 268 219 = some (.aload_n 0, 1, 0, 0) := rfl
theorem i268_220 : mm_cd 268 220 = some (.iload 6, 2, 0, 0) := rfl
theorem i268_222 : mm_cd 268 222 = some (.iconst 2, 1, 0, 0) := rfl
theorem i268_223 : mm_cd 268 223 = some (.invokevirtual 69, 3, 0, 204) := rfl
theorem i268_226 : mm_cd 268 226 = some (.iload 5, 2, 0, 0) := rfl
theorem i268_228 : mm_cd 268 228 = some (.if_icmp .le 32, 3, 0, 0) := rfl
theorem i268_231 : mm_cd 268 231 = some (.aload_n 0, 1, 0, 0) := rfl
theorem i268_232 : mm_cd 268 232 = some (.iload 6, 2, 0, 0) := rfl
theorem i268_234 : mm_cd 268 234 = some (.iconst 2, 1, 0, 0) := rfl
theorem i268_235 : mm_cd 268 235 = some (.invokevirtual 69, 3, 0, 204) := rfl
theorem i268_238 : mm_cd 268 238 = some (.aload_n 0, 1, 0, 0) := rfl
theorem i268_239 : mm_cd 268 239 = some (.iload_n 1, 1, 0, 0) := rfl
theorem i268_240 : mm_cd 268 240 = some (.iconst 2, 1, 0, 0) := rfl
theorem i268_241 : mm_cd 268 241 = some (.invokevirtual 69, 3, 0, 204) := rfl
theorem i268_244 : mm_cd 268 244 = some (.if_icmp .le 16, 3, 0, 0) := rfl
theorem i268_247 : mm_cd 268 247 = some (.aload_n 0, 1, 0, 0) := rfl
theorem i268_248 : mm_cd 268 248 = some (.getfield 13, 3, ((11 : Nat) : Int), 1) := rfl
theorem i268_251 : mm_cd 268 251 = some (.iload 6, 2, 0, 0) := rfl
theorem i268_253 : mm_cd 268 253 = some (.bipush 10, 2, 0, 0) := rfl
theorem i268_255 : mm_cd 268 255 = some (.invokestatic 66, 3, 0, 203) := rfl
theorem i268_258 : mm_cd 268 258 = some (.iconst 1, 1, 0, 0) := rfl
theorem i268_259 : mm_cd 268 259 = some (.iastore, 1, 0, 0) := rfl
theorem i268_260 : mm_cd 268 260 = some (.iinc 6 1, 3, 0, 0) := rfl
theorem i268_263 : mm_cd 268 263 = some (.goto (-74), 3, 0, 0) := rfl
theorem i268_266 : mm_cd 268 266 = some (.aload_n 0, 1, 0, 0) := rfl
theorem i268_267 : mm_cd 268 267 = some (.invokevirtual 331, 3, 0, 257) := rfl
theorem i268_270 : mm_cd 268 270 = some (.aload_n 0, 1, 0, 0) := rfl
theorem i268_271 : mm_cd 268 271 = some (.invokevirtual 252, 3, 0, 261) := rfl
theorem i268_274 : mm_cd 268 274 = some (.iload 4, 2, 0, 0) := rfl
theorem i268_276 : mm_cd 268 276 = some (.ireturn, 1, 0, 0) := rfl
def q268_105 (k57 : Int32 → Int32 → Int32 → Int32 → Int32 → mS → Option mQ) (v1 : Int32) (v2 : Int32) (v3 : Int32) (v4 : Int32) (v5 : Int32) (s : mS) : Option mQ := bx (v5 + (1 : Int32)) fun x1 => k57 v1 v2 v3 v4 x1 s
theorem t268_105 {L : Nat} {xs : Nat → Int32} {d : Nat} {k57 : Int32 → Int32 → Int32 → Int32 → Int32 → mS → Option mQ} (hk57 : ∀ (v1 : Int32) (v2 : Int32) (v3 : Int32) (v4 : Int32) (v5 : Int32) (s : mS) (r : mQ), k57 v1 v2 v3 v4 v5 s = some r → Ev L xs d 268 57 [(0, .ref 512), (1, .int v1), (2, .int v2), (3, .int v3), (4, .int v4), (5, .int v5)] [] (hp s) (hr r)) (hd : 10 ≤ d) {v1 : Int32} {v2 : Int32} {v3 : Int32} {v4 : Int32} {v5 : Int32} {s : mS} {r : mQ} (h : q268_105 k57 v1 v2 v3 v4 v5 s = some r) : Ev L xs d 268 105 [(0, .ref 512), (1, .int v1), (2, .int v2), (3, .int v3), (4, .int v4), (5, .int v5)] [] (hp s) (hr r) := by
  unfold q268_105 at h
  refine Rd.iinc H268 i268_105 (Nat.le_of_ble_eq_true rfl) rfl kI_1 (lv2 := fun x1 => [(5, .int x1), (0, .ref 512), (1, .int v1), (2, .int v2), (3, .int v3), (4, .int v4)]) (fun _ => rfl) h (fun x1 h => ?_)
  refine Ev.goto H268 i268_108 (t := 57) (by decide) ?_
  exact Ev.sub (l := [(0, .ref 512), (1, .int v1), (2, .int v2), (3, .int v3), (4, .int v4), (5, .int x1)]) rfl rfl (mm_sub_c rfl (mm_sub_c rfl (mm_sub_c rfl (mm_sub_c rfl (mm_sub_c rfl (mm_sub_c rfl mm_sub_n)))))) (hk57 _ _ _ _ _ _ _ h)
def q268_57 (k111 : Int32 → Int32 → Int32 → Int32 → mS → Option mQ) : Nat → Int32 → Int32 → Int32 → Int32 → Int32 → mS → Option mQ
  | 0, _, _, _, _, _, _ => none
  | n + 1, v1, v2, v3, v4, v5, s => if (10 : Int32) ≤ v5 then (k111 v1 v2 v3 v4 s) else (bN (q204 v1 (6 : Int32) s) fun x3 s2 => bN (q190 x3 v5 s2) fun x5 s4 => if x5 = 0 then (q268_105 (q268_57 k111 n) v1 v2 v3 v4 v5 s4) else (bN (q199 v5 (0 : Int32) s4) fun x7 s6 => bN (q200 v5 (0 : Int32) s6) fun x9 s8 => gA 2468 x7 <| sp (sI s8 513 x7.toNatClampNeg (mnI (9999 : Int32) (x9 + (1 : Int32)))) fun s10 => q268_105 (q268_57 k111 n) v1 v2 v3 v4 v5 s10))
theorem t268_57 {L : Nat} {xs : Nat → Int32} {d : Nat} {k111 : Int32 → Int32 → Int32 → Int32 → mS → Option mQ} (hk111 : ∀ (v1 : Int32) (v2 : Int32) (v3 : Int32) (v4 : Int32) (s : mS) (r : mQ), k111 v1 v2 v3 v4 s = some r → Ev L xs d 268 111 [(0, .ref 512), (1, .int v1), (2, .int v2), (3, .int v3), (4, .int v4)] [] (hp s) (hr r)) (hd : 10 ≤ d) : ∀ (n : Nat) (v1 : Int32) (v2 : Int32) (v3 : Int32) (v4 : Int32) (v5 : Int32) (s : mS) (r : mQ), q268_57 k111 n v1 v2 v3 v4 v5 s = some r → Ev L xs d 268 57 [(0, .ref 512), (1, .int v1), (2, .int v2), (3, .int v3), (4, .int v4), (5, .int v5)] [] (hp s) (hr r) := by
  intro n
  induction n with
  | zero => intro v1 v2 v3 v4 v5 s r h; rw [q268_57] at h; cases h
  | succ n ih =>
    intro v1 v2 v3 v4 v5 s r h
    rw [q268_57] at h
    refine Ev.iload H268 i268_57 rfl ?_
    refine Ev.bipush H268 i268_59 kB_10 ?_
    refine Rd.ic_ge H268 i268_61 (t := 111) (by decide) h (fun hc h => ?_) (fun hc h => ?_)
    · exact Ev.sub (l := [(0, .ref 512), (1, .int v1), (2, .int v2), (3, .int v3), (4, .int v4)]) rfl rfl (mm_sub_c rfl (mm_sub_c rfl (mm_sub_c rfl (mm_sub_c rfl (mm_sub_c rfl mm_sub_n))))) (hk111 _ _ _ _ _ _ h)
    · refine Ev.aload_n H268 i268_64 rfl ?_
      refine Ev.iload_n H268 i268_65 rfl ?_
      refine Ev.bipush H268 i268_66 kB_6 ?_
      refine Rd.cV2vN H268 i268_68 cal204 ob11 (Nat.le_of_ble_eq_true rfl) (Nat.le_of_ble_eq_true rfl) (Nat.lt_of_lt_of_le (by decide) hd) (fun q hq => c204 hq) h (fun x3 s2 h => ?_)
      refine Ev.iload H268 i268_71 rfl ?_
      refine Rd.cS2vN H268 i268_73 cal190 (Nat.le_of_ble_eq_true rfl) (Nat.le_of_ble_eq_true rfl) (Nat.lt_of_lt_of_le (by decide) hd) (fun q hq => c190 hq) h (fun x5 s4 h => ?_)
      refine Rd.if_eq H268 i268_76 (t := 105) (by decide) h (fun hc h => ?_) (fun hc h => ?_)
      · exact Ev.sub (l := [(0, .ref 512), (1, .int v1), (2, .int v2), (3, .int v3), (4, .int v4), (5, .int v5)]) rfl rfl (mm_sub_c rfl (mm_sub_c rfl (mm_sub_c rfl (mm_sub_c rfl (mm_sub_c rfl (mm_sub_c rfl mm_sub_n)))))) (t268_105 (k57 := (q268_57 k111 n)) (fun _ _ _ _ _ _ _ h => ih _ _ _ _ _ _ _ h) hd h)
      · refine Ev.aload_n H268 i268_79 rfl ?_
        refine Rd.getR H268 i268_80 ob11 rfl ?_
        refine Ev.iload H268 i268_83 rfl ?_
        refine Ev.iconst H268 i268_85 kI_0 ?_
        refine Rd.cS2vN H268 i268_86 cal199 (Nat.le_of_ble_eq_true rfl) (Nat.le_of_ble_eq_true rfl) (Nat.lt_of_lt_of_le (by decide) hd) (fun q hq => c199 hq) h (fun x7 s6 h => ?_)
        refine Ev.sipush H268 i268_89 kS_9999 ?_
        refine Ev.aload_n H268 i268_92 rfl ?_
        refine Ev.iload H268 i268_93 rfl ?_
        refine Ev.iconst H268 i268_95 kI_0 ?_
        refine Rd.cV2vN H268 i268_96 cal200 ob11 (Nat.le_of_ble_eq_true rfl) (Nat.le_of_ble_eq_true rfl) (Nat.lt_of_lt_of_le (by decide) hd) (fun q hq => c200 hq) h (fun x9 s8 h => ?_)
        refine Ev.iconst H268 i268_99 kI_1 ?_
        refine Ev.iadd H268 i268_100 ?_
        refine Rd.min H268 i268_101 (Nat.le_of_ble_eq_true rfl) ?_
        refine Rd.iastore H268 i268_104 ar_513 h (fun s10 h => ?_)
        exact Ev.sub (l := [(0, .ref 512), (1, .int v1), (2, .int v2), (3, .int v3), (4, .int v4), (5, .int v5)]) rfl rfl (mm_sub_c rfl (mm_sub_c rfl (mm_sub_c rfl (mm_sub_c rfl (mm_sub_c rfl (mm_sub_c rfl mm_sub_n)))))) (t268_105 (k57 := (q268_57 k111 n)) (fun _ _ _ _ _ _ _ h => ih _ _ _ _ _ _ _ h) hd h)
def q268_260 (k189 : Int32 → Int32 → Int32 → Int32 → mS → Option mQ) (v1 : Int32) (v4 : Int32) (v5 : Int32) (v6 : Int32) (s : mS) : Option mQ := bx (v6 + (1 : Int32)) fun x11 => k189 v1 v4 v5 x11 s
theorem t268_260 {L : Nat} {xs : Nat → Int32} {d : Nat} {k189 : Int32 → Int32 → Int32 → Int32 → mS → Option mQ} (hk189 : ∀ (v1 : Int32) (v4 : Int32) (v5 : Int32) (v6 : Int32) (s : mS) (r : mQ), k189 v1 v4 v5 v6 s = some r → Ev L xs d 268 189 [(0, .ref 512), (1, .int v1), (4, .int v4), (5, .int v5), (6, .int v6)] [] (hp s) (hr r)) (hd : 10 ≤ d) {v1 : Int32} {v4 : Int32} {v5 : Int32} {v6 : Int32} {s : mS} {r : mQ} (h : q268_260 k189 v1 v4 v5 v6 s = some r) : Ev L xs d 268 260 [(0, .ref 512), (1, .int v1), (4, .int v4), (5, .int v5), (6, .int v6)] [] (hp s) (hr r) := by
  unfold q268_260 at h
  refine Rd.iinc H268 i268_260 (Nat.le_of_ble_eq_true rfl) rfl kI_1 (lv2 := fun x11 => [(6, .int x11), (0, .ref 512), (1, .int v1), (4, .int v4), (5, .int v5)]) (fun _ => rfl) h (fun x11 h => ?_)
  refine Ev.goto H268 i268_263 (t := 189) (by decide) ?_
  exact Ev.sub (l := [(0, .ref 512), (1, .int v1), (4, .int v4), (5, .int v5), (6, .int x11)]) rfl rfl (mm_sub_c rfl (mm_sub_c rfl (mm_sub_c rfl (mm_sub_c rfl (mm_sub_c rfl mm_sub_n))))) (hk189 _ _ _ _ _ _ h)
def q268_189 (k266 : Int32 → mS → Option mQ) : Nat → Int32 → Int32 → Int32 → Int32 → mS → Option mQ
  | 0, _, _, _, _, _ => none
  | n + 1, v1, v4, v5, v6, s => if (8 : Int32) ≤ v6 then (k266 v4 s) else (if v5 ≤ 0 then (k266 v4 s) else (bN (q205 v6 s) fun x13 s12 => if x13 = 0 then (q268_260 (q268_189 k266 n) v1 v4 v5 v6 s12) else (bN (q207 v6 s12) fun x15 s14 => if x15 = 0 then (q268_260 (q268_189 k266 n) v1 v4 v5 v6 s14) else (bN (q204 v6 (2 : Int32) s14) fun x17 s16 => if x17 ≤ v5 then (q268_260 (q268_189 k266 n) v1 v4 v5 v6 s16) else (bN (q204 v6 (2 : Int32) s16) fun x19 s18 => bN (q204 v1 (2 : Int32) s18) fun x21 s20 => if x19 ≤ x21 then (q268_260 (q268_189 k266 n) v1 v4 v5 v6 s20) else (bN (q203 v6 (10 : Int32) s20) fun x23 s22 => gA 2468 x23 <| sp (sI s22 513 x23.toNatClampNeg (1 : Int32)) fun s24 => q268_260 (q268_189 k266 n) v1 v4 v5 v6 s24))))))
theorem t268_189 {L : Nat} {xs : Nat → Int32} {d : Nat} {k266 : Int32 → mS → Option mQ} (hk266 : ∀ (v4 : Int32) (s : mS) (r : mQ), k266 v4 s = some r → Ev L xs d 268 266 [(0, .ref 512), (4, .int v4)] [] (hp s) (hr r)) (hd : 10 ≤ d) : ∀ (n : Nat) (v1 : Int32) (v4 : Int32) (v5 : Int32) (v6 : Int32) (s : mS) (r : mQ), q268_189 k266 n v1 v4 v5 v6 s = some r → Ev L xs d 268 189 [(0, .ref 512), (1, .int v1), (4, .int v4), (5, .int v5), (6, .int v6)] [] (hp s) (hr r) := by
  intro n
  induction n with
  | zero => intro v1 v4 v5 v6 s r h; rw [q268_189] at h; cases h
  | succ n ih =>
    intro v1 v4 v5 v6 s r h
    rw [q268_189] at h
    refine Ev.iload H268 i268_189 rfl ?_
    refine Ev.bipush H268 i268_191 kB_8 ?_
    refine Rd.ic_ge H268 i268_193 (t := 266) (by decide) h (fun hc h => ?_) (fun hc h => ?_)
    · exact Ev.sub (l := [(0, .ref 512), (4, .int v4)]) rfl rfl (mm_sub_c rfl (mm_sub_c rfl mm_sub_n)) (hk266 _ _ _ h)
    · refine Ev.iload H268 i268_196 rfl ?_
      refine Rd.if_le H268 i268_198 (t := 266) (by decide) h (fun hc h => ?_) (fun hc h => ?_)
      · exact Ev.sub (l := [(0, .ref 512), (4, .int v4)]) rfl rfl (mm_sub_c rfl (mm_sub_c rfl mm_sub_n)) (hk266 _ _ _ h)
      · refine Ev.aload_n H268 i268_201 rfl ?_
        refine Ev.iload H268 i268_202 rfl ?_
        refine Rd.cV1vN H268 i268_204 cal205 ob11 (Nat.le_of_ble_eq_true rfl) (Nat.le_of_ble_eq_true rfl) (Nat.lt_of_lt_of_le (by decide) hd) (fun q hq => c205 hq) h (fun x13 s12 h => ?_)
        refine Rd.if_eq H268 i268_207 (t := 260) (by decide) h (fun hc h => ?_) (fun hc h => ?_)
        · exact Ev.sub (l := [(0, .ref 512), (1, .int v1), (4, .int v4), (5, .int v5), (6, .int v6)]) rfl rfl (mm_sub_c rfl (mm_sub_c rfl (mm_sub_c rfl (mm_sub_c rfl (mm_sub_c rfl mm_sub_n))))) (t268_260 (k189 := (q268_189 k266 n)) (fun _ _ _ _ _ _ h => ih _ _ _ _ _ _ h) hd h)
        · refine Ev.aload_n H268 i268_210 rfl ?_
          refine Ev.iload H268 i268_211 rfl ?_
          refine Rd.cV1vN H268 i268_213 cal207 ob11 (Nat.le_of_ble_eq_true rfl) (Nat.le_of_ble_eq_true rfl) (Nat.lt_of_lt_of_le (by decide) hd) (fun q hq => c207 hq) h (fun x15 s14 h => ?_)
          refine Rd.if_eq H268 i268_216 (t := 260) (by decide) h (fun hc h => ?_) (fun hc h => ?_)
          · exact Ev.sub (l := [(0, .ref 512), (1, .int v1), (4, .int v4), (5, .int v5), (6, .int v6)]) rfl rfl (mm_sub_c rfl (mm_sub_c rfl (mm_sub_c rfl (mm_sub_c rfl (mm_sub_c rfl mm_sub_n))))) (t268_260 (k189 := (q268_189 k266 n)) (fun _ _ _ _ _ _ h => ih _ _ _ _ _ _ h) hd h)
          · refine Ev.aload_n H268 i268_219 rfl ?_
            refine Ev.iload H268 i268_220 rfl ?_
            refine Ev.iconst H268 i268_222 kI_2 ?_
            refine Rd.cV2vN H268 i268_223 cal204 ob11 (Nat.le_of_ble_eq_true rfl) (Nat.le_of_ble_eq_true rfl) (Nat.lt_of_lt_of_le (by decide) hd) (fun q hq => c204 hq) h (fun x17 s16 h => ?_)
            refine Ev.iload H268 i268_226 rfl ?_
            refine Rd.ic_le H268 i268_228 (t := 260) (by decide) h (fun hc h => ?_) (fun hc h => ?_)
            · exact Ev.sub (l := [(0, .ref 512), (1, .int v1), (4, .int v4), (5, .int v5), (6, .int v6)]) rfl rfl (mm_sub_c rfl (mm_sub_c rfl (mm_sub_c rfl (mm_sub_c rfl (mm_sub_c rfl mm_sub_n))))) (t268_260 (k189 := (q268_189 k266 n)) (fun _ _ _ _ _ _ h => ih _ _ _ _ _ _ h) hd h)
            · refine Ev.aload_n H268 i268_231 rfl ?_
              refine Ev.iload H268 i268_232 rfl ?_
              refine Ev.iconst H268 i268_234 kI_2 ?_
              refine Rd.cV2vN H268 i268_235 cal204 ob11 (Nat.le_of_ble_eq_true rfl) (Nat.le_of_ble_eq_true rfl) (Nat.lt_of_lt_of_le (by decide) hd) (fun q hq => c204 hq) h (fun x19 s18 h => ?_)
              refine Ev.aload_n H268 i268_238 rfl ?_
              refine Ev.iload_n H268 i268_239 rfl ?_
              refine Ev.iconst H268 i268_240 kI_2 ?_
              refine Rd.cV2vN H268 i268_241 cal204 ob11 (Nat.le_of_ble_eq_true rfl) (Nat.le_of_ble_eq_true rfl) (Nat.lt_of_lt_of_le (by decide) hd) (fun q hq => c204 hq) h (fun x21 s20 h => ?_)
              refine Rd.ic_le H268 i268_244 (t := 260) (by decide) h (fun hc h => ?_) (fun hc h => ?_)
              · exact Ev.sub (l := [(0, .ref 512), (1, .int v1), (4, .int v4), (5, .int v5), (6, .int v6)]) rfl rfl (mm_sub_c rfl (mm_sub_c rfl (mm_sub_c rfl (mm_sub_c rfl (mm_sub_c rfl mm_sub_n))))) (t268_260 (k189 := (q268_189 k266 n)) (fun _ _ _ _ _ _ h => ih _ _ _ _ _ _ h) hd h)
              · refine Ev.aload_n H268 i268_247 rfl ?_
                refine Rd.getR H268 i268_248 ob11 rfl ?_
                refine Ev.iload H268 i268_251 rfl ?_
                refine Ev.bipush H268 i268_253 kB_10 ?_
                refine Rd.cS2vN H268 i268_255 cal203 (Nat.le_of_ble_eq_true rfl) (Nat.le_of_ble_eq_true rfl) (Nat.lt_of_lt_of_le (by decide) hd) (fun q hq => c203 hq) h (fun x23 s22 h => ?_)
                refine Ev.iconst H268 i268_258 kI_1 ?_
                refine Rd.iastore H268 i268_259 ar_513 h (fun s24 h => ?_)
                exact Ev.sub (l := [(0, .ref 512), (1, .int v1), (4, .int v4), (5, .int v5), (6, .int v6)]) rfl rfl (mm_sub_c rfl (mm_sub_c rfl (mm_sub_c rfl (mm_sub_c rfl (mm_sub_c rfl mm_sub_n))))) (t268_260 (k189 := (q268_189 k266 n)) (fun _ _ _ _ _ _ h => ih _ _ _ _ _ _ h) hd h)
def q268_266 (v4 : Int32) (s : mS) : Option mQ := bM (q257 s) fun s25 => bM (q261 s25) fun s26 => rv v4 s26
theorem t268_266 {L : Nat} {xs : Nat → Int32} {d : Nat} (hd : 10 ≤ d) {v4 : Int32} {s : mS} {r : mQ} (h : q268_266 v4 s = some r) : Ev L xs d 268 266 [(0, .ref 512), (4, .int v4)] [] (hp s) (hr r) := by
  unfold q268_266 at h
  refine Ev.aload_n H268 i268_266 rfl ?_
  refine Rd.cV0uN H268 i268_267 cal257 ob11 (Nat.le_of_ble_eq_true rfl) (Nat.le_of_ble_eq_true rfl) (Nat.lt_of_lt_of_le (by decide) hd) (fun q hq => c257 hq) h (fun s25 h => ?_)
  refine Ev.aload_n H268 i268_270 rfl ?_
  refine Rd.cV0uN H268 i268_271 cal261 ob11 (Nat.le_of_ble_eq_true rfl) (Nat.le_of_ble_eq_true rfl) (Nat.lt_of_lt_of_le (by decide) hd) (fun q hq => c261 hq) h (fun s26 h => ?_)
  refine Ev.iload H268 i268_274 rfl ?_
  exact Rd.ireturn H268 i268_276 rfl h
def q268_184 (v1 : Int32) (v4 : Int32) (y0 : Int32) (s : mS) : Option mQ := q268_189 (q268_266) 10000 v1 v4 y0 (0 : Int32) s
theorem t268_184 {L : Nat} {xs : Nat → Int32} {d : Nat} (hd : 10 ≤ d) {v1 : Int32} {v4 : Int32} {y0 : Int32} {s : mS} {r : mQ} (h : q268_184 v1 v4 y0 s = some r) : Ev L xs d 268 184 [(0, .ref 512), (1, .int v1), (4, .int v4)] [.int y0] (hp s) (hr r) := by
  unfold q268_184 at h
  refine Ev.istore H268 i268_184 (Nat.le_of_ble_eq_true rfl) (lv2 := [(5, .int y0), (0, .ref 512), (1, .int v1), (4, .int v4)]) rfl ?_
  refine Ev.iconst H268 i268_186 kI_0 ?_
  refine Ev.istore H268 i268_187 (Nat.le_of_ble_eq_true rfl) (lv2 := [(6, .int (0 : Int32)), (5, .int y0), (0, .ref 512), (1, .int v1), (4, .int v4)]) rfl ?_
  exact Ev.sub (l := [(0, .ref 512), (1, .int v1), (4, .int v4), (5, .int y0), (6, .int (0 : Int32))]) rfl rfl (mm_sub_c rfl (mm_sub_c rfl (mm_sub_c rfl (mm_sub_c rfl (mm_sub_c rfl mm_sub_n))))) (t268_189 (k266 := (q268_266)) (fun _ _ _ h => t268_266 hd h) hd 10000 _ _ _ _ _ _ h)
def q268_111 (v1 : Int32) (v2 : Int32) (v3 : Int32) (v4 : Int32) (s : mS) : Option mQ := bN (q201 v2 (4 : Int32) s) fun x28 s27 => gA 2468 x28 <| gA 2468 x28 <| sp (sI s27 513 x28.toNatClampNeg ((s27.1 513 x28.toNatClampNeg) + (1 : Int32))) fun s29 => bN (q201 v2 (3 : Int32) s29) fun x31 s30 => gA 2468 x31 <| sp (sI s30 513 x31.toNatClampNeg (0 : Int32)) fun s32 => gA 2468 (5 : Int32) <| gA 2468 (5 : Int32) <| sp (sI s32 513 (5 : Int32).toNatClampNeg (mnI (9999 : Int32) ((s32.1 513 (5 : Int32).toNatClampNeg) + v3))) fun s33 => bM (q267 v1 s33) fun s34 => bM (q249 v1 (0 : Int32) s34) fun s35 => bN (q207 v1 s35) fun x37 s36 => if x37 = 0 then (bN (q251 v1 s36) fun x39 s38 => q268_184 v1 v4 x39 s38) else (q268_184 v1 v4 (0 : Int32) s36)
theorem t268_111 {L : Nat} {xs : Nat → Int32} {d : Nat} (hd : 10 ≤ d) {v1 : Int32} {v2 : Int32} {v3 : Int32} {v4 : Int32} {s : mS} {r : mQ} (h : q268_111 v1 v2 v3 v4 s = some r) : Ev L xs d 268 111 [(0, .ref 512), (1, .int v1), (2, .int v2), (3, .int v3), (4, .int v4)] [] (hp s) (hr r) := by
  unfold q268_111 at h
  refine Ev.aload_n H268 i268_111 rfl ?_
  refine Rd.getR H268 i268_112 ob11 rfl ?_
  refine Ev.iload_n H268 i268_115 rfl ?_
  refine Ev.iconst H268 i268_116 kI_4 ?_
  refine Rd.cS2vN H268 i268_117 cal201 (Nat.le_of_ble_eq_true rfl) (Nat.le_of_ble_eq_true rfl) (Nat.lt_of_lt_of_le (by decide) hd) (fun q hq => c201 hq) h (fun x28 s27 h => ?_)
  refine Ev.dup2 H268 i268_120 ⟨rfl, rfl⟩ ?_
  refine Rd.iaload H268 i268_121 ar_513 h (fun h => ?_)
  refine Ev.iconst H268 i268_122 kI_1 ?_
  refine Ev.iadd H268 i268_123 ?_
  refine Rd.iastore H268 i268_124 ar_513 h (fun s29 h => ?_)
  refine Ev.aload_n H268 i268_125 rfl ?_
  refine Rd.getR H268 i268_126 ob11 rfl ?_
  refine Ev.iload_n H268 i268_129 rfl ?_
  refine Ev.iconst H268 i268_130 kI_3 ?_
  refine Rd.cS2vN H268 i268_131 cal201 (Nat.le_of_ble_eq_true rfl) (Nat.le_of_ble_eq_true rfl) (Nat.lt_of_lt_of_le (by decide) hd) (fun q hq => c201 hq) h (fun x31 s30 h => ?_)
  refine Ev.iconst H268 i268_134 kI_0 ?_
  refine Rd.iastore H268 i268_135 ar_513 h (fun s32 h => ?_)
  refine Ev.aload_n H268 i268_136 rfl ?_
  refine Rd.getR H268 i268_137 ob11 rfl ?_
  refine Ev.iconst H268 i268_140 kI_5 ?_
  refine Ev.sipush H268 i268_141 kS_9999 ?_
  refine Ev.aload_n H268 i268_144 rfl ?_
  refine Rd.getR H268 i268_145 ob11 rfl ?_
  refine Ev.iconst H268 i268_148 kI_5 ?_
  refine Rd.iaload H268 i268_149 ar_513 h (fun h => ?_)
  refine Ev.iload_n H268 i268_150 rfl ?_
  refine Ev.iadd H268 i268_151 ?_
  refine Rd.min H268 i268_152 (Nat.le_of_ble_eq_true rfl) ?_
  refine Rd.iastore H268 i268_155 ar_513 h (fun s33 h => ?_)
  refine Ev.aload_n H268 i268_156 rfl ?_
  refine Ev.iload_n H268 i268_157 rfl ?_
  refine Rd.cV1uN H268 i268_158 cal267 ob11 (Nat.le_of_ble_eq_true rfl) (Nat.le_of_ble_eq_true rfl) (Nat.lt_of_lt_of_le (by decide) hd) (fun q hq => c267 hq) h (fun s34 h => ?_)
  refine Ev.aload_n H268 i268_161 rfl ?_
  refine Ev.iload_n H268 i268_162 rfl ?_
  refine Ev.iconst H268 i268_163 kI_0 ?_
  refine Rd.cV2uN H268 i268_164 cal249 ob11 (Nat.le_of_ble_eq_true rfl) (Nat.le_of_ble_eq_true rfl) (Nat.lt_of_lt_of_le (by decide) hd) (fun q hq => c249 hq) h (fun s35 h => ?_)
  refine Ev.aload_n H268 i268_167 rfl ?_
  refine Ev.iload_n H268 i268_168 rfl ?_
  refine Rd.cV1vN H268 i268_169 cal207 ob11 (Nat.le_of_ble_eq_true rfl) (Nat.le_of_ble_eq_true rfl) (Nat.lt_of_lt_of_le (by decide) hd) (fun q hq => c207 hq) h (fun x37 s36 h => ?_)
  refine Rd.if_eq H268 i268_172 (t := 179) (by decide) h (fun hc h => ?_) (fun hc h => ?_)
  · refine Ev.aload_n H268 i268_179 rfl ?_
    refine Ev.iload_n H268 i268_180 rfl ?_
    refine Rd.cV1vN H268 i268_181 cal251 ob11 (Nat.le_of_ble_eq_true rfl) (Nat.le_of_ble_eq_true rfl) (Nat.lt_of_lt_of_le (by decide) hd) (fun q hq => c251 hq) h (fun x39 s38 h => ?_)
    exact Ev.sub (l := [(0, .ref 512), (1, .int v1), (4, .int v4)]) rfl rfl (mm_sub_c rfl (mm_sub_c rfl (mm_sub_c rfl mm_sub_n))) (t268_184 hd h)
  · refine Ev.iconst H268 i268_175 kI_0 ?_
    refine Ev.goto H268 i268_176 (t := 184) (by decide) ?_
    exact Ev.sub (l := [(0, .ref 512), (1, .int v1), (4, .int v4)]) rfl rfl (mm_sub_c rfl (mm_sub_c rfl (mm_sub_c rfl mm_sub_n))) (t268_184 hd h)
/-- SerialGateModel.commits(I)I -/
def q268 (v1 : Int32) (s : mS) : Option mQ := bN (q204 v1 (1 : Int32) s) fun x41 s40 => bN (q248 v1 s40) fun x43 s42 => gA 2468 (3 : Int32) <| gA 2468 (3 : Int32) <| sp (sI s42 513 (3 : Int32).toNatClampNeg ((s42.1 513 (3 : Int32).toNatClampNeg) + (1 : Int32))) fun s44 => gA 2468 (3 : Int32) <| bx (s44.1 513 (3 : Int32).toNatClampNeg) fun x45 => bN (q203 v1 (3 : Int32) s44) fun x47 s46 => gA 2468 x47 <| sp (sI s46 513 x47.toNatClampNeg x45) fun s48 => bN (q203 v1 (0 : Int32) s48) fun x50 s49 => gA 2468 x50 <| sp (sI s49 513 x50.toNatClampNeg (2 : Int32)) fun s51 => q268_57 (q268_111) 10000 v1 x41 x43 x45 (0 : Int32) s51
theorem c268 {L : Nat} {xs : Nat → Int32} {v1 : Int32} {s : mS} {r : mQ} (h : q268 v1 s = some r) : ∀ d, 10 ≤ d → Cl L xs d 268 [.ref 512, .int v1] (hp s) (hr r) := by
  intro d hd
  show Ev L xs d 268 0 [(0, .ref 512), (1, .int v1)] [] (hp s) (hr r)
  unfold q268 at h
  refine Ev.aload_n H268 i268_0 rfl ?_
  refine Ev.iload_n H268 i268_1 rfl ?_
  refine Ev.iconst H268 i268_2 kI_1 ?_
  refine Rd.cV2vN H268 i268_3 cal204 ob11 (Nat.le_of_ble_eq_true rfl) (Nat.le_of_ble_eq_true rfl) (Nat.lt_of_lt_of_le (by decide) hd) (fun q hq => c204 hq) h (fun x41 s40 h => ?_)
  refine Ev.istore_n H268 i268_6 (Nat.le_of_ble_eq_true rfl) (lv2 := [(2, .int x41), (0, .ref 512), (1, .int v1)]) rfl ?_
  refine Ev.aload_n H268 i268_7 rfl ?_
  refine Ev.iload_n H268 i268_8 rfl ?_
  refine Rd.cV1vN H268 i268_9 cal248 ob11 (Nat.le_of_ble_eq_true rfl) (Nat.le_of_ble_eq_true rfl) (Nat.lt_of_lt_of_le (by decide) hd) (fun q hq => c248 hq) h (fun x43 s42 h => ?_)
  refine Ev.istore_n H268 i268_12 (Nat.le_of_ble_eq_true rfl) (lv2 := [(3, .int x43), (2, .int x41), (0, .ref 512), (1, .int v1)]) rfl ?_
  refine Ev.aload_n H268 i268_13 rfl ?_
  refine Rd.getR H268 i268_14 ob11 rfl ?_
  refine Ev.iconst H268 i268_17 kI_3 ?_
  refine Ev.dup2 H268 i268_18 ⟨rfl, rfl⟩ ?_
  refine Rd.iaload H268 i268_19 ar_513 h (fun h => ?_)
  refine Ev.iconst H268 i268_20 kI_1 ?_
  refine Ev.iadd H268 i268_21 ?_
  refine Rd.iastore H268 i268_22 ar_513 h (fun s44 h => ?_)
  refine Ev.aload_n H268 i268_23 rfl ?_
  refine Rd.getR H268 i268_24 ob11 rfl ?_
  refine Ev.iconst H268 i268_27 kI_3 ?_
  refine Rd.iaload H268 i268_28 ar_513 h (fun h => ?_)
  refine Rd.istore H268 i268_29 (Nat.le_of_ble_eq_true rfl) (lv2 := fun x45 => [(4, .int x45), (3, .int x43), (2, .int x41), (0, .ref 512), (1, .int v1)]) (fun _ => rfl) h (fun x45 h => ?_)
  refine Ev.aload_n H268 i268_31 rfl ?_
  refine Rd.getR H268 i268_32 ob11 rfl ?_
  refine Ev.iload_n H268 i268_35 rfl ?_
  refine Ev.iconst H268 i268_36 kI_3 ?_
  refine Rd.cS2vN H268 i268_37 cal203 (Nat.le_of_ble_eq_true rfl) (Nat.le_of_ble_eq_true rfl) (Nat.lt_of_lt_of_le (by decide) hd) (fun q hq => c203 hq) h (fun x47 s46 h => ?_)
  refine Ev.iload H268 i268_40 rfl ?_
  refine Rd.iastore H268 i268_42 ar_513 h (fun s48 h => ?_)
  refine Ev.aload_n H268 i268_43 rfl ?_
  refine Rd.getR H268 i268_44 ob11 rfl ?_
  refine Ev.iload_n H268 i268_47 rfl ?_
  refine Ev.iconst H268 i268_48 kI_0 ?_
  refine Rd.cS2vN H268 i268_49 cal203 (Nat.le_of_ble_eq_true rfl) (Nat.le_of_ble_eq_true rfl) (Nat.lt_of_lt_of_le (by decide) hd) (fun q hq => c203 hq) h (fun x50 s49 h => ?_)
  refine Ev.iconst H268 i268_52 kI_2 ?_
  refine Rd.iastore H268 i268_53 ar_513 h (fun s51 h => ?_)
  refine Ev.iconst H268 i268_54 kI_0 ?_
  refine Ev.istore H268 i268_55 (Nat.le_of_ble_eq_true rfl) (lv2 := [(5, .int (0 : Int32)), (4, .int x45), (3, .int x43), (2, .int x41), (0, .ref 512), (1, .int v1)]) rfl ?_
  exact Ev.sub (l := [(0, .ref 512), (1, .int v1), (2, .int x41), (3, .int x43), (4, .int x45), (5, .int (0 : Int32))]) rfl rfl (mm_sub_c rfl (mm_sub_c rfl (mm_sub_c rfl (mm_sub_c rfl (mm_sub_c rfl (mm_sub_c rfl mm_sub_n)))))) (t268_57 (k111 := (q268_111)) (fun _ _ _ _ _ _ h => t268_111 hd h) hd 10000 _ _ _ _ _ _ _ h)
theorem i270_0 : mm_cd 270 0 = some (.aload_n 0, 1, 0, 0) := rfl
theorem i270_1 : mm_cd 270 1 = some (.iload_n 1, 1, 0, 0) := rfl
theorem i270_2 : mm_cd 270 2 = some (.invokevirtual 346, 3, 0, 209) := rfl
theorem i270_5 : mm_cd 270 5 = some (.istore_n 2, 1, 0, 0) := rfl
theorem i270_6 : mm_cd 270 6 = some (.iload_n 2, 1, 0, 0) := rfl
theorem i270_7 : mm_cd 270 7 = some (.iconst (-1), 1, 0, 0) := rfl
theorem i270_8 : mm_cd 270 8 = some (.if_icmp .ne 5, 3, 0, 0) := rfl
theorem i270_11 : mm_cd 270 11 = some (.iconst 0, 1, 0, 0) := rfl
theorem i270_12 : mm_cd 270 12 = some (.ireturn, 1, 0, 0) := rfl
theorem i270_13 : mm_cd 270 13 = some (.aload_n 0, 1, 0, 0) := rfl
theorem i270_14 : mm_cd 270 14 = some (.iload_n 1, 1, 0, 0) := rfl
theorem i270_15 : mm_cd 270 15 = some (.iconst 0, 1, 0, 0) := rfl
theorem i270_16 : mm_cd 270 16 = some (.invokevirtual 72, 3, 0, 202) := rfl
theorem i270_19 : mm_cd 270 19 = some (.aload_n 0, 1, 0, 0) := rfl
theorem i270_20 : mm_cd 270 20 = some (.iload_n 2, 1, 0, 0) := rfl
theorem i270_21 : mm_cd 270 21 = some (.iconst 4, 1, 0, 0) := rfl
theorem i270_22 : mm_cd 270 22 = some (.invokevirtual 69, 3, 0, 204) := rfl
theorem i270_25 : mm_cd 270 25 = some (.iconst (-1), 1, 0, 0) := rfl
theorem i270_26 : mm_cd 270 26 = some (.ixor, 1, 0, 0) := rfl
theorem i270_27 : mm_cd 270 27 = some (.iand, 1, 0, 0) := rfl
theorem i270_28 : mm_cd 270 28 = some (.istore_n 3, 1, 0, 0) := rfl
theorem i270_29 : mm_cd 270 29 = some (.aload_n 0, 1, 0, 0) := rfl
theorem i270_30 : mm_cd 270 30 = some (.iload_n 1, 1, 0, 0) := rfl
theorem i270_31 : mm_cd 270 31 = some (.iconst 1, 1, 0, 0) := rfl
theorem i270_32 : mm_cd 270 32 = some (.invokevirtual 72, 3, 0, 202) := rfl
theorem i270_35 : mm_cd 270 35 = some (.aload_n 0, 1, 0, 0) := rfl
theorem i270_36 : mm_cd 270 36 = some (.iload_n 2, 1, 0, 0) := rfl
theorem i270_37 : mm_cd 270 37 = some (.bipush 6, 2, 0, 0) := rfl
theorem i270_39 : mm_cd 270 39 = some (.invokevirtual 69, 3, 0, 204) := rfl
theorem i270_42 : mm_cd 270 42 = some (.iconst (-1), 1, 0, 0) := rfl
theorem i270_43 : mm_cd 270 43 = some (.ixor, 1, 0, 0) := rfl
theorem i270_44 : mm_cd 270 44 = some (.iand, 1, 0, 0) := rfl
theorem i270_45 : mm_cd 270 45 = some (.istore 4, 2, 0, 0) := rfl
theorem i270_47 : mm_cd 270 47 = some (.iload_n 3, 1, 0, 0) := rfl
theorem i270_48 : mm_cd 270 48 = some (.ifCond .eq 13, 3, 0, 0) := rfl
theorem i270_51 : mm_cd 270 51 = some (.bipush 100, 2, 0, 0) := rfl
theorem i270_53 : mm_cd 270 53 = some (.iload_n 3, 1, 0, 0) := rfl
theorem i270_54 : mm_cd 270 54 = some (.invokestatic 322, 3, 0, 269) := rfl
theorem i270_57 : mm_cd 270 57 = some (.iadd, 1, 0, 0) := rfl
theorem i270_58 : mm_cd 270 58 = some (.goto 23, 3, 0, 0) := rfl
theorem i270_61 : mm_cd 270 61 = some (.iload 4, 2, 0, 0) := rfl
theorem i270_63 : mm_cd 270 63 = some (.ifCond .eq 15, 3, 0, 0) := rfl
theorem i270_66 : mm_cd 270 66 = some (.sipush 200, 3, 0, 0) := rfl
theorem i270_69 : mm_cd 270 69 = some (.iload 4, 2, 0, 0) := rfl
theorem i270_71 : mm_cd 270 71 = some (.invokestatic 322, 3, 0, 269) := rfl
theorem i270_74 : mm_cd 270 74 = some (.iadd, 1, 0, 0) := rfl
theorem i270_75 : mm_cd 270 75 = some (.goto 6, 3, 0, 0) := rfl
theorem i270_78 : mm_cd 270 78 = some (.sipush 300, 3, 0, 0) := rfl
theorem i270_81 : mm_cd 270 81 = some (.ireturn, 1, 0, 0) := rfl
/-- SerialGateModel.stepOf(I)I -/
def q270 (v1 : Int32) (s : mS) : Option mQ := bN (q209 v1 s) fun x2 s1 => if ¬ x2 = (-1 : Int32) then (bN (q202 v1 (0 : Int32) s1) fun x4 s3 => bN (q204 x2 (4 : Int32) s3) fun x6 s5 => bx (x4 &&& (x6 ^^^ (-1 : Int32))) fun x7 => bN (q202 v1 (1 : Int32) s5) fun x9 s8 => bN (q204 x2 (6 : Int32) s8) fun x11 s10 => bx (x9 &&& (x11 ^^^ (-1 : Int32))) fun x12 => if x7 = 0 then (if x12 = 0 then (rv (300 : Int32) s10) else (bN (q269 x12 s10) fun x14 s13 => rv ((200 : Int32) + x14) s13)) else (bN (q269 x7 s10) fun x16 s15 => rv ((100 : Int32) + x16) s15)) else (rv (0 : Int32) s1)
theorem c270 {L : Nat} {xs : Nat → Int32} {v1 : Int32} {s : mS} {r : mQ} (h : q270 v1 s = some r) : ∀ d, 4 ≤ d → Cl L xs d 270 [.ref 512, .int v1] (hp s) (hr r) := by
  intro d hd
  show Ev L xs d 270 0 [(0, .ref 512), (1, .int v1)] [] (hp s) (hr r)
  unfold q270 at h
  refine Ev.aload_n H270 i270_0 rfl ?_
  refine Ev.iload_n H270 i270_1 rfl ?_
  refine Rd.cV1vN H270 i270_2 cal209 ob11 (Nat.le_of_ble_eq_true rfl) (Nat.le_of_ble_eq_true rfl) (Nat.lt_of_lt_of_le (by decide) hd) (fun q hq => c209 hq) h (fun x2 s1 h => ?_)
  refine Ev.istore_n H270 i270_5 (Nat.le_of_ble_eq_true rfl) (lv2 := [(2, .int x2), (0, .ref 512), (1, .int v1)]) rfl ?_
  refine Ev.iload_n H270 i270_6 rfl ?_
  refine Ev.iconst H270 i270_7 kI_m1 ?_
  refine Rd.ic_ne H270 i270_8 (t := 13) (by decide) h (fun hc h => ?_) (fun hc h => ?_)
  · refine Ev.aload_n H270 i270_13 rfl ?_
    refine Ev.iload_n H270 i270_14 rfl ?_
    refine Ev.iconst H270 i270_15 kI_0 ?_
    refine Rd.cV2vN H270 i270_16 cal202 ob11 (Nat.le_of_ble_eq_true rfl) (Nat.le_of_ble_eq_true rfl) (Nat.lt_of_lt_of_le (by decide) hd) (fun q hq => c202 hq) h (fun x4 s3 h => ?_)
    refine Ev.aload_n H270 i270_19 rfl ?_
    refine Ev.iload_n H270 i270_20 rfl ?_
    refine Ev.iconst H270 i270_21 kI_4 ?_
    refine Rd.cV2vN H270 i270_22 cal204 ob11 (Nat.le_of_ble_eq_true rfl) (Nat.le_of_ble_eq_true rfl) (Nat.lt_of_lt_of_le (by decide) hd) (fun q hq => c204 hq) h (fun x6 s5 h => ?_)
    refine Ev.iconst H270 i270_25 kI_m1 ?_
    refine Ev.ixor H270 i270_26 ?_
    refine Ev.iand H270 i270_27 ?_
    refine Rd.istore_n H270 i270_28 (Nat.le_of_ble_eq_true rfl) (lv2 := fun x7 => [(3, .int x7), (2, .int x2), (0, .ref 512), (1, .int v1)]) (fun _ => rfl) h (fun x7 h => ?_)
    refine Ev.aload_n H270 i270_29 rfl ?_
    refine Ev.iload_n H270 i270_30 rfl ?_
    refine Ev.iconst H270 i270_31 kI_1 ?_
    refine Rd.cV2vN H270 i270_32 cal202 ob11 (Nat.le_of_ble_eq_true rfl) (Nat.le_of_ble_eq_true rfl) (Nat.lt_of_lt_of_le (by decide) hd) (fun q hq => c202 hq) h (fun x9 s8 h => ?_)
    refine Ev.aload_n H270 i270_35 rfl ?_
    refine Ev.iload_n H270 i270_36 rfl ?_
    refine Ev.bipush H270 i270_37 kB_6 ?_
    refine Rd.cV2vN H270 i270_39 cal204 ob11 (Nat.le_of_ble_eq_true rfl) (Nat.le_of_ble_eq_true rfl) (Nat.lt_of_lt_of_le (by decide) hd) (fun q hq => c204 hq) h (fun x11 s10 h => ?_)
    refine Ev.iconst H270 i270_42 kI_m1 ?_
    refine Ev.ixor H270 i270_43 ?_
    refine Ev.iand H270 i270_44 ?_
    refine Rd.istore H270 i270_45 (Nat.le_of_ble_eq_true rfl) (lv2 := fun x12 => [(4, .int x12), (3, .int x7), (2, .int x2), (0, .ref 512), (1, .int v1)]) (fun _ => rfl) h (fun x12 h => ?_)
    refine Ev.iload_n H270 i270_47 rfl ?_
    refine Rd.if_eq H270 i270_48 (t := 61) (by decide) h (fun hc h => ?_) (fun hc h => ?_)
    · refine Ev.iload H270 i270_61 rfl ?_
      refine Rd.if_eq H270 i270_63 (t := 78) (by decide) h (fun hc h => ?_) (fun hc h => ?_)
      · refine Ev.sipush H270 i270_78 kS_300 ?_
        exact Rd.ireturn H270 i270_81 rfl h
      · refine Ev.sipush H270 i270_66 kS_200 ?_
        refine Ev.iload H270 i270_69 rfl ?_
        refine Rd.cS1vN H270 i270_71 cal269 (Nat.le_of_ble_eq_true rfl) (Nat.le_of_ble_eq_true rfl) (Nat.lt_of_lt_of_le (by decide) hd) (fun q hq => c269 hq) h (fun x14 s13 h => ?_)
        refine Ev.iadd H270 i270_74 ?_
        refine Ev.goto H270 i270_75 (t := 81) (by decide) ?_
        exact Rd.ireturn H270 i270_81 rfl h
    · refine Ev.bipush H270 i270_51 kB_100 ?_
      refine Ev.iload_n H270 i270_53 rfl ?_
      refine Rd.cS1vN H270 i270_54 cal269 (Nat.le_of_ble_eq_true rfl) (Nat.le_of_ble_eq_true rfl) (Nat.lt_of_lt_of_le (by decide) hd) (fun q hq => c269 hq) h (fun x16 s15 h => ?_)
      refine Ev.iadd H270 i270_57 ?_
      refine Ev.goto H270 i270_58 (t := 81) (by decide) ?_
      exact Rd.ireturn H270 i270_81 rfl h
  · refine Ev.iconst H270 i270_11 kI_0 ?_
    exact Rd.ireturn H270 i270_12 rfl h
