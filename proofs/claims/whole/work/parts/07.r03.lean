theorem i77_0 : mm_cd 77 0 = some (.iconst 0, 1, 0, 0) := rfl
theorem i77_1 : mm_cd 77 1 = some (.istore_n 1, 1, 0, 0) := rfl
theorem i77_2 : mm_cd 77 2 = some (.iconst 0, 1, 0, 0) := rfl
theorem i77_3 : mm_cd 77 3 = some (.istore_n 2, 1, 0, 0) := rfl
theorem i77_4 : mm_cd 77 4 = some (.iload_n 2, 1, 0, 0) := rfl
theorem i77_5 : mm_cd 77 5 = some (.bipush 8, 2, 0, 0) := rfl
theorem i77_7 : mm_cd 77 7 = some (.if_icmp .ge 21, 3, 0, 0) := rfl
theorem i77_10 : mm_cd 77 10 = some (.iload_n 1, 1, 0, 0) := rfl
theorem i77_11 : mm_cd 77 11 = some (.aload_n 0, 1, 0, 0) := rfl
theorem i77_12 : mm_cd 77 12 = some (.getfield 49, 3, ((6 : Nat) : Int), 12) := rfl
theorem i77_15 : mm_cd 77 15 = some (.iload_n 2, 1, 0, 0) := rfl
theorem i77_16 : mm_cd 77 16 = some (.iaload, 1, 0, 0) := rfl
theorem i77_17 : mm_cd 77 17 = some (.invokestatic 73, 3, 0, 343) := rfl
theorem i77_20 : mm_cd 77 20 = some (.iadd, 1, 0, 0) := rfl
theorem i77_21 : mm_cd 77 21 = some (.istore_n 1, 1, 0, 0) := rfl
theorem i77_22 : mm_cd 77 22 = some (.iinc 2 1, 3, 0, 0) := rfl
theorem i77_25 : mm_cd 77 25 = some (.goto (-21), 3, 0, 0) := rfl
theorem i77_28 : mm_cd 77 28 = some (.iload_n 1, 1, 0, 0) := rfl
theorem i77_29 : mm_cd 77 29 = some (.ireturn, 1, 0, 0) := rfl
def q77_4 (a : Nat) : Nat → Int32 → Int32 → mS → Option mQ
  | 0, _, _, _ => none
  | n + 1, v1, v2, s => if (8 : Int32) ≤ v2 then (rv v1 s) else (gA 8 v2 <| bN (q343 (s.1 (a + 9) v2.toNatClampNeg) s) fun x2 s1 => bx (v1 + x2) fun x3 => bx (v2 + (1 : Int32)) fun x4 => q77_4 a n x3 x4 s1)
theorem t77_4 {L : Nat} {xs : Nat → Int32} {d : Nat} {a : Nat} (ma : a ∈ A6) (hd : 1 ≤ d) : ∀ (n : Nat) (v1 : Int32) (v2 : Int32) (s : mS) (r : mQ), q77_4 a n v1 v2 s = some r → Ev L xs d 77 4 [(0, .ref a), (1, .int v1), (2, .int v2)] [] (hp s) (hr r) := by
  intro n
  induction n with
  | zero => intro v1 v2 s r h; rw [q77_4] at h; cases h
  | succ n ih =>
    intro v1 v2 s r h
    rw [q77_4] at h
    refine Ev.iload_n H77 i77_4 rfl ?_
    refine Ev.bipush H77 i77_5 kB_8 ?_
    refine Rd.ic_ge H77 i77_7 (t := 28) (by decide) h (fun hc h => ?_) (fun hc h => ?_)
    · refine Ev.iload_n H77 i77_28 rfl ?_
      exact Rd.ireturn H77 i77_29 rfl h
    · refine Ev.iload_n H77 i77_10 rfl ?_
      refine Ev.aload_n H77 i77_11 rfl ?_
      refine Rd.getR H77 i77_12 (ob6 ma) rfl ?_
      refine Ev.iload_n H77 i77_15 rfl ?_
      refine Rd.iaload H77 i77_16 (ar6_9 ma) h (fun h => ?_)
      refine Rd.cS1vN H77 i77_17 cal343 (Nat.le_of_ble_eq_true rfl) (Nat.le_of_ble_eq_true rfl) (Nat.lt_of_lt_of_le (by decide) hd) (fun q hq => c343 hq) h (fun x2 s1 h => ?_)
      refine Ev.iadd H77 i77_20 ?_
      refine Rd.istore_n H77 i77_21 (Nat.le_of_ble_eq_true rfl) (lv2 := fun x3 => [(1, .int x3), (0, .ref a), (2, .int v2)]) (fun _ => rfl) h (fun x3 h => ?_)
      refine Rd.iinc H77 i77_22 (Nat.le_of_ble_eq_true rfl) rfl kI_1 (lv2 := fun x4 => [(2, .int x4), (1, .int x3), (0, .ref a)]) (fun _ => rfl) h (fun x4 h => ?_)
      refine Ev.goto H77 i77_25 (t := 4) (by decide) ?_
      exact Ev.sub (l := [(0, .ref a), (1, .int x3), (2, .int x4)]) rfl rfl (mm_sub_c rfl (mm_sub_c rfl (mm_sub_c rfl mm_sub_n))) (ih _ _ _ _ h)
/-- SerialGate$Slots.edgeCount()I -/
def q77 (a : Nat) (s : mS) : Option mQ := q77_4 a 10000 (0 : Int32) (0 : Int32) s
theorem c77 {L : Nat} {xs : Nat → Int32} {a : Nat} (ma : a ∈ A6) {s : mS} {r : mQ} (h : q77 a s = some r) : ∀ d, 1 ≤ d → Cl L xs d 77 [.ref a] (hp s) (hr r) := by
  intro d hd
  show Ev L xs d 77 0 [(0, .ref a)] [] (hp s) (hr r)
  unfold q77 at h
  refine Ev.iconst H77 i77_0 kI_0 ?_
  refine Ev.istore_n H77 i77_1 (Nat.le_of_ble_eq_true rfl) (lv2 := [(1, .int (0 : Int32)), (0, .ref a)]) rfl ?_
  refine Ev.iconst H77 i77_2 kI_0 ?_
  refine Ev.istore_n H77 i77_3 (Nat.le_of_ble_eq_true rfl) (lv2 := [(2, .int (0 : Int32)), (1, .int (0 : Int32)), (0, .ref a)]) rfl ?_
  exact Ev.sub (l := [(0, .ref a), (1, .int (0 : Int32)), (2, .int (0 : Int32))]) rfl rfl (mm_sub_c rfl (mm_sub_c rfl (mm_sub_c rfl mm_sub_n))) (t77_4 ma hd 10000 _ _ _ _ h)
theorem i78_0 : mm_cd 78 0 = some (.aload_n 0, 1, 0, 0) := rfl
theorem i78_1 : mm_cd 78 1 = some (.dup, 1, 0, 0) := rfl
theorem i78_2 : mm_cd 78 2 = some (.getfield 9, 3, ((6 : Nat) : Int), 0) := rfl
theorem i78_5 : mm_cd 78 5 = some (.iconst 1, 1, 0, 0) := rfl
theorem i78_6 : mm_cd 78 6 = some (.iload_n 1, 1, 0, 0) := rfl
theorem i78_7 : mm_cd 78 7 = some (.ishl, 1, 0, 0) := rfl
theorem i78_8 : mm_cd 78 8 = some (.ior, 1, 0, 0) := rfl
theorem i78_9 : mm_cd 78 9 = some (.putfield 9, 3, ((6 : Nat) : Int), 0) := rfl
theorem i78_12 : mm_cd 78 12 = some (.iload_n 3, 1, 0, 0) := rfl
theorem i78_13 : mm_cd 78 13 = some (.ifCond .eq 15, 3, 0, 0) := rfl
theorem i78_16 : mm_cd 78 16 = some (.aload_n 0, 1, 0, 0) := rfl
theorem i78_17 : mm_cd 78 17 = some (.dup, 1, 0, 0) := rfl
theorem i78_18 : mm_cd 78 18 = some (.getfield 18, 3, ((6 : Nat) : Int), 2) := rfl
theorem i78_21 : mm_cd 78 21 = some (.iconst 1, 1, 0, 0) := rfl
theorem i78_22 : mm_cd 78 22 = some (.iload_n 1, 1, 0, 0) := rfl
theorem i78_23 : mm_cd 78 23 = some (.ishl, 1, 0, 0) := rfl
theorem i78_24 : mm_cd 78 24 = some (.ior, 1, 0, 0) := rfl
theorem i78_25 : mm_cd 78 25 = some (.putfield 18, 3, ((6 : Nat) : Int), 2) := rfl
theorem i78_28 : mm_cd 78 28 = some (.aload_n 0, 1, 0, 0) := rfl
theorem i78_29 : mm_cd 78 29 = some (.getfield 24, 3, ((6 : Nat) : Int), 4) := rfl
theorem i78_32 : mm_cd 78 32 = some (.iload_n 1, 1, 0, 0) := rfl
theorem i78_33 : mm_cd 78 33 = some (.iload_n 2, 1, 0, 0) := rfl
theorem i78_34 : mm_cd 78 34 = some (.iastore, 1, 0, 0) := rfl
theorem i78_35 : mm_cd 78 35 = some (.aload_n 0, 1, 0, 0) := rfl
theorem i78_36 : mm_cd 78 36 = some (.getfield 28, 3, ((6 : Nat) : Int), 5) := rfl
theorem i78_39 : mm_cd 78 39 = some (.iload_n 1, 1, 0, 0) := rfl
theorem i78_40 : mm_cd 78 40 = some (.iload 4, 2, 0, 0) := rfl
theorem i78_42 : mm_cd 78 42 = some (.iastore, 1, 0, 0) := rfl
theorem i78_43 : mm_cd 78 43 = some (.aload_n 0, 1, 0, 0) := rfl
theorem i78_44 : mm_cd 78 44 = some (.getfield 31, 3, ((6 : Nat) : Int), 6) := rfl
theorem i78_47 : mm_cd 78 47 = some (.iload_n 1, 1, 0, 0) := rfl
theorem i78_48 : mm_cd 78 48 = some (.iconst 0, 1, 0, 0) := rfl
theorem i78_49 : mm_cd 78 49 = some (.iastore, 1, 0, 0) := rfl
theorem i78_50 : mm_cd 78 50 = some (.aload_n 0, 1, 0, 0) := rfl
theorem i78_51 : mm_cd 78 51 = some (.getfield 34, 3, ((6 : Nat) : Int), 7) := rfl
theorem i78_54 : mm_cd 78 54 = some (.iload_n 1, 1, 0, 0) := rfl
theorem i78_55 : mm_cd 78 55 = some (.iconst 0, 1, 0, 0) := rfl
theorem i78_56 : mm_cd 78 56 = some (.iastore, 1, 0, 0) := rfl
theorem i78_57 : mm_cd 78 57 = some (.aload_n 0, 1, 0, 0) := rfl
theorem i78_58 : mm_cd 78 58 = some (.getfield 37, 3, ((6 : Nat) : Int), 8) := rfl
theorem i78_61 : mm_cd 78 61 = some (.iload_n 1, 1, 0, 0) := rfl
theorem i78_62 : mm_cd 78 62 = some (.iconst 0, 1, 0, 0) := rfl
theorem i78_63 : mm_cd 78 63 = some (.iastore, 1, 0, 0) := rfl
theorem i78_64 : mm_cd 78 64 = some (.aload_n 0, 1, 0, 0) := rfl
theorem i78_65 : mm_cd 78 65 = some (.getfield 40, 3, ((6 : Nat) : Int), 9) := rfl
theorem i78_68 : mm_cd 78 68 = some (.iload_n 1, 1, 0, 0) := rfl
theorem i78_69 : mm_cd 78 69 = some (.iconst 0, 1, 0, 0) := rfl
theorem i78_70 : mm_cd 78 70 = some (.iastore, 1, 0, 0) := rfl
theorem i78_71 : mm_cd 78 71 = some (.aload_n 0, 1, 0, 0) := rfl
theorem i78_72 : mm_cd 78 72 = some (.getfield 43, 3, ((6 : Nat) : Int), 10) := rfl
theorem i78_75 : mm_cd 78 75 = some (.iload_n 1, 1, 0, 0) := rfl
theorem i78_76 : mm_cd 78 76 = some (.iconst 0, 1, 0, 0) := rfl
theorem i78_77 : mm_cd 78 77 = some (.iastore, 1, 0, 0) := rfl
theorem i78_78 : mm_cd 78 78 = some (.aload_n 0, 1, 0, 0) := rfl
theorem i78_79 : mm_cd 78 79 = some (.getfield 46, 3, ((6 : Nat) : Int), 11) := rfl
theorem i78_82 : mm_cd 78 82 = some (.iload_n 1, 1, 0, 0) := rfl
theorem i78_83 : mm_cd 78 83 = some (.iconst 0, 1, 0, 0) := rfl
theorem i78_84 : mm_cd 78 84 = some (.iastore, 1, 0, 0) := rfl
theorem i78_85 : mm_cd 78 85 = some (.return_, 1, 0, 0) := rfl
def q78_28 (a : Nat) (v1 : Int32) (v2 : Int32) (v4 : Int32) (s : mS) : Option mQ := gA 8 v1 <| sp (sI s (a + 1) v1.toNatClampNeg v2) fun s1 => gA 8 v1 <| sp (sI s1 (a + 2) v1.toNatClampNeg v4) fun s2 => gA 8 v1 <| sp (sI s2 (a + 3) v1.toNatClampNeg (0 : Int32)) fun s3 => gA 8 v1 <| sp (sI s3 (a + 4) v1.toNatClampNeg (0 : Int32)) fun s4 => gA 8 v1 <| sp (sI s4 (a + 5) v1.toNatClampNeg (0 : Int32)) fun s5 => gA 8 v1 <| sp (sI s5 (a + 6) v1.toNatClampNeg (0 : Int32)) fun s6 => gA 8 v1 <| sp (sI s6 (a + 7) v1.toNatClampNeg (0 : Int32)) fun s7 => gA 8 v1 <| sp (sI s7 (a + 8) v1.toNatClampNeg (0 : Int32)) fun s8 => ru s8
theorem t78_28 {L : Nat} {xs : Nat → Int32} {d : Nat} {a : Nat} (ma : a ∈ A6) (hd : 0 ≤ d) {v1 : Int32} {v2 : Int32} {v4 : Int32} {s : mS} {r : mQ} (h : q78_28 a v1 v2 v4 s = some r) : Ev L xs d 78 28 [(0, .ref a), (1, .int v1), (2, .int v2), (4, .int v4)] [] (hp s) (hr r) := by
  unfold q78_28 at h
  refine Ev.aload_n H78 i78_28 rfl ?_
  refine Rd.getR H78 i78_29 (ob6 ma) rfl ?_
  refine Ev.iload_n H78 i78_32 rfl ?_
  refine Ev.iload_n H78 i78_33 rfl ?_
  refine Rd.iastore H78 i78_34 (ar6_1 ma) h (fun s1 h => ?_)
  refine Ev.aload_n H78 i78_35 rfl ?_
  refine Rd.getR H78 i78_36 (ob6 ma) rfl ?_
  refine Ev.iload_n H78 i78_39 rfl ?_
  refine Ev.iload H78 i78_40 rfl ?_
  refine Rd.iastore H78 i78_42 (ar6_2 ma) h (fun s2 h => ?_)
  refine Ev.aload_n H78 i78_43 rfl ?_
  refine Rd.getR H78 i78_44 (ob6 ma) rfl ?_
  refine Ev.iload_n H78 i78_47 rfl ?_
  refine Ev.iconst H78 i78_48 kI_0 ?_
  refine Rd.iastore H78 i78_49 (ar6_3 ma) h (fun s3 h => ?_)
  refine Ev.aload_n H78 i78_50 rfl ?_
  refine Rd.getR H78 i78_51 (ob6 ma) rfl ?_
  refine Ev.iload_n H78 i78_54 rfl ?_
  refine Ev.iconst H78 i78_55 kI_0 ?_
  refine Rd.iastore H78 i78_56 (ar6_4 ma) h (fun s4 h => ?_)
  refine Ev.aload_n H78 i78_57 rfl ?_
  refine Rd.getR H78 i78_58 (ob6 ma) rfl ?_
  refine Ev.iload_n H78 i78_61 rfl ?_
  refine Ev.iconst H78 i78_62 kI_0 ?_
  refine Rd.iastore H78 i78_63 (ar6_5 ma) h (fun s5 h => ?_)
  refine Ev.aload_n H78 i78_64 rfl ?_
  refine Rd.getR H78 i78_65 (ob6 ma) rfl ?_
  refine Ev.iload_n H78 i78_68 rfl ?_
  refine Ev.iconst H78 i78_69 kI_0 ?_
  refine Rd.iastore H78 i78_70 (ar6_6 ma) h (fun s6 h => ?_)
  refine Ev.aload_n H78 i78_71 rfl ?_
  refine Rd.getR H78 i78_72 (ob6 ma) rfl ?_
  refine Ev.iload_n H78 i78_75 rfl ?_
  refine Ev.iconst H78 i78_76 kI_0 ?_
  refine Rd.iastore H78 i78_77 (ar6_7 ma) h (fun s7 h => ?_)
  refine Ev.aload_n H78 i78_78 rfl ?_
  refine Rd.getR H78 i78_79 (ob6 ma) rfl ?_
  refine Ev.iload_n H78 i78_82 rfl ?_
  refine Ev.iconst H78 i78_83 kI_0 ?_
  refine Rd.iastore H78 i78_84 (ar6_8 ma) h (fun s8 h => ?_)
  exact Rd.return_ H78 i78_85 rfl h
/-- SerialGate$Slots.open(IIZI)V -/
def q78 (a : Nat) (v1 : Int32) (v2 : Int32) (v3 : Int32) (v4 : Int32) (s : mS) : Option mQ := sp (sI s a 0 ((s.1 a 0) ||| (shlI (1 : Int32) v1))) fun s9 => if v3 = 0 then (q78_28 a v1 v2 v4 s9) else (sp (sI s9 a 2 ((s9.1 a 2) ||| (shlI (1 : Int32) v1))) fun s10 => q78_28 a v1 v2 v4 s10)
theorem c78 {L : Nat} {xs : Nat → Int32} {a : Nat} (ma : a ∈ A6) {v1 : Int32} {v2 : Int32} {v3 : Int32} {v4 : Int32} {s : mS} {r : mQ} (h : q78 a v1 v2 v3 v4 s = some r) : ∀ d, 0 ≤ d → Cl L xs d 78 [.ref a, .int v1, .int v2, .int v3, .int v4] (hp s) (hr r) := by
  intro d hd
  show Ev L xs d 78 0 [(0, .ref a), (1, .int v1), (2, .int v2), (3, .int v3), (4, .int v4)] [] (hp s) (hr r)
  unfold q78 at h
  refine Ev.aload_n H78 i78_0 rfl ?_
  refine Ev.dup H78 i78_1 rfl ?_
  refine Rd.getI H78 i78_2 (ob6 ma) rfl ?_
  refine Ev.iconst H78 i78_5 kI_1 ?_
  refine Ev.iload_n H78 i78_6 rfl ?_
  refine Rd.ishl H78 i78_7 ?_
  refine Ev.ior H78 i78_8 ?_
  refine Rd.putI H78 i78_9 (ob6 ma) rfl ty6_0.1 ty6_0.2 h (fun s9 h => ?_)
  refine Ev.iload_n H78 i78_12 rfl ?_
  refine Rd.if_eq H78 i78_13 (t := 28) (by decide) h (fun hc h => ?_) (fun hc h => ?_)
  · exact Ev.sub (l := [(0, .ref a), (1, .int v1), (2, .int v2), (4, .int v4)]) rfl rfl (mm_sub_c rfl (mm_sub_c rfl (mm_sub_c rfl (mm_sub_c rfl mm_sub_n)))) (t78_28 ma hd h)
  · refine Ev.aload_n H78 i78_16 rfl ?_
    refine Ev.dup H78 i78_17 rfl ?_
    refine Rd.getI H78 i78_18 (ob6 ma) rfl ?_
    refine Ev.iconst H78 i78_21 kI_1 ?_
    refine Ev.iload_n H78 i78_22 rfl ?_
    refine Rd.ishl H78 i78_23 ?_
    refine Ev.ior H78 i78_24 ?_
    refine Rd.putI H78 i78_25 (ob6 ma) rfl ty6_2.1 ty6_2.2 h (fun s10 h => ?_)
    exact Ev.sub (l := [(0, .ref a), (1, .int v1), (2, .int v2), (4, .int v4)]) rfl rfl (mm_sub_c rfl (mm_sub_c rfl (mm_sub_c rfl (mm_sub_c rfl mm_sub_n)))) (t78_28 ma hd h)
theorem i79_0 : mm_cd 79 0 = some (.aload_n 0, 1, 0, 0) := rfl
theorem i79_1 : mm_cd 79 1 = some (.dup, 1, 0, 0) := rfl
theorem i79_2 : mm_cd 79 2 = some (.getfield 9, 3, ((6 : Nat) : Int), 0) := rfl
theorem i79_5 : mm_cd 79 5 = some (.iconst 1, 1, 0, 0) := rfl
theorem i79_6 : mm_cd 79 6 = some (.iload_n 1, 1, 0, 0) := rfl
theorem i79_7 : mm_cd 79 7 = some (.ishl, 1, 0, 0) := rfl
theorem i79_8 : mm_cd 79 8 = some (.iconst (-1), 1, 0, 0) := rfl
theorem i79_9 : mm_cd 79 9 = some (.ixor, 1, 0, 0) := rfl
theorem i79_10 : mm_cd 79 10 = some (.iand, 1, 0, 0) := rfl
theorem i79_11 : mm_cd 79 11 = some (.putfield 9, 3, ((6 : Nat) : Int), 0) := rfl
theorem i79_14 : mm_cd 79 14 = some (.aload_n 0, 1, 0, 0) := rfl
theorem i79_15 : mm_cd 79 15 = some (.dup, 1, 0, 0) := rfl
theorem i79_16 : mm_cd 79 16 = some (.getfield 15, 3, ((6 : Nat) : Int), 1) := rfl
theorem i79_19 : mm_cd 79 19 = some (.iconst 1, 1, 0, 0) := rfl
theorem i79_20 : mm_cd 79 20 = some (.iload_n 1, 1, 0, 0) := rfl
theorem i79_21 : mm_cd 79 21 = some (.ishl, 1, 0, 0) := rfl
theorem i79_22 : mm_cd 79 22 = some (.ior, 1, 0, 0) := rfl
theorem i79_23 : mm_cd 79 23 = some (.putfield 15, 3, ((6 : Nat) : Int), 1) := rfl
theorem i79_26 : mm_cd 79 26 = some (.aload_n 0, 1, 0, 0) := rfl
theorem i79_27 : mm_cd 79 27 = some (.getfield 31, 3, ((6 : Nat) : Int), 6) := rfl
theorem i79_30 : mm_cd 79 30 = some (.iload_n 1, 1, 0, 0) := rfl
theorem i79_31 : mm_cd 79 31 = some (.iload_n 2, 1, 0, 0) := rfl
theorem i79_32 : mm_cd 79 32 = some (.iastore, 1, 0, 0) := rfl
theorem i79_33 : mm_cd 79 33 = some (.return_, 1, 0, 0) := rfl
/-- SerialGate$Slots.close(II)V -/
def q79 (a : Nat) (v1 : Int32) (v2 : Int32) (s : mS) : Option mQ := sp (sI s a 0 ((s.1 a 0) &&& ((shlI (1 : Int32) v1) ^^^ (-1 : Int32)))) fun s1 => sp (sI s1 a 1 ((s1.1 a 1) ||| (shlI (1 : Int32) v1))) fun s2 => gA 8 v1 <| sp (sI s2 (a + 3) v1.toNatClampNeg v2) fun s3 => ru s3
theorem c79 {L : Nat} {xs : Nat → Int32} {a : Nat} (ma : a ∈ A6) {v1 : Int32} {v2 : Int32} {s : mS} {r : mQ} (h : q79 a v1 v2 s = some r) : ∀ d, 0 ≤ d → Cl L xs d 79 [.ref a, .int v1, .int v2] (hp s) (hr r) := by
  intro d hd
  show Ev L xs d 79 0 [(0, .ref a), (1, .int v1), (2, .int v2)] [] (hp s) (hr r)
  unfold q79 at h
  refine Ev.aload_n H79 i79_0 rfl ?_
  refine Ev.dup H79 i79_1 rfl ?_
  refine Rd.getI H79 i79_2 (ob6 ma) rfl ?_
  refine Ev.iconst H79 i79_5 kI_1 ?_
  refine Ev.iload_n H79 i79_6 rfl ?_
  refine Rd.ishl H79 i79_7 ?_
  refine Ev.iconst H79 i79_8 kI_m1 ?_
  refine Ev.ixor H79 i79_9 ?_
  refine Ev.iand H79 i79_10 ?_
  refine Rd.putI H79 i79_11 (ob6 ma) rfl ty6_0.1 ty6_0.2 h (fun s1 h => ?_)
  refine Ev.aload_n H79 i79_14 rfl ?_
  refine Ev.dup H79 i79_15 rfl ?_
  refine Rd.getI H79 i79_16 (ob6 ma) rfl ?_
  refine Ev.iconst H79 i79_19 kI_1 ?_
  refine Ev.iload_n H79 i79_20 rfl ?_
  refine Rd.ishl H79 i79_21 ?_
  refine Ev.ior H79 i79_22 ?_
  refine Rd.putI H79 i79_23 (ob6 ma) rfl ty6_1.1 ty6_1.2 h (fun s2 h => ?_)
  refine Ev.aload_n H79 i79_26 rfl ?_
  refine Rd.getR H79 i79_27 (ob6 ma) rfl ?_
  refine Ev.iload_n H79 i79_30 rfl ?_
  refine Ev.iload_n H79 i79_31 rfl ?_
  refine Rd.iastore H79 i79_32 (ar6_3 ma) h (fun s3 h => ?_)
  exact Rd.return_ H79 i79_33 rfl h
theorem i80_0 : mm_cd 80 0 = some (.iconst 1, 1, 0, 0) := rfl
theorem i80_1 : mm_cd 80 1 = some (.iload_n 1, 1, 0, 0) := rfl
theorem i80_2 : mm_cd 80 2 = some (.ishl, 1, 0, 0) := rfl
theorem i80_3 : mm_cd 80 3 = some (.iconst (-1), 1, 0, 0) := rfl
theorem i80_4 : mm_cd 80 4 = some (.ixor, 1, 0, 0) := rfl
theorem i80_5 : mm_cd 80 5 = some (.istore_n 2, 1, 0, 0) := rfl
theorem i80_6 : mm_cd 80 6 = some (.aload_n 0, 1, 0, 0) := rfl
theorem i80_7 : mm_cd 80 7 = some (.dup, 1, 0, 0) := rfl
theorem i80_8 : mm_cd 80 8 = some (.getfield 9, 3, ((6 : Nat) : Int), 0) := rfl
theorem i80_11 : mm_cd 80 11 = some (.iload_n 2, 1, 0, 0) := rfl
theorem i80_12 : mm_cd 80 12 = some (.iand, 1, 0, 0) := rfl
theorem i80_13 : mm_cd 80 13 = some (.putfield 9, 3, ((6 : Nat) : Int), 0) := rfl
theorem i80_16 : mm_cd 80 16 = some (.aload_n 0, 1, 0, 0) := rfl
theorem i80_17 : mm_cd 80 17 = some (.dup, 1, 0, 0) := rfl
theorem i80_18 : mm_cd 80 18 = some (.getfield 15, 3, ((6 : Nat) : Int), 1) := rfl
theorem i80_21 : mm_cd 80 21 = some (.iload_n 2, 1, 0, 0) := rfl
theorem i80_22 : mm_cd 80 22 = some (.iand, 1, 0, 0) := rfl
theorem i80_23 : mm_cd 80 23 = some (.putfield 15, 3, ((6 : Nat) : Int), 1) := rfl
theorem i80_26 : mm_cd 80 26 = some (.aload_n 0, 1, 0, 0) := rfl
theorem i80_27 : mm_cd 80 27 = some (.dup, 1, 0, 0) := rfl
theorem i80_28 : mm_cd 80 28 = some (.getfield 18, 3, ((6 : Nat) : Int), 2) := rfl
theorem i80_31 : mm_cd 80 31 = some (.iload_n 2, 1, 0, 0) := rfl
theorem i80_32 : mm_cd 80 32 = some (.iand, 1, 0, 0) := rfl
theorem i80_33 : mm_cd 80 33 = some (.putfield 18, 3, ((6 : Nat) : Int), 2) := rfl
theorem i80_36 : mm_cd 80 36 = some (.aload_n 0, 1, 0, 0) := rfl
theorem i80_37 : mm_cd 80 37 = some (.dup, 1, 0, 0) := rfl
theorem i80_38 : mm_cd 80 38 = some (.getfield 21, 3, ((6 : Nat) : Int), 3) := rfl
theorem i80_41 : mm_cd 80 41 = some (.iload_n 2, 1, 0, 0) := rfl
theorem i80_42 : mm_cd 80 42 = some (.iand, 1, 0, 0) := rfl
theorem i80_43 : mm_cd 80 43 = some (.putfield 21, 3, ((6 : Nat) : Int), 3) := rfl
theorem i80_46 : mm_cd 80 46 = some (.iconst 0, 1, 0, 0) := rfl
theorem i80_47 : mm_cd 80 47 = some (.istore_n 3, 1, 0, 0) := rfl
theorem i80_48 : mm_cd 80 48 = some (.iload_n 3, 1, 0, 0) := rfl
theorem i80_49 : mm_cd 80 49 = some (.bipush 8, 2, 0, 0) := rfl
theorem i80_51 : mm_cd 80 51 = some (.if_icmp .ge 29, 3, 0, 0) := rfl
theorem i80_54 : mm_cd 80 54 = some (.aload_n 0, 1, 0, 0) := rfl
theorem i80_55 : mm_cd 80 55 = some (.getfield 49, 3, ((6 : Nat) : Int), 12) := rfl
theorem i80_58 : mm_cd 80 58 = some (.iload_n 3, 1, 0, 0) := rfl
theorem i80_59 : mm_cd 80 59 = some (.dup2, 1, 0, 0) := rfl
theorem i80_60 : mm_cd 80 60 = some (.iaload, 1, 0, 0) := rfl
theorem i80_61 : mm_cd 80 61 = some (.iload_n 2, 1, 0, 0) := rfl
theorem i80_62 : mm_cd 80 62 = some (.iand, 1, 0, 0) := rfl
theorem i80_63 : mm_cd 80 63 = some (.iastore, 1, 0, 0) := rfl
theorem i80_64 : mm_cd 80 64 = some (.aload_n 0, 1, 0, 0) := rfl
theorem i80_65 : mm_cd 80 65 = some (.getfield 52, 3, ((6 : Nat) : Int), 13) := rfl
theorem i80_68 : mm_cd 80 68 = some (.iload_n 3, 1, 0, 0) := rfl
theorem i80_69 : mm_cd 80 69 = some (.dup2, 1, 0, 0) := rfl
theorem i80_70 : mm_cd 80 70 = some (.iaload, 1, 0, 0) := rfl
theorem i80_71 : mm_cd 80 71 = some (.iload_n 2, 1, 0, 0) := rfl
theorem i80_72 : mm_cd 80 72 = some (.iand, 1, 0, 0) := rfl
theorem i80_73 : mm_cd 80 73 = some (.iastore, 1, 0, 0) := rfl
theorem i80_74 : mm_cd 80 74 = some (.iinc 3 1, 3, 0, 0) := rfl
theorem i80_77 : mm_cd 80 77 = some (.goto (-29), 3, 0, 0) := rfl
theorem i80_80 : mm_cd 80 80 = some (.aload_n 0, 1, 0, 0) := rfl
theorem i80_81 : mm_cd 80 81 = some (.getfield 49, 3, ((6 : Nat) : Int), 12) := rfl
theorem i80_84 : mm_cd 80 84 = some (.iload_n 1, 1, 0, 0) := rfl
theorem i80_85 : mm_cd 80 85 = some (.iconst 0, 1, 0, 0) := rfl
theorem i80_86 : mm_cd 80 86 = some (.iastore, 1, 0, 0) := rfl
theorem i80_87 : mm_cd 80 87 = some (.aload_n 0, 1, 0, 0) := rfl
theorem i80_88 : mm_cd 80 88 = some (.getfield 52, 3, ((6 : Nat) : Int), 13) := rfl
theorem i80_91 : mm_cd 80 91 = some (.iload_n 1, 1, 0, 0) := rfl
theorem i80_92 : mm_cd 80 92 = some (.iconst 0, 1, 0, 0) := rfl
theorem i80_93 : mm_cd 80 93 = some (.iastore, 1, 0, 0) := rfl
theorem i80_94 : mm_cd 80 94 = some (.return_, 1, 0, 0) := rfl
def q80_48 (k80 : Int32 → mS → Option mQ) (a : Nat) : Nat → Int32 → Int32 → Int32 → mS → Option mQ
  | 0, _, _, _, _ => none
  | n + 1, v1, v2, v3, s => if (8 : Int32) ≤ v3 then (k80 v1 s) else (gA 8 v3 <| gA 8 v3 <| sp (sI s (a + 9) v3.toNatClampNeg ((s.1 (a + 9) v3.toNatClampNeg) &&& v2)) fun s1 => gA 8 v3 <| gA 8 v3 <| sp (sI s1 (a + 10) v3.toNatClampNeg ((s1.1 (a + 10) v3.toNatClampNeg) &&& v2)) fun s2 => bx (v3 + (1 : Int32)) fun x3 => q80_48 k80 a n v1 v2 x3 s2)
theorem t80_48 {L : Nat} {xs : Nat → Int32} {d : Nat} {k80 : Int32 → mS → Option mQ} {a : Nat} (hk80 : ∀ (v1 : Int32) (s : mS) (r : mQ), k80 v1 s = some r → Ev L xs d 80 80 [(0, .ref a), (1, .int v1)] [] (hp s) (hr r)) (ma : a ∈ A6) (hd : 0 ≤ d) : ∀ (n : Nat) (v1 : Int32) (v2 : Int32) (v3 : Int32) (s : mS) (r : mQ), q80_48 k80 a n v1 v2 v3 s = some r → Ev L xs d 80 48 [(0, .ref a), (1, .int v1), (2, .int v2), (3, .int v3)] [] (hp s) (hr r) := by
  intro n
  induction n with
  | zero => intro v1 v2 v3 s r h; rw [q80_48] at h; cases h
  | succ n ih =>
    intro v1 v2 v3 s r h
    rw [q80_48] at h
    refine Ev.iload_n H80 i80_48 rfl ?_
    refine Ev.bipush H80 i80_49 kB_8 ?_
    refine Rd.ic_ge H80 i80_51 (t := 80) (by decide) h (fun hc h => ?_) (fun hc h => ?_)
    · exact Ev.sub (l := [(0, .ref a), (1, .int v1)]) rfl rfl (mm_sub_c rfl (mm_sub_c rfl mm_sub_n)) (hk80 _ _ _ h)
    · refine Ev.aload_n H80 i80_54 rfl ?_
      refine Rd.getR H80 i80_55 (ob6 ma) rfl ?_
      refine Ev.iload_n H80 i80_58 rfl ?_
      refine Ev.dup2 H80 i80_59 ⟨rfl, rfl⟩ ?_
      refine Rd.iaload H80 i80_60 (ar6_9 ma) h (fun h => ?_)
      refine Ev.iload_n H80 i80_61 rfl ?_
      refine Ev.iand H80 i80_62 ?_
      refine Rd.iastore H80 i80_63 (ar6_9 ma) h (fun s1 h => ?_)
      refine Ev.aload_n H80 i80_64 rfl ?_
      refine Rd.getR H80 i80_65 (ob6 ma) rfl ?_
      refine Ev.iload_n H80 i80_68 rfl ?_
      refine Ev.dup2 H80 i80_69 ⟨rfl, rfl⟩ ?_
      refine Rd.iaload H80 i80_70 (ar6_10 ma) h (fun h => ?_)
      refine Ev.iload_n H80 i80_71 rfl ?_
      refine Ev.iand H80 i80_72 ?_
      refine Rd.iastore H80 i80_73 (ar6_10 ma) h (fun s2 h => ?_)
      refine Rd.iinc H80 i80_74 (Nat.le_of_ble_eq_true rfl) rfl kI_1 (lv2 := fun x3 => [(3, .int x3), (0, .ref a), (1, .int v1), (2, .int v2)]) (fun _ => rfl) h (fun x3 h => ?_)
      refine Ev.goto H80 i80_77 (t := 48) (by decide) ?_
      exact Ev.sub (l := [(0, .ref a), (1, .int v1), (2, .int v2), (3, .int x3)]) rfl rfl (mm_sub_c rfl (mm_sub_c rfl (mm_sub_c rfl (mm_sub_c rfl mm_sub_n)))) (ih _ _ _ _ _ h)
def q80_80 (a : Nat) (v1 : Int32) (s : mS) : Option mQ := gA 8 v1 <| sp (sI s (a + 9) v1.toNatClampNeg (0 : Int32)) fun s4 => gA 8 v1 <| sp (sI s4 (a + 10) v1.toNatClampNeg (0 : Int32)) fun s5 => ru s5
theorem t80_80 {L : Nat} {xs : Nat → Int32} {d : Nat} {a : Nat} (ma : a ∈ A6) (hd : 0 ≤ d) {v1 : Int32} {s : mS} {r : mQ} (h : q80_80 a v1 s = some r) : Ev L xs d 80 80 [(0, .ref a), (1, .int v1)] [] (hp s) (hr r) := by
  unfold q80_80 at h
  refine Ev.aload_n H80 i80_80 rfl ?_
  refine Rd.getR H80 i80_81 (ob6 ma) rfl ?_
  refine Ev.iload_n H80 i80_84 rfl ?_
  refine Ev.iconst H80 i80_85 kI_0 ?_
  refine Rd.iastore H80 i80_86 (ar6_9 ma) h (fun s4 h => ?_)
  refine Ev.aload_n H80 i80_87 rfl ?_
  refine Rd.getR H80 i80_88 (ob6 ma) rfl ?_
  refine Ev.iload_n H80 i80_91 rfl ?_
  refine Ev.iconst H80 i80_92 kI_0 ?_
  refine Rd.iastore H80 i80_93 (ar6_10 ma) h (fun s5 h => ?_)
  exact Rd.return_ H80 i80_94 rfl h
/-- SerialGate$Slots.free(I)V -/
def q80 (a : Nat) (v1 : Int32) (s : mS) : Option mQ := bx ((shlI (1 : Int32) v1) ^^^ (-1 : Int32)) fun x6 => sp (sI s a 0 ((s.1 a 0) &&& x6)) fun s7 => sp (sI s7 a 1 ((s7.1 a 1) &&& x6)) fun s8 => sp (sI s8 a 2 ((s8.1 a 2) &&& x6)) fun s9 => sp (sI s9 a 3 ((s9.1 a 3) &&& x6)) fun s10 => q80_48 (q80_80 a) a 10000 v1 x6 (0 : Int32) s10
theorem c80 {L : Nat} {xs : Nat → Int32} {a : Nat} (ma : a ∈ A6) {v1 : Int32} {s : mS} {r : mQ} (h : q80 a v1 s = some r) : ∀ d, 0 ≤ d → Cl L xs d 80 [.ref a, .int v1] (hp s) (hr r) := by
  intro d hd
  show Ev L xs d 80 0 [(0, .ref a), (1, .int v1)] [] (hp s) (hr r)
  unfold q80 at h
  refine Ev.iconst H80 i80_0 kI_1 ?_
  refine Ev.iload_n H80 i80_1 rfl ?_
  refine Rd.ishl H80 i80_2 ?_
  refine Ev.iconst H80 i80_3 kI_m1 ?_
  refine Ev.ixor H80 i80_4 ?_
  refine Rd.istore_n H80 i80_5 (Nat.le_of_ble_eq_true rfl) (lv2 := fun x6 => [(2, .int x6), (0, .ref a), (1, .int v1)]) (fun _ => rfl) h (fun x6 h => ?_)
  refine Ev.aload_n H80 i80_6 rfl ?_
  refine Ev.dup H80 i80_7 rfl ?_
  refine Rd.getI H80 i80_8 (ob6 ma) rfl ?_
  refine Ev.iload_n H80 i80_11 rfl ?_
  refine Ev.iand H80 i80_12 ?_
  refine Rd.putI H80 i80_13 (ob6 ma) rfl ty6_0.1 ty6_0.2 h (fun s7 h => ?_)
  refine Ev.aload_n H80 i80_16 rfl ?_
  refine Ev.dup H80 i80_17 rfl ?_
  refine Rd.getI H80 i80_18 (ob6 ma) rfl ?_
  refine Ev.iload_n H80 i80_21 rfl ?_
  refine Ev.iand H80 i80_22 ?_
  refine Rd.putI H80 i80_23 (ob6 ma) rfl ty6_1.1 ty6_1.2 h (fun s8 h => ?_)
  refine Ev.aload_n H80 i80_26 rfl ?_
  refine Ev.dup H80 i80_27 rfl ?_
  refine Rd.getI H80 i80_28 (ob6 ma) rfl ?_
  refine Ev.iload_n H80 i80_31 rfl ?_
  refine Ev.iand H80 i80_32 ?_
  refine Rd.putI H80 i80_33 (ob6 ma) rfl ty6_2.1 ty6_2.2 h (fun s9 h => ?_)
  refine Ev.aload_n H80 i80_36 rfl ?_
  refine Ev.dup H80 i80_37 rfl ?_
  refine Rd.getI H80 i80_38 (ob6 ma) rfl ?_
  refine Ev.iload_n H80 i80_41 rfl ?_
  refine Ev.iand H80 i80_42 ?_
  refine Rd.putI H80 i80_43 (ob6 ma) rfl ty6_3.1 ty6_3.2 h (fun s10 h => ?_)
  refine Ev.iconst H80 i80_46 kI_0 ?_
  refine Ev.istore_n H80 i80_47 (Nat.le_of_ble_eq_true rfl) (lv2 := [(3, .int (0 : Int32)), (2, .int x6), (0, .ref a), (1, .int v1)]) rfl ?_
  exact Ev.sub (l := [(0, .ref a), (1, .int v1), (2, .int x6), (3, .int (0 : Int32))]) rfl rfl (mm_sub_c rfl (mm_sub_c rfl (mm_sub_c rfl (mm_sub_c rfl mm_sub_n)))) (t80_48 (k80 := (q80_80 a)) (fun _ _ _ h => t80_80 ma hd h) ma hd 10000 _ _ _ _ _ h)
theorem i81_0 : mm_cd 81 0 = some (.aload_n 0, 1, 0, 0) := rfl
theorem i81_1 : mm_cd 81 1 = some (.getfield 31, 3, ((6 : Nat) : Int), 6) := rfl
theorem i81_4 : mm_cd 81 4 = some (.iload_n 1, 1, 0, 0) := rfl
theorem i81_5 : mm_cd 81 5 = some (.iaload, 1, 0, 0) := rfl
theorem i81_6 : mm_cd 81 6 = some (.istore_n 2, 1, 0, 0) := rfl
theorem i81_7 : mm_cd 81 7 = some (.iconst 0, 1, 0, 0) := rfl
theorem i81_8 : mm_cd 81 8 = some (.istore_n 3, 1, 0, 0) := rfl
theorem i81_9 : mm_cd 81 9 = some (.iload_n 3, 1, 0, 0) := rfl
theorem i81_10 : mm_cd 81 10 = some (.bipush 8, 2, 0, 0) := rfl
theorem i81_12 : mm_cd 81 12 = some (.if_icmp .ge 77, 3, 0, 0) := rfl
theorem i81_15 : mm_cd 81 15 = some (.aload_n 0, 1, 0, 0) := rfl
theorem i81_16 : mm_cd 81 16 = some (.getfield 52, 3, ((6 : Nat) : Int), 13) := rfl
theorem i81_19 : mm_cd 81 19 = some (.iload_n 1, 1, 0, 0) := rfl
theorem i81_20 : mm_cd 81 20 = some (.iaload, 1, 0, 0) := rfl
theorem i81_21 : mm_cd 81 21 = some (.iload_n 3, 1, 0, 0) := rfl
theorem i81_22 : mm_cd 81 22 = some (.ishr, 1, 0, 0) := rfl
theorem i81_23 : mm_cd 81 23 = some (.iconst 1, 1, 0, 0) := rfl
theorem i81_24 : mm_cd 81 24 = some (.iand, 1, 0, 0) := rfl
theorem i81_25 : mm_cd 81 25 = some (.ifCond .eq 29, 3, 0, 0) := rfl
theorem i81_28 : mm_cd 81 28 = some (.aload_n 0, 1, 0, 0) := rfl
theorem i81_29 : mm_cd 81 29 = some (.getfield 43, 3, ((6 : Nat) : Int), 10) := rfl
theorem i81_32 : mm_cd 81 32 = some (.iload_n 3, 1, 0, 0) := rfl
theorem i81_33 : mm_cd 81 33 = some (.iaload, 1, 0, 0) := rfl
theorem i81_34 : mm_cd 81 34 = some (.ifCond .eq 13, 3, 0, 0) := rfl
theorem i81_37 : mm_cd 81 37 = some (.aload_n 0, 1, 0, 0) := rfl
theorem i81_38 : mm_cd 81 38 = some (.getfield 43, 3, ((6 : Nat) : Int), 10) := rfl
theorem i81_41 : mm_cd 81 41 = some (.iload_n 3, 1, 0, 0) := rfl
theorem i81_42 : mm_cd 81 42 = some (.iaload, 1, 0, 0) := rfl
theorem i81_43 : mm_cd 81 43 = some (.iload_n 2, 1, 0, 0) := rfl
theorem i81_44 : mm_cd 81 44 = some (.if_icmp .le 10, 3, 0, 0) := rfl
theorem i81_47 : mm_cd 81 47 = some (.aload_n 0, 1, 0, 0) := rfl
theorem i81_48 : mm_cd 81 48 = some (.getfield 43, 3, ((6 : Nat) : Int), 10) := rfl
theorem i81_51 : mm_cd 81 51 = some (.iload_n 3, 1, 0, 0) := rfl
theorem i81_52 : mm_cd 81 52 = some (.iload_n 2, 1, 0, 0) := rfl
theorem i81_53 : mm_cd 81 53 = some (.iastore, 1, 0, 0) := rfl
theorem i81_54 : mm_cd 81 54 = some (.aload_n 0, 1, 0, 0) := rfl
theorem i81_55 : mm_cd 81 55 = some (.getfield 49, 3, ((6 : Nat) : Int), 12) := rfl
theorem i81_58 : mm_cd 81 58 = some (.iload_n 1, 1, 0, 0) := rfl
theorem i81_59 : mm_cd 81 59 = some (.iaload, 1, 0, 0) := rfl
theorem i81_60 : mm_cd 81 60 = some (.iload_n 3, 1, 0, 0) := rfl
theorem i81_61 : mm_cd 81 61 = some (.ishr, 1, 0, 0) := rfl
theorem i81_62 : mm_cd 81 62 = some (.iconst 1, 1, 0, 0) := rfl
theorem i81_63 : mm_cd 81 63 = some (.iand, 1, 0, 0) := rfl
theorem i81_64 : mm_cd 81 64 = some (.ifCond .eq 19, 3, 0, 0) := rfl
theorem i81_67 : mm_cd 81 67 = some (.aload_n 0, 1, 0, 0) := rfl
theorem i81_68 : mm_cd 81 68 = some (.getfield 46, 3, ((6 : Nat) : Int), 11) := rfl
theorem i81_71 : mm_cd 81 71 = some (.iload_n 3, 1, 0, 0) := rfl
theorem i81_72 : mm_cd 81 72 = some (.aload_n 0, 1, 0, 0) := rfl
theorem i81_73 : mm_cd 81 73 = some (.getfield 46, 3, ((6 : Nat) : Int), 11) := rfl
theorem i81_76 : mm_cd 81 76 = some (.iload_n 3, 1, 0, 0) := rfl
theorem i81_77 : mm_cd 81 77 = some (.iaload, 1, 0, 0) := rfl
theorem i81_78 : mm_cd 81 78 = some (.iload_n 2, 1, 0, 0) := rfl
theorem i81_79 : mm_cd 81 79 = some (.invokestatic 78, 3, 2, 0) := rfl
theorem i81_82 : mm_cd 81 82 = some (.iastore, 1, 0, 0) := rfl
theorem i81_83 : mm_cd 81 83 = some (.iinc 3 1, 3, 0, 0) := rfl
theorem i81_86 : mm_cd 81 86 = some (.goto (-77), 3, 0, 0) := rfl
theorem i81_89 : mm_cd 81 89 = some (.aload_n 0, 1, 0, 0) := rfl
theorem i81_90 : mm_cd 81 90 = some (.iload_n 1, 1, 0, 0) := rfl
theorem i81_91 : mm_cd 81 91 = some (.invokevirtual 84, 3, 0, 80) := rfl
theorem i81_94 : mm_cd 81 94 = some (.return_, 1, 0, 0) := rfl
def q81_83 (k9 : Int32 → Int32 → Int32 → mS → Option mQ) (a : Nat) (v1 : Int32) (v2 : Int32) (v3 : Int32) (s : mS) : Option mQ := bx (v3 + (1 : Int32)) fun x1 => k9 v1 v2 x1 s
theorem t81_83 {L : Nat} {xs : Nat → Int32} {d : Nat} {k9 : Int32 → Int32 → Int32 → mS → Option mQ} {a : Nat} (hk9 : ∀ (v1 : Int32) (v2 : Int32) (v3 : Int32) (s : mS) (r : mQ), k9 v1 v2 v3 s = some r → Ev L xs d 81 9 [(0, .ref a), (1, .int v1), (2, .int v2), (3, .int v3)] [] (hp s) (hr r)) (ma : a ∈ A6) (hd : 1 ≤ d) {v1 : Int32} {v2 : Int32} {v3 : Int32} {s : mS} {r : mQ} (h : q81_83 k9 a v1 v2 v3 s = some r) : Ev L xs d 81 83 [(0, .ref a), (1, .int v1), (2, .int v2), (3, .int v3)] [] (hp s) (hr r) := by
  unfold q81_83 at h
  refine Rd.iinc H81 i81_83 (Nat.le_of_ble_eq_true rfl) rfl kI_1 (lv2 := fun x1 => [(3, .int x1), (0, .ref a), (1, .int v1), (2, .int v2)]) (fun _ => rfl) h (fun x1 h => ?_)
  refine Ev.goto H81 i81_86 (t := 9) (by decide) ?_
  exact Ev.sub (l := [(0, .ref a), (1, .int v1), (2, .int v2), (3, .int x1)]) rfl rfl (mm_sub_c rfl (mm_sub_c rfl (mm_sub_c rfl (mm_sub_c rfl mm_sub_n)))) (hk9 _ _ _ _ _ h)
def q81_54 (k9 : Int32 → Int32 → Int32 → mS → Option mQ) (a : Nat) (v1 : Int32) (v2 : Int32) (v3 : Int32) (s : mS) : Option mQ := gA 8 v1 <| if ((shrI (s.1 (a + 9) v1.toNatClampNeg) v3) &&& (1 : Int32)) = 0 then (q81_83 k9 a v1 v2 v3 s) else (gA 8 v3 <| gA 8 v3 <| sp (sI s (a + 8) v3.toNatClampNeg (mxI (s.1 (a + 8) v3.toNatClampNeg) v2)) fun s2 => q81_83 k9 a v1 v2 v3 s2)
theorem t81_54 {L : Nat} {xs : Nat → Int32} {d : Nat} {k9 : Int32 → Int32 → Int32 → mS → Option mQ} {a : Nat} (hk9 : ∀ (v1 : Int32) (v2 : Int32) (v3 : Int32) (s : mS) (r : mQ), k9 v1 v2 v3 s = some r → Ev L xs d 81 9 [(0, .ref a), (1, .int v1), (2, .int v2), (3, .int v3)] [] (hp s) (hr r)) (ma : a ∈ A6) (hd : 1 ≤ d) {v1 : Int32} {v2 : Int32} {v3 : Int32} {s : mS} {r : mQ} (h : q81_54 k9 a v1 v2 v3 s = some r) : Ev L xs d 81 54 [(0, .ref a), (1, .int v1), (2, .int v2), (3, .int v3)] [] (hp s) (hr r) := by
  unfold q81_54 at h
  refine Ev.aload_n H81 i81_54 rfl ?_
  refine Rd.getR H81 i81_55 (ob6 ma) rfl ?_
  refine Ev.iload_n H81 i81_58 rfl ?_
  refine Rd.iaload H81 i81_59 (ar6_9 ma) h (fun h => ?_)
  refine Ev.iload_n H81 i81_60 rfl ?_
  refine Rd.ishr H81 i81_61 ?_
  refine Ev.iconst H81 i81_62 kI_1 ?_
  refine Ev.iand H81 i81_63 ?_
  refine Rd.if_eq H81 i81_64 (t := 83) (by decide) h (fun hc h => ?_) (fun hc h => ?_)
  · exact Ev.sub (l := [(0, .ref a), (1, .int v1), (2, .int v2), (3, .int v3)]) rfl rfl (mm_sub_c rfl (mm_sub_c rfl (mm_sub_c rfl (mm_sub_c rfl mm_sub_n)))) (t81_83 (k9 := k9) hk9 ma hd h)
  · refine Ev.aload_n H81 i81_67 rfl ?_
    refine Rd.getR H81 i81_68 (ob6 ma) rfl ?_
    refine Ev.iload_n H81 i81_71 rfl ?_
    refine Ev.aload_n H81 i81_72 rfl ?_
    refine Rd.getR H81 i81_73 (ob6 ma) rfl ?_
    refine Ev.iload_n H81 i81_76 rfl ?_
    refine Rd.iaload H81 i81_77 (ar6_8 ma) h (fun h => ?_)
    refine Ev.iload_n H81 i81_78 rfl ?_
    refine Rd.max H81 i81_79 (Nat.le_of_ble_eq_true rfl) ?_
    refine Rd.iastore H81 i81_82 (ar6_8 ma) h (fun s2 h => ?_)
    exact Ev.sub (l := [(0, .ref a), (1, .int v1), (2, .int v2), (3, .int v3)]) rfl rfl (mm_sub_c rfl (mm_sub_c rfl (mm_sub_c rfl (mm_sub_c rfl mm_sub_n)))) (t81_83 (k9 := k9) hk9 ma hd h)
def q81_47 (k9 : Int32 → Int32 → Int32 → mS → Option mQ) (a : Nat) (v1 : Int32) (v2 : Int32) (v3 : Int32) (s : mS) : Option mQ := gA 8 v3 <| sp (sI s (a + 7) v3.toNatClampNeg v2) fun s3 => q81_54 k9 a v1 v2 v3 s3
theorem t81_47 {L : Nat} {xs : Nat → Int32} {d : Nat} {k9 : Int32 → Int32 → Int32 → mS → Option mQ} {a : Nat} (hk9 : ∀ (v1 : Int32) (v2 : Int32) (v3 : Int32) (s : mS) (r : mQ), k9 v1 v2 v3 s = some r → Ev L xs d 81 9 [(0, .ref a), (1, .int v1), (2, .int v2), (3, .int v3)] [] (hp s) (hr r)) (ma : a ∈ A6) (hd : 1 ≤ d) {v1 : Int32} {v2 : Int32} {v3 : Int32} {s : mS} {r : mQ} (h : q81_47 k9 a v1 v2 v3 s = some r) : Ev L xs d 81 47 [(0, .ref a), (1, .int v1), (2, .int v2), (3, .int v3)] [] (hp s) (hr r) := by
  unfold q81_47 at h
  refine Ev.aload_n H81 i81_47 rfl ?_
  refine Rd.getR H81 i81_48 (ob6 ma) rfl ?_
  refine Ev.iload_n H81 i81_51 rfl ?_
  refine Ev.iload_n H81 i81_52 rfl ?_
  refine Rd.iastore H81 i81_53 (ar6_7 ma) h (fun s3 h => ?_)
  exact Ev.sub (l := [(0, .ref a), (1, .int v1), (2, .int v2), (3, .int v3)]) rfl rfl (mm_sub_c rfl (mm_sub_c rfl (mm_sub_c rfl (mm_sub_c rfl mm_sub_n)))) (t81_54 (k9 := k9) hk9 ma hd h)
def q81_9 (k89 : Int32 → mS → Option mQ) (a : Nat) : Nat → Int32 → Int32 → Int32 → mS → Option mQ
  | 0, _, _, _, _ => none
  | n + 1, v1, v2, v3, s => if (8 : Int32) ≤ v3 then (k89 v1 s) else (gA 8 v1 <| if ((shrI (s.1 (a + 10) v1.toNatClampNeg) v3) &&& (1 : Int32)) = 0 then (q81_54 (q81_9 k89 a n) a v1 v2 v3 s) else (gA 8 v3 <| if (s.1 (a + 7) v3.toNatClampNeg) = 0 then (q81_47 (q81_9 k89 a n) a v1 v2 v3 s) else (gA 8 v3 <| if (s.1 (a + 7) v3.toNatClampNeg) ≤ v2 then (q81_54 (q81_9 k89 a n) a v1 v2 v3 s) else (q81_47 (q81_9 k89 a n) a v1 v2 v3 s))))
theorem t81_9 {L : Nat} {xs : Nat → Int32} {d : Nat} {k89 : Int32 → mS → Option mQ} {a : Nat} (hk89 : ∀ (v1 : Int32) (s : mS) (r : mQ), k89 v1 s = some r → Ev L xs d 81 89 [(0, .ref a), (1, .int v1)] [] (hp s) (hr r)) (ma : a ∈ A6) (hd : 1 ≤ d) : ∀ (n : Nat) (v1 : Int32) (v2 : Int32) (v3 : Int32) (s : mS) (r : mQ), q81_9 k89 a n v1 v2 v3 s = some r → Ev L xs d 81 9 [(0, .ref a), (1, .int v1), (2, .int v2), (3, .int v3)] [] (hp s) (hr r) := by
  intro n
  induction n with
  | zero => intro v1 v2 v3 s r h; rw [q81_9] at h; cases h
  | succ n ih =>
    intro v1 v2 v3 s r h
    rw [q81_9] at h
    refine Ev.iload_n H81 i81_9 rfl ?_
    refine Ev.bipush H81 i81_10 kB_8 ?_
    refine Rd.ic_ge H81 i81_12 (t := 89) (by decide) h (fun hc h => ?_) (fun hc h => ?_)
    · exact Ev.sub (l := [(0, .ref a), (1, .int v1)]) rfl rfl (mm_sub_c rfl (mm_sub_c rfl mm_sub_n)) (hk89 _ _ _ h)
    · refine Ev.aload_n H81 i81_15 rfl ?_
      refine Rd.getR H81 i81_16 (ob6 ma) rfl ?_
      refine Ev.iload_n H81 i81_19 rfl ?_
      refine Rd.iaload H81 i81_20 (ar6_10 ma) h (fun h => ?_)
      refine Ev.iload_n H81 i81_21 rfl ?_
      refine Rd.ishr H81 i81_22 ?_
      refine Ev.iconst H81 i81_23 kI_1 ?_
      refine Ev.iand H81 i81_24 ?_
      refine Rd.if_eq H81 i81_25 (t := 54) (by decide) h (fun hc h => ?_) (fun hc h => ?_)
      · exact Ev.sub (l := [(0, .ref a), (1, .int v1), (2, .int v2), (3, .int v3)]) rfl rfl (mm_sub_c rfl (mm_sub_c rfl (mm_sub_c rfl (mm_sub_c rfl mm_sub_n)))) (t81_54 (k9 := (q81_9 k89 a n)) (fun _ _ _ _ _ h => ih _ _ _ _ _ h) ma hd h)
      · refine Ev.aload_n H81 i81_28 rfl ?_
        refine Rd.getR H81 i81_29 (ob6 ma) rfl ?_
        refine Ev.iload_n H81 i81_32 rfl ?_
        refine Rd.iaload H81 i81_33 (ar6_7 ma) h (fun h => ?_)
        refine Rd.if_eq H81 i81_34 (t := 47) (by decide) h (fun hc h => ?_) (fun hc h => ?_)
        · exact Ev.sub (l := [(0, .ref a), (1, .int v1), (2, .int v2), (3, .int v3)]) rfl rfl (mm_sub_c rfl (mm_sub_c rfl (mm_sub_c rfl (mm_sub_c rfl mm_sub_n)))) (t81_47 (k9 := (q81_9 k89 a n)) (fun _ _ _ _ _ h => ih _ _ _ _ _ h) ma hd h)
        · refine Ev.aload_n H81 i81_37 rfl ?_
          refine Rd.getR H81 i81_38 (ob6 ma) rfl ?_
          refine Ev.iload_n H81 i81_41 rfl ?_
          refine Rd.iaload H81 i81_42 (ar6_7 ma) h (fun h => ?_)
          refine Ev.iload_n H81 i81_43 rfl ?_
          refine Rd.ic_le H81 i81_44 (t := 54) (by decide) h (fun hc h => ?_) (fun hc h => ?_)
          · exact Ev.sub (l := [(0, .ref a), (1, .int v1), (2, .int v2), (3, .int v3)]) rfl rfl (mm_sub_c rfl (mm_sub_c rfl (mm_sub_c rfl (mm_sub_c rfl mm_sub_n)))) (t81_54 (k9 := (q81_9 k89 a n)) (fun _ _ _ _ _ h => ih _ _ _ _ _ h) ma hd h)
          · exact Ev.sub (l := [(0, .ref a), (1, .int v1), (2, .int v2), (3, .int v3)]) rfl rfl (mm_sub_c rfl (mm_sub_c rfl (mm_sub_c rfl (mm_sub_c rfl mm_sub_n)))) (t81_47 (k9 := (q81_9 k89 a n)) (fun _ _ _ _ _ h => ih _ _ _ _ _ h) ma hd h)
def q81_89 (a : Nat) (v1 : Int32) (s : mS) : Option mQ := bM (q80 a v1 s) fun s4 => ru s4
theorem t81_89 {L : Nat} {xs : Nat → Int32} {d : Nat} {a : Nat} (ma : a ∈ A6) (hd : 1 ≤ d) {v1 : Int32} {s : mS} {r : mQ} (h : q81_89 a v1 s = some r) : Ev L xs d 81 89 [(0, .ref a), (1, .int v1)] [] (hp s) (hr r) := by
  unfold q81_89 at h
  refine Ev.aload_n H81 i81_89 rfl ?_
  refine Ev.iload_n H81 i81_90 rfl ?_
  refine Rd.cV1uN H81 i81_91 cal80 (ob6 ma) (Nat.le_of_ble_eq_true rfl) (Nat.le_of_ble_eq_true rfl) (Nat.lt_of_lt_of_le (by decide) hd) (fun q hq => c80 ma hq) h (fun s4 h => ?_)
  exact Rd.return_ H81 i81_94 rfl h
/-- SerialGate$Slots.leave(I)V -/
def q81 (a : Nat) (v1 : Int32) (s : mS) : Option mQ := gA 8 v1 <| bx (s.1 (a + 3) v1.toNatClampNeg) fun x5 => q81_9 (q81_89 a) a 10000 v1 x5 (0 : Int32) s
theorem c81 {L : Nat} {xs : Nat → Int32} {a : Nat} (ma : a ∈ A6) {v1 : Int32} {s : mS} {r : mQ} (h : q81 a v1 s = some r) : ∀ d, 1 ≤ d → Cl L xs d 81 [.ref a, .int v1] (hp s) (hr r) := by
  intro d hd
  show Ev L xs d 81 0 [(0, .ref a), (1, .int v1)] [] (hp s) (hr r)
  unfold q81 at h
  refine Ev.aload_n H81 i81_0 rfl ?_
  refine Rd.getR H81 i81_1 (ob6 ma) rfl ?_
  refine Ev.iload_n H81 i81_4 rfl ?_
  refine Rd.iaload H81 i81_5 (ar6_3 ma) h (fun h => ?_)
  refine Rd.istore_n H81 i81_6 (Nat.le_of_ble_eq_true rfl) (lv2 := fun x5 => [(2, .int x5), (0, .ref a), (1, .int v1)]) (fun _ => rfl) h (fun x5 h => ?_)
  refine Ev.iconst H81 i81_7 kI_0 ?_
  refine Ev.istore_n H81 i81_8 (Nat.le_of_ble_eq_true rfl) (lv2 := [(3, .int (0 : Int32)), (2, .int x5), (0, .ref a), (1, .int v1)]) rfl ?_
  exact Ev.sub (l := [(0, .ref a), (1, .int v1), (2, .int x5), (3, .int (0 : Int32))]) rfl rfl (mm_sub_c rfl (mm_sub_c rfl (mm_sub_c rfl (mm_sub_c rfl mm_sub_n)))) (t81_9 (k89 := (q81_89 a)) (fun _ _ _ h => t81_89 ma hd h) ma hd 10000 _ _ _ _ _ h)
theorem i82_0 : mm_cd 82 0 = some (.iload_n 1, 1, 0, 0) := rfl
theorem i82_1 : mm_cd 82 1 = some (.iload_n 2, 1, 0, 0) := rfl
theorem i82_2 : mm_cd 82 2 = some (.if_icmp .eq 44, 3, 0, 0) := rfl
theorem i82_5 : mm_cd 82 5 = some (.aload_n 0, 1, 0, 0) := rfl
theorem i82_6 : mm_cd 82 6 = some (.getfield 9, 3, ((6 : Nat) : Int), 0) := rfl
theorem i82_9 : mm_cd 82 9 = some (.iload_n 1, 1, 0, 0) := rfl
theorem i82_10 : mm_cd 82 10 = some (.ishr, 1, 0, 0) := rfl
theorem i82_11 : mm_cd 82 11 = some (.iconst 1, 1, 0, 0) := rfl
theorem i82_12 : mm_cd 82 12 = some (.iand, 1, 0, 0) := rfl
theorem i82_13 : mm_cd 82 13 = some (.ifCond .ne 29, 3, 0, 0) := rfl
theorem i82_16 : mm_cd 82 16 = some (.aload_n 0, 1, 0, 0) := rfl
theorem i82_17 : mm_cd 82 17 = some (.getfield 15, 3, ((6 : Nat) : Int), 1) := rfl
theorem i82_20 : mm_cd 82 20 = some (.iload_n 1, 1, 0, 0) := rfl
theorem i82_21 : mm_cd 82 21 = some (.ishr, 1, 0, 0) := rfl
theorem i82_22 : mm_cd 82 22 = some (.iconst 1, 1, 0, 0) := rfl
theorem i82_23 : mm_cd 82 23 = some (.iand, 1, 0, 0) := rfl
theorem i82_24 : mm_cd 82 24 = some (.ifCond .eq 22, 3, 0, 0) := rfl
theorem i82_27 : mm_cd 82 27 = some (.aload_n 0, 1, 0, 0) := rfl
theorem i82_28 : mm_cd 82 28 = some (.getfield 31, 3, ((6 : Nat) : Int), 6) := rfl
theorem i82_31 : mm_cd 82 31 = some (.iload_n 1, 1, 0, 0) := rfl
theorem i82_32 : mm_cd 82 32 = some (.iaload, 1, 0, 0) := rfl
theorem i82_33 : mm_cd 82 33 = some (.aload_n 0, 1, 0, 0) := rfl
theorem i82_34 : mm_cd 82 34 = some (.getfield 28, 3, ((6 : Nat) : Int), 5) := rfl
theorem i82_37 : mm_cd 82 37 = some (.iload_n 2, 1, 0, 0) := rfl
theorem i82_38 : mm_cd 82 38 = some (.iaload, 1, 0, 0) := rfl
theorem i82_39 : mm_cd 82 39 = some (.if_icmp .le 7, 3, 0, 0) := rfl
theorem i82_42 : mm_cd 82 42 = some (.iconst 1, 1, 0, 0) := rfl
theorem i82_43 : mm_cd 82 43 = some (.goto 4, 3, 0, 0) := rfl
theorem i82_46 : mm_cd 82 46 = some (.iconst 0, 1, 0, 0) := rfl
theorem i82_47 : mm_cd 82 47 = some (.ireturn, 1, 0, 0) := rfl
def q82_42 (a : Nat) (s : mS) : Option mQ := rv (1 : Int32) s
theorem t82_42 {L : Nat} {xs : Nat → Int32} {d : Nat} {a : Nat} (ma : a ∈ A6) (hd : 0 ≤ d) {s : mS} {r : mQ} (h : q82_42 a s = some r) : Ev L xs d 82 42 [] [] (hp s) (hr r) := by
  unfold q82_42 at h
  refine Ev.iconst H82 i82_42 kI_1 ?_
  refine Ev.goto H82 i82_43 (t := 47) (by decide) ?_
  exact Rd.ireturnK H82 i82_47 rfl (Or.inr rfl) h
/-- SerialGate$Slots.isConcurrent(II)Z -/
def q82 (a : Nat) (v1 : Int32) (v2 : Int32) (s : mS) : Option mQ := if v1 = v2 then (rv (0 : Int32) s) else (if ¬ ((shrI (s.1 a 0) v1) &&& (1 : Int32)) = 0 then (q82_42 a s) else (if ((shrI (s.1 a 1) v1) &&& (1 : Int32)) = 0 then (rv (0 : Int32) s) else (gA 8 v1 <| gA 8 v2 <| if (s.1 (a + 3) v1.toNatClampNeg) ≤ (s.1 (a + 2) v2.toNatClampNeg) then (rv (0 : Int32) s) else (q82_42 a s))))
theorem c82 {L : Nat} {xs : Nat → Int32} {a : Nat} (ma : a ∈ A6) {v1 : Int32} {v2 : Int32} {s : mS} {r : mQ} (h : q82 a v1 v2 s = some r) : ∀ d, 0 ≤ d → Cl L xs d 82 [.ref a, .int v1, .int v2] (hp s) (hr r) := by
  intro d hd
  show Ev L xs d 82 0 [(0, .ref a), (1, .int v1), (2, .int v2)] [] (hp s) (hr r)
  unfold q82 at h
  refine Ev.iload_n H82 i82_0 rfl ?_
  refine Ev.iload_n H82 i82_1 rfl ?_
  refine Rd.ic_eq H82 i82_2 (t := 46) (by decide) h (fun hc h => ?_) (fun hc h => ?_)
  · refine Ev.iconst H82 i82_46 kI_0 ?_
    exact Rd.ireturnK H82 i82_47 rfl (Or.inl rfl) h
  · refine Ev.aload_n H82 i82_5 rfl ?_
    refine Rd.getI H82 i82_6 (ob6 ma) rfl ?_
    refine Ev.iload_n H82 i82_9 rfl ?_
    refine Rd.ishr H82 i82_10 ?_
    refine Ev.iconst H82 i82_11 kI_1 ?_
    refine Ev.iand H82 i82_12 ?_
    refine Rd.if_ne H82 i82_13 (t := 42) (by decide) h (fun hc h => ?_) (fun hc h => ?_)
    · exact Ev.sub (l := []) rfl rfl mm_sub_n (t82_42 ma hd h)
    · refine Ev.aload_n H82 i82_16 rfl ?_
      refine Rd.getI H82 i82_17 (ob6 ma) rfl ?_
      refine Ev.iload_n H82 i82_20 rfl ?_
      refine Rd.ishr H82 i82_21 ?_
      refine Ev.iconst H82 i82_22 kI_1 ?_
      refine Ev.iand H82 i82_23 ?_
      refine Rd.if_eq H82 i82_24 (t := 46) (by decide) h (fun hc h => ?_) (fun hc h => ?_)
      · refine Ev.iconst H82 i82_46 kI_0 ?_
        exact Rd.ireturnK H82 i82_47 rfl (Or.inl rfl) h
      · refine Ev.aload_n H82 i82_27 rfl ?_
        refine Rd.getR H82 i82_28 (ob6 ma) rfl ?_
        refine Ev.iload_n H82 i82_31 rfl ?_
        refine Rd.iaload H82 i82_32 (ar6_3 ma) h (fun h => ?_)
        refine Ev.aload_n H82 i82_33 rfl ?_
        refine Rd.getR H82 i82_34 (ob6 ma) rfl ?_
        refine Ev.iload_n H82 i82_37 rfl ?_
        refine Rd.iaload H82 i82_38 (ar6_2 ma) h (fun h => ?_)
        refine Rd.ic_le H82 i82_39 (t := 46) (by decide) h (fun hc h => ?_) (fun hc h => ?_)
        · refine Ev.iconst H82 i82_46 kI_0 ?_
          exact Rd.ireturnK H82 i82_47 rfl (Or.inl rfl) h
        · exact Ev.sub (l := []) rfl rfl mm_sub_n (t82_42 ma hd h)
theorem i83_0 : mm_cd 83 0 = some (.iconst 0, 1, 0, 0) := rfl
theorem i83_1 : mm_cd 83 1 = some (.istore_n 3, 1, 0, 0) := rfl
theorem i83_2 : mm_cd 83 2 = some (.iload_n 3, 1, 0, 0) := rfl
theorem i83_3 : mm_cd 83 3 = some (.bipush 8, 2, 0, 0) := rfl
theorem i83_5 : mm_cd 83 5 = some (.if_icmp .ge 53, 3, 0, 0) := rfl
theorem i83_8 : mm_cd 83 8 = some (.aload_n 0, 1, 0, 0) := rfl
theorem i83_9 : mm_cd 83 9 = some (.getfield 40, 3, ((6 : Nat) : Int), 9) := rfl
theorem i83_12 : mm_cd 83 12 = some (.iload_n 3, 1, 0, 0) := rfl
theorem i83_13 : mm_cd 83 13 = some (.iaload, 1, 0, 0) := rfl
theorem i83_14 : mm_cd 83 14 = some (.iload_n 2, 1, 0, 0) := rfl
theorem i83_15 : mm_cd 83 15 = some (.iand, 1, 0, 0) := rfl
theorem i83_16 : mm_cd 83 16 = some (.ifCond .eq 36, 3, 0, 0) := rfl
theorem i83_19 : mm_cd 83 19 = some (.aload_n 0, 1, 0, 0) := rfl
theorem i83_20 : mm_cd 83 20 = some (.iload_n 3, 1, 0, 0) := rfl
theorem i83_21 : mm_cd 83 21 = some (.iload_n 1, 1, 0, 0) := rfl
theorem i83_22 : mm_cd 83 22 = some (.invokevirtual 88, 3, 0, 82) := rfl
theorem i83_25 : mm_cd 83 25 = some (.ifCond .eq 27, 3, 0, 0) := rfl
theorem i83_28 : mm_cd 83 28 = some (.aload_n 0, 1, 0, 0) := rfl
theorem i83_29 : mm_cd 83 29 = some (.getfield 49, 3, ((6 : Nat) : Int), 12) := rfl
theorem i83_32 : mm_cd 83 32 = some (.iload_n 1, 1, 0, 0) := rfl
theorem i83_33 : mm_cd 83 33 = some (.dup2, 1, 0, 0) := rfl
theorem i83_34 : mm_cd 83 34 = some (.iaload, 1, 0, 0) := rfl
theorem i83_35 : mm_cd 83 35 = some (.iconst 1, 1, 0, 0) := rfl
theorem i83_36 : mm_cd 83 36 = some (.iload_n 3, 1, 0, 0) := rfl
theorem i83_37 : mm_cd 83 37 = some (.ishl, 1, 0, 0) := rfl
theorem i83_38 : mm_cd 83 38 = some (.ior, 1, 0, 0) := rfl
theorem i83_39 : mm_cd 83 39 = some (.iastore, 1, 0, 0) := rfl
theorem i83_40 : mm_cd 83 40 = some (.aload_n 0, 1, 0, 0) := rfl
theorem i83_41 : mm_cd 83 41 = some (.getfield 52, 3, ((6 : Nat) : Int), 13) := rfl
theorem i83_44 : mm_cd 83 44 = some (.iload_n 3, 1, 0, 0) := rfl
theorem i83_45 : mm_cd 83 45 = some (.dup2, 1, 0, 0) := rfl
theorem i83_46 : mm_cd 83 46 = some (.iaload, 1, 0, 0) := rfl
theorem i83_47 : mm_cd 83 47 = some (.iconst 1, 1, 0, 0) := rfl
theorem i83_48 : mm_cd 83 48 = some (.iload_n 1, 1, 0, 0) := rfl
theorem i83_49 : mm_cd 83 49 = some (.ishl, 1, 0, 0) := rfl
theorem i83_50 : mm_cd 83 50 = some (.ior, 1, 0, 0) := rfl
theorem i83_51 : mm_cd 83 51 = some (.iastore, 1, 0, 0) := rfl
theorem i83_52 : mm_cd 83 52 = some (.iinc 3 1, 3, 0, 0) := rfl
theorem i83_55 : mm_cd 83 55 = some (.goto (-53), 3, 0, 0) := rfl
theorem i83_58 : mm_cd 83 58 = some (.return_, 1, 0, 0) := rfl
def q83_52 (k2 : Int32 → Int32 → Int32 → mS → Option mQ) (a : Nat) (v1 : Int32) (v2 : Int32) (v3 : Int32) (s : mS) : Option mQ := bx (v3 + (1 : Int32)) fun x1 => k2 v1 v2 x1 s
theorem t83_52 {L : Nat} {xs : Nat → Int32} {d : Nat} {k2 : Int32 → Int32 → Int32 → mS → Option mQ} {a : Nat} (hk2 : ∀ (v1 : Int32) (v2 : Int32) (v3 : Int32) (s : mS) (r : mQ), k2 v1 v2 v3 s = some r → Ev L xs d 83 2 [(0, .ref a), (1, .int v1), (2, .int v2), (3, .int v3)] [] (hp s) (hr r)) (ma : a ∈ A6) (hd : 1 ≤ d) {v1 : Int32} {v2 : Int32} {v3 : Int32} {s : mS} {r : mQ} (h : q83_52 k2 a v1 v2 v3 s = some r) : Ev L xs d 83 52 [(0, .ref a), (1, .int v1), (2, .int v2), (3, .int v3)] [] (hp s) (hr r) := by
  unfold q83_52 at h
  refine Rd.iinc H83 i83_52 (Nat.le_of_ble_eq_true rfl) rfl kI_1 (lv2 := fun x1 => [(3, .int x1), (0, .ref a), (1, .int v1), (2, .int v2)]) (fun _ => rfl) h (fun x1 h => ?_)
  refine Ev.goto H83 i83_55 (t := 2) (by decide) ?_
  exact Ev.sub (l := [(0, .ref a), (1, .int v1), (2, .int v2), (3, .int x1)]) rfl rfl (mm_sub_c rfl (mm_sub_c rfl (mm_sub_c rfl (mm_sub_c rfl mm_sub_n)))) (hk2 _ _ _ _ _ h)
def q83_2 (a : Nat) : Nat → Int32 → Int32 → Int32 → mS → Option mQ
  | 0, _, _, _, _ => none
  | n + 1, v1, v2, v3, s => if (8 : Int32) ≤ v3 then (ru s) else (gA 8 v3 <| if ((s.1 (a + 6) v3.toNatClampNeg) &&& v2) = 0 then (q83_52 (q83_2 a n) a v1 v2 v3 s) else (bN (q82 a v3 v1 s) fun x3 s2 => if x3 = 0 then (q83_52 (q83_2 a n) a v1 v2 v3 s2) else (gA 8 v1 <| gA 8 v1 <| sp (sI s2 (a + 9) v1.toNatClampNeg ((s2.1 (a + 9) v1.toNatClampNeg) ||| (shlI (1 : Int32) v3))) fun s4 => gA 8 v3 <| gA 8 v3 <| sp (sI s4 (a + 10) v3.toNatClampNeg ((s4.1 (a + 10) v3.toNatClampNeg) ||| (shlI (1 : Int32) v1))) fun s5 => q83_52 (q83_2 a n) a v1 v2 v3 s5)))
theorem t83_2 {L : Nat} {xs : Nat → Int32} {d : Nat} {a : Nat} (ma : a ∈ A6) (hd : 1 ≤ d) : ∀ (n : Nat) (v1 : Int32) (v2 : Int32) (v3 : Int32) (s : mS) (r : mQ), q83_2 a n v1 v2 v3 s = some r → Ev L xs d 83 2 [(0, .ref a), (1, .int v1), (2, .int v2), (3, .int v3)] [] (hp s) (hr r) := by
  intro n
  induction n with
  | zero => intro v1 v2 v3 s r h; rw [q83_2] at h; cases h
  | succ n ih =>
    intro v1 v2 v3 s r h
    rw [q83_2] at h
    refine Ev.iload_n H83 i83_2 rfl ?_
    refine Ev.bipush H83 i83_3 kB_8 ?_
    refine Rd.ic_ge H83 i83_5 (t := 58) (by decide) h (fun hc h => ?_) (fun hc h => ?_)
    · exact Rd.return_ H83 i83_58 rfl h
    · refine Ev.aload_n H83 i83_8 rfl ?_
      refine Rd.getR H83 i83_9 (ob6 ma) rfl ?_
      refine Ev.iload_n H83 i83_12 rfl ?_
      refine Rd.iaload H83 i83_13 (ar6_6 ma) h (fun h => ?_)
      refine Ev.iload_n H83 i83_14 rfl ?_
      refine Ev.iand H83 i83_15 ?_
      refine Rd.if_eq H83 i83_16 (t := 52) (by decide) h (fun hc h => ?_) (fun hc h => ?_)
      · exact Ev.sub (l := [(0, .ref a), (1, .int v1), (2, .int v2), (3, .int v3)]) rfl rfl (mm_sub_c rfl (mm_sub_c rfl (mm_sub_c rfl (mm_sub_c rfl mm_sub_n)))) (t83_52 (k2 := (q83_2 a n)) (fun _ _ _ _ _ h => ih _ _ _ _ _ h) ma hd h)
      · refine Ev.aload_n H83 i83_19 rfl ?_
        refine Ev.iload_n H83 i83_20 rfl ?_
        refine Ev.iload_n H83 i83_21 rfl ?_
        refine Rd.cV2vN H83 i83_22 cal82 (ob6 ma) (Nat.le_of_ble_eq_true rfl) (Nat.le_of_ble_eq_true rfl) (Nat.lt_of_lt_of_le (by decide) hd) (fun q hq => c82 ma hq) h (fun x3 s2 h => ?_)
        refine Rd.if_eq H83 i83_25 (t := 52) (by decide) h (fun hc h => ?_) (fun hc h => ?_)
        · exact Ev.sub (l := [(0, .ref a), (1, .int v1), (2, .int v2), (3, .int v3)]) rfl rfl (mm_sub_c rfl (mm_sub_c rfl (mm_sub_c rfl (mm_sub_c rfl mm_sub_n)))) (t83_52 (k2 := (q83_2 a n)) (fun _ _ _ _ _ h => ih _ _ _ _ _ h) ma hd h)
        · refine Ev.aload_n H83 i83_28 rfl ?_
          refine Rd.getR H83 i83_29 (ob6 ma) rfl ?_
          refine Ev.iload_n H83 i83_32 rfl ?_
          refine Ev.dup2 H83 i83_33 ⟨rfl, rfl⟩ ?_
          refine Rd.iaload H83 i83_34 (ar6_9 ma) h (fun h => ?_)
          refine Ev.iconst H83 i83_35 kI_1 ?_
          refine Ev.iload_n H83 i83_36 rfl ?_
          refine Rd.ishl H83 i83_37 ?_
          refine Ev.ior H83 i83_38 ?_
          refine Rd.iastore H83 i83_39 (ar6_9 ma) h (fun s4 h => ?_)
          refine Ev.aload_n H83 i83_40 rfl ?_
          refine Rd.getR H83 i83_41 (ob6 ma) rfl ?_
          refine Ev.iload_n H83 i83_44 rfl ?_
          refine Ev.dup2 H83 i83_45 ⟨rfl, rfl⟩ ?_
          refine Rd.iaload H83 i83_46 (ar6_10 ma) h (fun h => ?_)
          refine Ev.iconst H83 i83_47 kI_1 ?_
          refine Ev.iload_n H83 i83_48 rfl ?_
          refine Rd.ishl H83 i83_49 ?_
          refine Ev.ior H83 i83_50 ?_
          refine Rd.iastore H83 i83_51 (ar6_10 ma) h (fun s5 h => ?_)
          exact Ev.sub (l := [(0, .ref a), (1, .int v1), (2, .int v2), (3, .int v3)]) rfl rfl (mm_sub_c rfl (mm_sub_c rfl (mm_sub_c rfl (mm_sub_c rfl mm_sub_n)))) (t83_52 (k2 := (q83_2 a n)) (fun _ _ _ _ _ h => ih _ _ _ _ _ h) ma hd h)
/-- SerialGate$Slots.linkToWriters(II)V -/
def q83 (a : Nat) (v1 : Int32) (v2 : Int32) (s : mS) : Option mQ := q83_2 a 10000 v1 v2 (0 : Int32) s
theorem c83 {L : Nat} {xs : Nat → Int32} {a : Nat} (ma : a ∈ A6) {v1 : Int32} {v2 : Int32} {s : mS} {r : mQ} (h : q83 a v1 v2 s = some r) : ∀ d, 1 ≤ d → Cl L xs d 83 [.ref a, .int v1, .int v2] (hp s) (hr r) := by
  intro d hd
  show Ev L xs d 83 0 [(0, .ref a), (1, .int v1), (2, .int v2)] [] (hp s) (hr r)
  unfold q83 at h
  refine Ev.iconst H83 i83_0 kI_0 ?_
  refine Ev.istore_n H83 i83_1 (Nat.le_of_ble_eq_true rfl) (lv2 := [(3, .int (0 : Int32)), (0, .ref a), (1, .int v1), (2, .int v2)]) rfl ?_
  exact Ev.sub (l := [(0, .ref a), (1, .int v1), (2, .int v2), (3, .int (0 : Int32))]) rfl rfl (mm_sub_c rfl (mm_sub_c rfl (mm_sub_c rfl (mm_sub_c rfl mm_sub_n)))) (t83_2 ma hd 10000 _ _ _ _ _ h)
theorem i84_0 : mm_cd 84 0 = some (.iconst 0, 1, 0, 0) := rfl
theorem i84_1 : mm_cd 84 1 = some (.istore_n 3, 1, 0, 0) := rfl
theorem i84_2 : mm_cd 84 2 = some (.iload_n 3, 1, 0, 0) := rfl
theorem i84_3 : mm_cd 84 3 = some (.bipush 8, 2, 0, 0) := rfl
theorem i84_5 : mm_cd 84 5 = some (.if_icmp .ge 53, 3, 0, 0) := rfl
theorem i84_8 : mm_cd 84 8 = some (.aload_n 0, 1, 0, 0) := rfl
theorem i84_9 : mm_cd 84 9 = some (.getfield 37, 3, ((6 : Nat) : Int), 8) := rfl
theorem i84_12 : mm_cd 84 12 = some (.iload_n 3, 1, 0, 0) := rfl
theorem i84_13 : mm_cd 84 13 = some (.iaload, 1, 0, 0) := rfl
theorem i84_14 : mm_cd 84 14 = some (.iload_n 2, 1, 0, 0) := rfl
theorem i84_15 : mm_cd 84 15 = some (.iand, 1, 0, 0) := rfl
theorem i84_16 : mm_cd 84 16 = some (.ifCond .eq 36, 3, 0, 0) := rfl
theorem i84_19 : mm_cd 84 19 = some (.aload_n 0, 1, 0, 0) := rfl
theorem i84_20 : mm_cd 84 20 = some (.iload_n 3, 1, 0, 0) := rfl
theorem i84_21 : mm_cd 84 21 = some (.iload_n 1, 1, 0, 0) := rfl
theorem i84_22 : mm_cd 84 22 = some (.invokevirtual 88, 3, 0, 82) := rfl
theorem i84_25 : mm_cd 84 25 = some (.ifCond .eq 27, 3, 0, 0) := rfl
theorem i84_28 : mm_cd 84 28 = some (.aload_n 0, 1, 0, 0) := rfl
theorem i84_29 : mm_cd 84 29 = some (.getfield 49, 3, ((6 : Nat) : Int), 12) := rfl
theorem i84_32 : mm_cd 84 32 = some (.iload_n 3, 1, 0, 0) := rfl
theorem i84_33 : mm_cd 84 33 = some (.dup2, 1, 0, 0) := rfl
theorem i84_34 : mm_cd 84 34 = some (.iaload, 1, 0, 0) := rfl
theorem i84_35 : mm_cd 84 35 = some (.iconst 1, 1, 0, 0) := rfl
theorem i84_36 : mm_cd 84 36 = some (.iload_n 1, 1, 0, 0) := rfl
theorem i84_37 : mm_cd 84 37 = some (.ishl, 1, 0, 0) := rfl
theorem i84_38 : mm_cd 84 38 = some (.ior, 1, 0, 0) := rfl
theorem i84_39 : mm_cd 84 39 = some (.iastore, 1, 0, 0) := rfl
theorem i84_40 : mm_cd 84 40 = some (.aload_n 0, 1, 0, 0) := rfl
theorem i84_41 : mm_cd 84 41 = some (.getfield 52, 3, ((6 : Nat) : Int), 13) := rfl
theorem i84_44 : mm_cd 84 44 = some (.iload_n 1, 1, 0, 0) := rfl
theorem i84_45 : mm_cd 84 45 = some (.dup2, 1, 0, 0) := rfl
theorem i84_46 : mm_cd 84 46 = some (.iaload, 1, 0, 0) := rfl
theorem i84_47 : mm_cd 84 47 = some (.iconst 1, 1, 0, 0) := rfl
theorem i84_48 : mm_cd 84 48 = some (.iload_n 3, 1, 0, 0) := rfl
theorem i84_49 : mm_cd 84 49 = some (.ishl, 1, 0, 0) := rfl
theorem i84_50 : mm_cd 84 50 = some (.ior, 1, 0, 0) := rfl
theorem i84_51 : mm_cd 84 51 = some (.iastore, 1, 0, 0) := rfl
theorem i84_52 : mm_cd 84 52 = some (.iinc 3 1, 3, 0, 0) := rfl
theorem i84_55 : mm_cd 84 55 = some (.goto (-53), 3, 0, 0) := rfl
theorem i84_58 : mm_cd 84 58 = some (.return_, 1, 0, 0) := rfl
def q84_52 (k2 : Int32 → Int32 → Int32 → mS → Option mQ) (a : Nat) (v1 : Int32) (v2 : Int32) (v3 : Int32) (s : mS) : Option mQ := bx (v3 + (1 : Int32)) fun x1 => k2 v1 v2 x1 s
theorem t84_52 {L : Nat} {xs : Nat → Int32} {d : Nat} {k2 : Int32 → Int32 → Int32 → mS → Option mQ} {a : Nat} (hk2 : ∀ (v1 : Int32) (v2 : Int32) (v3 : Int32) (s : mS) (r : mQ), k2 v1 v2 v3 s = some r → Ev L xs d 84 2 [(0, .ref a), (1, .int v1), (2, .int v2), (3, .int v3)] [] (hp s) (hr r)) (ma : a ∈ A6) (hd : 1 ≤ d) {v1 : Int32} {v2 : Int32} {v3 : Int32} {s : mS} {r : mQ} (h : q84_52 k2 a v1 v2 v3 s = some r) : Ev L xs d 84 52 [(0, .ref a), (1, .int v1), (2, .int v2), (3, .int v3)] [] (hp s) (hr r) := by
  unfold q84_52 at h
  refine Rd.iinc H84 i84_52 (Nat.le_of_ble_eq_true rfl) rfl kI_1 (lv2 := fun x1 => [(3, .int x1), (0, .ref a), (1, .int v1), (2, .int v2)]) (fun _ => rfl) h (fun x1 h => ?_)
  refine Ev.goto H84 i84_55 (t := 2) (by decide) ?_
  exact Ev.sub (l := [(0, .ref a), (1, .int v1), (2, .int v2), (3, .int x1)]) rfl rfl (mm_sub_c rfl (mm_sub_c rfl (mm_sub_c rfl (mm_sub_c rfl mm_sub_n)))) (hk2 _ _ _ _ _ h)
def q84_2 (a : Nat) : Nat → Int32 → Int32 → Int32 → mS → Option mQ
  | 0, _, _, _, _ => none
  | n + 1, v1, v2, v3, s => if (8 : Int32) ≤ v3 then (ru s) else (gA 8 v3 <| if ((s.1 (a + 5) v3.toNatClampNeg) &&& v2) = 0 then (q84_52 (q84_2 a n) a v1 v2 v3 s) else (bN (q82 a v3 v1 s) fun x3 s2 => if x3 = 0 then (q84_52 (q84_2 a n) a v1 v2 v3 s2) else (gA 8 v3 <| gA 8 v3 <| sp (sI s2 (a + 9) v3.toNatClampNeg ((s2.1 (a + 9) v3.toNatClampNeg) ||| (shlI (1 : Int32) v1))) fun s4 => gA 8 v1 <| gA 8 v1 <| sp (sI s4 (a + 10) v1.toNatClampNeg ((s4.1 (a + 10) v1.toNatClampNeg) ||| (shlI (1 : Int32) v3))) fun s5 => q84_52 (q84_2 a n) a v1 v2 v3 s5)))
theorem t84_2 {L : Nat} {xs : Nat → Int32} {d : Nat} {a : Nat} (ma : a ∈ A6) (hd : 1 ≤ d) : ∀ (n : Nat) (v1 : Int32) (v2 : Int32) (v3 : Int32) (s : mS) (r : mQ), q84_2 a n v1 v2 v3 s = some r → Ev L xs d 84 2 [(0, .ref a), (1, .int v1), (2, .int v2), (3, .int v3)] [] (hp s) (hr r) := by
  intro n
  induction n with
  | zero => intro v1 v2 v3 s r h; rw [q84_2] at h; cases h
  | succ n ih =>
    intro v1 v2 v3 s r h
    rw [q84_2] at h
    refine Ev.iload_n H84 i84_2 rfl ?_
    refine Ev.bipush H84 i84_3 kB_8 ?_
    refine Rd.ic_ge H84 i84_5 (t := 58) (by decide) h (fun hc h => ?_) (fun hc h => ?_)
    · exact Rd.return_ H84 i84_58 rfl h
    · refine Ev.aload_n H84 i84_8 rfl ?_
      refine Rd.getR H84 i84_9 (ob6 ma) rfl ?_
      refine Ev.iload_n H84 i84_12 rfl ?_
      refine Rd.iaload H84 i84_13 (ar6_5 ma) h (fun h => ?_)
      refine Ev.iload_n H84 i84_14 rfl ?_
      refine Ev.iand H84 i84_15 ?_
      refine Rd.if_eq H84 i84_16 (t := 52) (by decide) h (fun hc h => ?_) (fun hc h => ?_)
      · exact Ev.sub (l := [(0, .ref a), (1, .int v1), (2, .int v2), (3, .int v3)]) rfl rfl (mm_sub_c rfl (mm_sub_c rfl (mm_sub_c rfl (mm_sub_c rfl mm_sub_n)))) (t84_52 (k2 := (q84_2 a n)) (fun _ _ _ _ _ h => ih _ _ _ _ _ h) ma hd h)
      · refine Ev.aload_n H84 i84_19 rfl ?_
        refine Ev.iload_n H84 i84_20 rfl ?_
        refine Ev.iload_n H84 i84_21 rfl ?_
        refine Rd.cV2vN H84 i84_22 cal82 (ob6 ma) (Nat.le_of_ble_eq_true rfl) (Nat.le_of_ble_eq_true rfl) (Nat.lt_of_lt_of_le (by decide) hd) (fun q hq => c82 ma hq) h (fun x3 s2 h => ?_)
        refine Rd.if_eq H84 i84_25 (t := 52) (by decide) h (fun hc h => ?_) (fun hc h => ?_)
        · exact Ev.sub (l := [(0, .ref a), (1, .int v1), (2, .int v2), (3, .int v3)]) rfl rfl (mm_sub_c rfl (mm_sub_c rfl (mm_sub_c rfl (mm_sub_c rfl mm_sub_n)))) (t84_52 (k2 := (q84_2 a n)) (fun _ _ _ _ _ h => ih _ _ _ _ _ h) ma hd h)
        · refine Ev.aload_n H84 i84_28 rfl ?_
          refine Rd.getR H84 i84_29 (ob6 ma) rfl ?_
          refine Ev.iload_n H84 i84_32 rfl ?_
          refine Ev.dup2 H84 i84_33 ⟨rfl, rfl⟩ ?_
          refine Rd.iaload H84 i84_34 (ar6_9 ma) h (fun h => ?_)
          refine Ev.iconst H84 i84_35 kI_1 ?_
          refine Ev.iload_n H84 i84_36 rfl ?_
          refine Rd.ishl H84 i84_37 ?_
          refine Ev.ior H84 i84_38 ?_
          refine Rd.iastore H84 i84_39 (ar6_9 ma) h (fun s4 h => ?_)
          refine Ev.aload_n H84 i84_40 rfl ?_
          refine Rd.getR H84 i84_41 (ob6 ma) rfl ?_
          refine Ev.iload_n H84 i84_44 rfl ?_
          refine Ev.dup2 H84 i84_45 ⟨rfl, rfl⟩ ?_
          refine Rd.iaload H84 i84_46 (ar6_10 ma) h (fun h => ?_)
          refine Ev.iconst H84 i84_47 kI_1 ?_
          refine Ev.iload_n H84 i84_48 rfl ?_
          refine Rd.ishl H84 i84_49 ?_
          refine Ev.ior H84 i84_50 ?_
          refine Rd.iastore H84 i84_51 (ar6_10 ma) h (fun s5 h => ?_)
          exact Ev.sub (l := [(0, .ref a), (1, .int v1), (2, .int v2), (3, .int v3)]) rfl rfl (mm_sub_c rfl (mm_sub_c rfl (mm_sub_c rfl (mm_sub_c rfl mm_sub_n)))) (t84_52 (k2 := (q84_2 a n)) (fun _ _ _ _ _ h => ih _ _ _ _ _ h) ma hd h)
/-- SerialGate$Slots.linkFromReaders(II)V -/
def q84 (a : Nat) (v1 : Int32) (v2 : Int32) (s : mS) : Option mQ := q84_2 a 10000 v1 v2 (0 : Int32) s
theorem c84 {L : Nat} {xs : Nat → Int32} {a : Nat} (ma : a ∈ A6) {v1 : Int32} {v2 : Int32} {s : mS} {r : mQ} (h : q84 a v1 v2 s = some r) : ∀ d, 1 ≤ d → Cl L xs d 84 [.ref a, .int v1, .int v2] (hp s) (hr r) := by
  intro d hd
  show Ev L xs d 84 0 [(0, .ref a), (1, .int v1), (2, .int v2)] [] (hp s) (hr r)
  unfold q84 at h
  refine Ev.iconst H84 i84_0 kI_0 ?_
  refine Ev.istore_n H84 i84_1 (Nat.le_of_ble_eq_true rfl) (lv2 := [(3, .int (0 : Int32)), (0, .ref a), (1, .int v1), (2, .int v2)]) rfl ?_
  exact Ev.sub (l := [(0, .ref a), (1, .int v1), (2, .int v2), (3, .int (0 : Int32))]) rfl rfl (mm_sub_c rfl (mm_sub_c rfl (mm_sub_c rfl (mm_sub_c rfl mm_sub_n)))) (t84_2 ma hd 10000 _ _ _ _ _ h)
theorem i85_0 : mm_cd 85 0 = some (.aload_n 0, 1, 0, 0) := rfl
theorem i85_1 : mm_cd 85 1 = some (.iload_n 1, 1, 0, 0) := rfl
theorem i85_2 : mm_cd 85 2 = some (.invokevirtual 92, 3, 0, 76) := rfl
theorem i85_5 : mm_cd 85 5 = some (.istore_n 2, 1, 0, 0) := rfl
theorem i85_6 : mm_cd 85 6 = some (.aload_n 0, 1, 0, 0) := rfl
theorem i85_7 : mm_cd 85 7 = some (.getfield 18, 3, ((6 : Nat) : Int), 2) := rfl
theorem i85_10 : mm_cd 85 10 = some (.iload_n 1, 1, 0, 0) := rfl
theorem i85_11 : mm_cd 85 11 = some (.ishr, 1, 0, 0) := rfl
theorem i85_12 : mm_cd 85 12 = some (.iconst 1, 1, 0, 0) := rfl
theorem i85_13 : mm_cd 85 13 = some (.iand, 1, 0, 0) := rfl
theorem i85_14 : mm_cd 85 14 = some (.ifCond .ne 7, 3, 0, 0) := rfl
theorem i85_17 : mm_cd 85 17 = some (.iload_n 2, 1, 0, 0) := rfl
theorem i85_18 : mm_cd 85 18 = some (.ifCond .ne 4, 3, 0, 0) := rfl
theorem i85_21 : mm_cd 85 21 = some (.return_, 1, 0, 0) := rfl
theorem i85_22 : mm_cd 85 22 = some (.aload_n 0, 1, 0, 0) := rfl
theorem i85_23 : mm_cd 85 23 = some (.getfield 9, 3, ((6 : Nat) : Int), 0) := rfl
theorem i85_26 : mm_cd 85 26 = some (.aload_n 0, 1, 0, 0) := rfl
theorem i85_27 : mm_cd 85 27 = some (.getfield 18, 3, ((6 : Nat) : Int), 2) := rfl
theorem i85_30 : mm_cd 85 30 = some (.iand, 1, 0, 0) := rfl
theorem i85_31 : mm_cd 85 31 = some (.istore_n 3, 1, 0, 0) := rfl
theorem i85_32 : mm_cd 85 32 = some (.iconst 0, 1, 0, 0) := rfl
theorem i85_33 : mm_cd 85 33 = some (.istore 4, 2, 0, 0) := rfl
theorem i85_35 : mm_cd 85 35 = some (.iload 4, 2, 0, 0) := rfl
theorem i85_37 : mm_cd 85 37 = some (.bipush 8, 2, 0, 0) := rfl
theorem i85_39 : mm_cd 85 39 = some (.if_icmp .ge 58, 3, 0, 0) := rfl
theorem i85_42 : mm_cd 85 42 = some (.iload_n 3, 1, 0, 0) := rfl
theorem i85_43 : mm_cd 85 43 = some (.iload 4, 2, 0, 0) := rfl
theorem i85_45 : mm_cd 85 45 = some (.ishr, 1, 0, 0) := rfl
theorem i85_46 : mm_cd 85 46 = some (.iconst 1, 1, 0, 0) := rfl
theorem i85_47 : mm_cd 85 47 = some (.iand, 1, 0, 0) := rfl
theorem i85_48 : mm_cd 85 48 = some (.ifCond .eq 43, 3, 0, 0) := rfl
theorem i85_51 : mm_cd 85 51 = some (.aload_n 0, 1, 0, 0) := rfl
theorem i85_52 : mm_cd 85 52 = some (.getfield 28, 3, ((6 : Nat) : Int), 5) := rfl
theorem i85_55 : mm_cd 85 55 = some (.iload 4, 2, 0, 0) := rfl
theorem i85_57 : mm_cd 85 57 = some (.iaload, 1, 0, 0) := rfl
theorem i85_58 : mm_cd 85 58 = some (.iload_n 2, 1, 0, 0) := rfl
theorem i85_59 : mm_cd 85 59 = some (.if_icmp .le 32, 3, 0, 0) := rfl
theorem i85_62 : mm_cd 85 62 = some (.aload_n 0, 1, 0, 0) := rfl
theorem i85_63 : mm_cd 85 63 = some (.getfield 28, 3, ((6 : Nat) : Int), 5) := rfl
theorem i85_66 : mm_cd 85 66 = some (.iload 4, 2, 0, 0) := rfl
theorem i85_68 : mm_cd 85 68 = some (.iaload, 1, 0, 0) := rfl
theorem i85_69 : mm_cd 85 69 = some (.aload_n 0, 1, 0, 0) := rfl
theorem i85_70 : mm_cd 85 70 = some (.getfield 28, 3, ((6 : Nat) : Int), 5) := rfl
theorem i85_73 : mm_cd 85 73 = some (.iload_n 1, 1, 0, 0) := rfl
theorem i85_74 : mm_cd 85 74 = some (.iaload, 1, 0, 0) := rfl
theorem i85_75 : mm_cd 85 75 = some (.if_icmp .le 16, 3, 0, 0) := rfl
theorem i85_78 : mm_cd 85 78 = some (.aload_n 0, 1, 0, 0) := rfl
theorem i85_79 : mm_cd 85 79 = some (.dup, 1, 0, 0) := rfl
theorem i85_80 : mm_cd 85 80 = some (.getfield 21, 3, ((6 : Nat) : Int), 3) := rfl
theorem i85_83 : mm_cd 85 83 = some (.iconst 1, 1, 0, 0) := rfl
theorem i85_84 : mm_cd 85 84 = some (.iload 4, 2, 0, 0) := rfl
theorem i85_86 : mm_cd 85 86 = some (.ishl, 1, 0, 0) := rfl
theorem i85_87 : mm_cd 85 87 = some (.ior, 1, 0, 0) := rfl
theorem i85_88 : mm_cd 85 88 = some (.putfield 21, 3, ((6 : Nat) : Int), 3) := rfl
theorem i85_91 : mm_cd 85 91 = some (.iinc 4 1, 3, 0, 0) := rfl
theorem i85_94 : mm_cd 85 94 = some (.goto (-59), 3, 0, 0) := rfl
theorem i85_97 : mm_cd 85 97 = some (.return_, 1, 0, 0) := rfl
def q85_91 (k35 : Int32 → Int32 → Int32 → Int32 → mS → Option mQ) (a : Nat) (v1 : Int32) (v2 : Int32) (v3 : Int32) (v4 : Int32) (s : mS) : Option mQ := bx (v4 + (1 : Int32)) fun x1 => k35 v1 v2 v3 x1 s
theorem t85_91 {L : Nat} {xs : Nat → Int32} {d : Nat} {k35 : Int32 → Int32 → Int32 → Int32 → mS → Option mQ} {a : Nat} (hk35 : ∀ (v1 : Int32) (v2 : Int32) (v3 : Int32) (v4 : Int32) (s : mS) (r : mQ), k35 v1 v2 v3 v4 s = some r → Ev L xs d 85 35 [(0, .ref a), (1, .int v1), (2, .int v2), (3, .int v3), (4, .int v4)] [] (hp s) (hr r)) (ma : a ∈ A6) (hd : 1 ≤ d) {v1 : Int32} {v2 : Int32} {v3 : Int32} {v4 : Int32} {s : mS} {r : mQ} (h : q85_91 k35 a v1 v2 v3 v4 s = some r) : Ev L xs d 85 91 [(0, .ref a), (1, .int v1), (2, .int v2), (3, .int v3), (4, .int v4)] [] (hp s) (hr r) := by
  unfold q85_91 at h
  refine Rd.iinc H85 i85_91 (Nat.le_of_ble_eq_true rfl) rfl kI_1 (lv2 := fun x1 => [(4, .int x1), (0, .ref a), (1, .int v1), (2, .int v2), (3, .int v3)]) (fun _ => rfl) h (fun x1 h => ?_)
  refine Ev.goto H85 i85_94 (t := 35) (by decide) ?_
  exact Ev.sub (l := [(0, .ref a), (1, .int v1), (2, .int v2), (3, .int v3), (4, .int x1)]) rfl rfl (mm_sub_c rfl (mm_sub_c rfl (mm_sub_c rfl (mm_sub_c rfl (mm_sub_c rfl mm_sub_n))))) (hk35 _ _ _ _ _ _ h)
def q85_35 (a : Nat) : Nat → Int32 → Int32 → Int32 → Int32 → mS → Option mQ
  | 0, _, _, _, _, _ => none
  | n + 1, v1, v2, v3, v4, s => if (8 : Int32) ≤ v4 then (ru s) else (if ((shrI v3 v4) &&& (1 : Int32)) = 0 then (q85_91 (q85_35 a n) a v1 v2 v3 v4 s) else (gA 8 v4 <| if (s.1 (a + 2) v4.toNatClampNeg) ≤ v2 then (q85_91 (q85_35 a n) a v1 v2 v3 v4 s) else (gA 8 v4 <| gA 8 v1 <| if (s.1 (a + 2) v4.toNatClampNeg) ≤ (s.1 (a + 2) v1.toNatClampNeg) then (q85_91 (q85_35 a n) a v1 v2 v3 v4 s) else (sp (sI s a 3 ((s.1 a 3) ||| (shlI (1 : Int32) v4))) fun s2 => q85_91 (q85_35 a n) a v1 v2 v3 v4 s2))))
theorem t85_35 {L : Nat} {xs : Nat → Int32} {d : Nat} {a : Nat} (ma : a ∈ A6) (hd : 1 ≤ d) : ∀ (n : Nat) (v1 : Int32) (v2 : Int32) (v3 : Int32) (v4 : Int32) (s : mS) (r : mQ), q85_35 a n v1 v2 v3 v4 s = some r → Ev L xs d 85 35 [(0, .ref a), (1, .int v1), (2, .int v2), (3, .int v3), (4, .int v4)] [] (hp s) (hr r) := by
  intro n
  induction n with
  | zero => intro v1 v2 v3 v4 s r h; rw [q85_35] at h; cases h
  | succ n ih =>
    intro v1 v2 v3 v4 s r h
    rw [q85_35] at h
    refine Ev.iload H85 i85_35 rfl ?_
    refine Ev.bipush H85 i85_37 kB_8 ?_
    refine Rd.ic_ge H85 i85_39 (t := 97) (by decide) h (fun hc h => ?_) (fun hc h => ?_)
    · exact Rd.return_ H85 i85_97 rfl h
    · refine Ev.iload_n H85 i85_42 rfl ?_
      refine Ev.iload H85 i85_43 rfl ?_
      refine Rd.ishr H85 i85_45 ?_
      refine Ev.iconst H85 i85_46 kI_1 ?_
      refine Ev.iand H85 i85_47 ?_
      refine Rd.if_eq H85 i85_48 (t := 91) (by decide) h (fun hc h => ?_) (fun hc h => ?_)
      · exact Ev.sub (l := [(0, .ref a), (1, .int v1), (2, .int v2), (3, .int v3), (4, .int v4)]) rfl rfl (mm_sub_c rfl (mm_sub_c rfl (mm_sub_c rfl (mm_sub_c rfl (mm_sub_c rfl mm_sub_n))))) (t85_91 (k35 := (q85_35 a n)) (fun _ _ _ _ _ _ h => ih _ _ _ _ _ _ h) ma hd h)
      · refine Ev.aload_n H85 i85_51 rfl ?_
        refine Rd.getR H85 i85_52 (ob6 ma) rfl ?_
        refine Ev.iload H85 i85_55 rfl ?_
        refine Rd.iaload H85 i85_57 (ar6_2 ma) h (fun h => ?_)
        refine Ev.iload_n H85 i85_58 rfl ?_
        refine Rd.ic_le H85 i85_59 (t := 91) (by decide) h (fun hc h => ?_) (fun hc h => ?_)
        · exact Ev.sub (l := [(0, .ref a), (1, .int v1), (2, .int v2), (3, .int v3), (4, .int v4)]) rfl rfl (mm_sub_c rfl (mm_sub_c rfl (mm_sub_c rfl (mm_sub_c rfl (mm_sub_c rfl mm_sub_n))))) (t85_91 (k35 := (q85_35 a n)) (fun _ _ _ _ _ _ h => ih _ _ _ _ _ _ h) ma hd h)
        · refine Ev.aload_n H85 i85_62 rfl ?_
          refine Rd.getR H85 i85_63 (ob6 ma) rfl ?_
          refine Ev.iload H85 i85_66 rfl ?_
          refine Rd.iaload H85 i85_68 (ar6_2 ma) h (fun h => ?_)
          refine Ev.aload_n H85 i85_69 rfl ?_
          refine Rd.getR H85 i85_70 (ob6 ma) rfl ?_
          refine Ev.iload_n H85 i85_73 rfl ?_
          refine Rd.iaload H85 i85_74 (ar6_2 ma) h (fun h => ?_)
          refine Rd.ic_le H85 i85_75 (t := 91) (by decide) h (fun hc h => ?_) (fun hc h => ?_)
          · exact Ev.sub (l := [(0, .ref a), (1, .int v1), (2, .int v2), (3, .int v3), (4, .int v4)]) rfl rfl (mm_sub_c rfl (mm_sub_c rfl (mm_sub_c rfl (mm_sub_c rfl (mm_sub_c rfl mm_sub_n))))) (t85_91 (k35 := (q85_35 a n)) (fun _ _ _ _ _ _ h => ih _ _ _ _ _ _ h) ma hd h)
          · refine Ev.aload_n H85 i85_78 rfl ?_
            refine Ev.dup H85 i85_79 rfl ?_
            refine Rd.getI H85 i85_80 (ob6 ma) rfl ?_
            refine Ev.iconst H85 i85_83 kI_1 ?_
            refine Ev.iload H85 i85_84 rfl ?_
            refine Rd.ishl H85 i85_86 ?_
            refine Ev.ior H85 i85_87 ?_
            refine Rd.putI H85 i85_88 (ob6 ma) rfl ty6_3.1 ty6_3.2 h (fun s2 h => ?_)
            exact Ev.sub (l := [(0, .ref a), (1, .int v1), (2, .int v2), (3, .int v3), (4, .int v4)]) rfl rfl (mm_sub_c rfl (mm_sub_c rfl (mm_sub_c rfl (mm_sub_c rfl (mm_sub_c rfl mm_sub_n))))) (t85_91 (k35 := (q85_35 a n)) (fun _ _ _ _ _ _ h => ih _ _ _ _ _ _ h) ma hd h)
/-- SerialGate$Slots.spoilReaders(I)V -/
def q85 (a : Nat) (v1 : Int32) (s : mS) : Option mQ := bN (q76 a v1 s) fun x4 s3 => if ¬ ((shrI (s3.1 a 2) v1) &&& (1 : Int32)) = 0 then (ru s3) else (if ¬ x4 = 0 then (bx ((s3.1 a 0) &&& (s3.1 a 2)) fun x5 => q85_35 a 10000 v1 x4 x5 (0 : Int32) s3) else (ru s3))
theorem c85 {L : Nat} {xs : Nat → Int32} {a : Nat} (ma : a ∈ A6) {v1 : Int32} {s : mS} {r : mQ} (h : q85 a v1 s = some r) : ∀ d, 1 ≤ d → Cl L xs d 85 [.ref a, .int v1] (hp s) (hr r) := by
  intro d hd
  show Ev L xs d 85 0 [(0, .ref a), (1, .int v1)] [] (hp s) (hr r)
  unfold q85 at h
  refine Ev.aload_n H85 i85_0 rfl ?_
  refine Ev.iload_n H85 i85_1 rfl ?_
  refine Rd.cV1vN H85 i85_2 cal76 (ob6 ma) (Nat.le_of_ble_eq_true rfl) (Nat.le_of_ble_eq_true rfl) (Nat.lt_of_lt_of_le (by decide) hd) (fun q hq => c76 ma hq) h (fun x4 s3 h => ?_)
  refine Ev.istore_n H85 i85_5 (Nat.le_of_ble_eq_true rfl) (lv2 := [(2, .int x4), (0, .ref a), (1, .int v1)]) rfl ?_
  refine Ev.aload_n H85 i85_6 rfl ?_
  refine Rd.getI H85 i85_7 (ob6 ma) rfl ?_
  refine Ev.iload_n H85 i85_10 rfl ?_
  refine Rd.ishr H85 i85_11 ?_
  refine Ev.iconst H85 i85_12 kI_1 ?_
  refine Ev.iand H85 i85_13 ?_
  refine Rd.if_ne H85 i85_14 (t := 21) (by decide) h (fun hc h => ?_) (fun hc h => ?_)
  · exact Rd.return_ H85 i85_21 rfl h
  · refine Ev.iload_n H85 i85_17 rfl ?_
    refine Rd.if_ne H85 i85_18 (t := 22) (by decide) h (fun hc h => ?_) (fun hc h => ?_)
    · refine Ev.aload_n H85 i85_22 rfl ?_
      refine Rd.getI H85 i85_23 (ob6 ma) rfl ?_
      refine Ev.aload_n H85 i85_26 rfl ?_
      refine Rd.getI H85 i85_27 (ob6 ma) rfl ?_
      refine Ev.iand H85 i85_30 ?_
      refine Rd.istore_n H85 i85_31 (Nat.le_of_ble_eq_true rfl) (lv2 := fun x5 => [(3, .int x5), (2, .int x4), (0, .ref a), (1, .int v1)]) (fun _ => rfl) h (fun x5 h => ?_)
      refine Ev.iconst H85 i85_32 kI_0 ?_
      refine Ev.istore H85 i85_33 (Nat.le_of_ble_eq_true rfl) (lv2 := [(4, .int (0 : Int32)), (3, .int x5), (2, .int x4), (0, .ref a), (1, .int v1)]) rfl ?_
      exact Ev.sub (l := [(0, .ref a), (1, .int v1), (2, .int x4), (3, .int x5), (4, .int (0 : Int32))]) rfl rfl (mm_sub_c rfl (mm_sub_c rfl (mm_sub_c rfl (mm_sub_c rfl (mm_sub_c rfl mm_sub_n))))) (t85_35 ma hd 10000 _ _ _ _ _ _ h)
    · exact Rd.return_ H85 i85_21 rfl h
theorem i88_0 : mm_cd 88 0 = some (.aload_n 0, 1, 0, 0) := rfl
theorem i88_1 : mm_cd 88 1 = some (.getfield 15, 3, ((6 : Nat) : Int), 1) := rfl
theorem i88_4 : mm_cd 88 4 = some (.iload_n 1, 1, 0, 0) := rfl
theorem i88_5 : mm_cd 88 5 = some (.ishr, 1, 0, 0) := rfl
theorem i88_6 : mm_cd 88 6 = some (.iconst 1, 1, 0, 0) := rfl
theorem i88_7 : mm_cd 88 7 = some (.iand, 1, 0, 0) := rfl
theorem i88_8 : mm_cd 88 8 = some (.ifCond .eq 15, 3, 0, 0) := rfl
theorem i88_11 : mm_cd 88 11 = some (.iload_n 2, 1, 0, 0) := rfl
theorem i88_12 : mm_cd 88 12 = some (.aload_n 0, 1, 0, 0) := rfl
theorem i88_13 : mm_cd 88 13 = some (.getfield 31, 3, ((6 : Nat) : Int), 6) := rfl
theorem i88_16 : mm_cd 88 16 = some (.iload_n 1, 1, 0, 0) := rfl
theorem i88_17 : mm_cd 88 17 = some (.iaload, 1, 0, 0) := rfl
theorem i88_18 : mm_cd 88 18 = some (.if_icmp .le 5, 3, 0, 0) := rfl
theorem i88_21 : mm_cd 88 21 = some (.iconst 0, 1, 0, 0) := rfl
theorem i88_22 : mm_cd 88 22 = some (.ireturn, 1, 0, 0) := rfl
theorem i88_23 : mm_cd 88 23 = some (.aload_n 0, 1, 0, 0) := rfl
theorem i88_24 : mm_cd 88 24 = some (.getfield 18, 3, ((6 : Nat) : Int), 2) := rfl
theorem i88_27 : mm_cd 88 27 = some (.iload_n 1, 1, 0, 0) := rfl
theorem i88_28 : mm_cd 88 28 = some (.ishr, 1, 0, 0) := rfl
theorem i88_29 : mm_cd 88 29 = some (.iconst 1, 1, 0, 0) := rfl
theorem i88_30 : mm_cd 88 30 = some (.iand, 1, 0, 0) := rfl
theorem i88_31 : mm_cd 88 31 = some (.ifCond .eq 13, 3, 0, 0) := rfl
theorem i88_34 : mm_cd 88 34 = some (.iload_n 2, 1, 0, 0) := rfl
theorem i88_35 : mm_cd 88 35 = some (.aload_n 0, 1, 0, 0) := rfl
theorem i88_36 : mm_cd 88 36 = some (.getfield 28, 3, ((6 : Nat) : Int), 5) := rfl
theorem i88_39 : mm_cd 88 39 = some (.iload_n 1, 1, 0, 0) := rfl
theorem i88_40 : mm_cd 88 40 = some (.iaload, 1, 0, 0) := rfl
theorem i88_41 : mm_cd 88 41 = some (.if_icmp .ge 7, 3, 0, 0) := rfl
theorem i88_44 : mm_cd 88 44 = some (.iconst 1, 1, 0, 0) := rfl
theorem i88_45 : mm_cd 88 45 = some (.goto 4, 3, 0, 0) := rfl
theorem i88_48 : mm_cd 88 48 = some (.iconst 0, 1, 0, 0) := rfl
theorem i88_49 : mm_cd 88 49 = some (.ireturn, 1, 0, 0) := rfl
def q88_44 (a : Nat) (s : mS) : Option mQ := rv (1 : Int32) s
theorem t88_44 {L : Nat} {xs : Nat → Int32} {d : Nat} {a : Nat} (ma : a ∈ A6) (hd : 0 ≤ d) {s : mS} {r : mQ} (h : q88_44 a s = some r) : Ev L xs d 88 44 [] [] (hp s) (hr r) := by
  unfold q88_44 at h
  refine Ev.iconst H88 i88_44 kI_1 ?_
  refine Ev.goto H88 i88_45 (t := 49) (by decide) ?_
  exact Rd.ireturnK H88 i88_49 rfl (Or.inr rfl) h
def q88_23 (a : Nat) (v1 : Int32) (v2 : Int32) (s : mS) : Option mQ := if ((shrI (s.1 a 2) v1) &&& (1 : Int32)) = 0 then (q88_44 a s) else (gA 8 v1 <| if (s.1 (a + 2) v1.toNatClampNeg) ≤ v2 then (rv (0 : Int32) s) else (q88_44 a s))
theorem t88_23 {L : Nat} {xs : Nat → Int32} {d : Nat} {a : Nat} (ma : a ∈ A6) (hd : 0 ≤ d) {v1 : Int32} {v2 : Int32} {s : mS} {r : mQ} (h : q88_23 a v1 v2 s = some r) : Ev L xs d 88 23 [(0, .ref a), (1, .int v1), (2, .int v2)] [] (hp s) (hr r) := by
  unfold q88_23 at h
  refine Ev.aload_n H88 i88_23 rfl ?_
  refine Rd.getI H88 i88_24 (ob6 ma) rfl ?_
  refine Ev.iload_n H88 i88_27 rfl ?_
  refine Rd.ishr H88 i88_28 ?_
  refine Ev.iconst H88 i88_29 kI_1 ?_
  refine Ev.iand H88 i88_30 ?_
  refine Rd.if_eq H88 i88_31 (t := 44) (by decide) h (fun hc h => ?_) (fun hc h => ?_)
  · exact Ev.sub (l := []) rfl rfl mm_sub_n (t88_44 ma hd h)
  · refine Ev.iload_n H88 i88_34 rfl ?_
    refine Ev.aload_n H88 i88_35 rfl ?_
    refine Rd.getR H88 i88_36 (ob6 ma) rfl ?_
    refine Ev.iload_n H88 i88_39 rfl ?_
    refine Rd.iaload H88 i88_40 (ar6_2 ma) h (fun h => ?_)
    refine Rd.ic_ge H88 i88_41 (t := 48) (by decide) h (fun hc h => ?_) (fun hc h => ?_)
    · refine Ev.iconst H88 i88_48 kI_0 ?_
      exact Rd.ireturnK H88 i88_49 rfl (Or.inl rfl) h
    · exact Ev.sub (l := []) rfl rfl mm_sub_n (t88_44 ma hd h)
/-- SerialGate$Slots.isEndangered(II)Z -/
def q88 (a : Nat) (v1 : Int32) (v2 : Int32) (s : mS) : Option mQ := if ((shrI (s.1 a 1) v1) &&& (1 : Int32)) = 0 then (q88_23 a v1 v2 s) else (gA 8 v1 <| if v2 ≤ (s.1 (a + 3) v1.toNatClampNeg) then (q88_23 a v1 v2 s) else (rv (0 : Int32) s))
theorem c88 {L : Nat} {xs : Nat → Int32} {a : Nat} (ma : a ∈ A6) {v1 : Int32} {v2 : Int32} {s : mS} {r : mQ} (h : q88 a v1 v2 s = some r) : ∀ d, 0 ≤ d → Cl L xs d 88 [.ref a, .int v1, .int v2] (hp s) (hr r) := by
  intro d hd
  show Ev L xs d 88 0 [(0, .ref a), (1, .int v1), (2, .int v2)] [] (hp s) (hr r)
  unfold q88 at h
  refine Ev.aload_n H88 i88_0 rfl ?_
  refine Rd.getI H88 i88_1 (ob6 ma) rfl ?_
  refine Ev.iload_n H88 i88_4 rfl ?_
  refine Rd.ishr H88 i88_5 ?_
  refine Ev.iconst H88 i88_6 kI_1 ?_
  refine Ev.iand H88 i88_7 ?_
  refine Rd.if_eq H88 i88_8 (t := 23) (by decide) h (fun hc h => ?_) (fun hc h => ?_)
  · exact Ev.sub (l := [(0, .ref a), (1, .int v1), (2, .int v2)]) rfl rfl (mm_sub_c rfl (mm_sub_c rfl (mm_sub_c rfl mm_sub_n))) (t88_23 ma hd h)
  · refine Ev.iload_n H88 i88_11 rfl ?_
    refine Ev.aload_n H88 i88_12 rfl ?_
    refine Rd.getR H88 i88_13 (ob6 ma) rfl ?_
    refine Ev.iload_n H88 i88_16 rfl ?_
    refine Rd.iaload H88 i88_17 (ar6_3 ma) h (fun h => ?_)
    refine Rd.ic_le H88 i88_18 (t := 23) (by decide) h (fun hc h => ?_) (fun hc h => ?_)
    · exact Ev.sub (l := [(0, .ref a), (1, .int v1), (2, .int v2)]) rfl rfl (mm_sub_c rfl (mm_sub_c rfl (mm_sub_c rfl mm_sub_n))) (t88_23 ma hd h)
    · refine Ev.iconst H88 i88_21 kI_0 ?_
      exact Rd.ireturnK H88 i88_22 rfl (Or.inl rfl) h
theorem i87_0 : mm_cd 87 0 = some (.aload_n 0, 1, 0, 0) := rfl
theorem i87_1 : mm_cd 87 1 = some (.iload_n 1, 1, 0, 0) := rfl
theorem i87_2 : mm_cd 87 2 = some (.invokevirtual 92, 3, 0, 76) := rfl
theorem i87_5 : mm_cd 87 5 = some (.istore_n 2, 1, 0, 0) := rfl
theorem i87_6 : mm_cd 87 6 = some (.aload_n 0, 1, 0, 0) := rfl
theorem i87_7 : mm_cd 87 7 = some (.iload_n 1, 1, 0, 0) := rfl
theorem i87_8 : mm_cd 87 8 = some (.invokevirtual 98, 3, 0, 64) := rfl
theorem i87_11 : mm_cd 87 11 = some (.istore_n 3, 1, 0, 0) := rfl
theorem i87_12 : mm_cd 87 12 = some (.iload_n 2, 1, 0, 0) := rfl
theorem i87_13 : mm_cd 87 13 = some (.ifCond .eq 17, 3, 0, 0) := rfl
theorem i87_16 : mm_cd 87 16 = some (.iload_n 3, 1, 0, 0) := rfl
theorem i87_17 : mm_cd 87 17 = some (.ifCond .ne 16, 3, 0, 0) := rfl
theorem i87_20 : mm_cd 87 20 = some (.iload_n 2, 1, 0, 0) := rfl
theorem i87_21 : mm_cd 87 21 = some (.aload_n 0, 1, 0, 0) := rfl
theorem i87_22 : mm_cd 87 22 = some (.getfield 31, 3, ((6 : Nat) : Int), 6) := rfl
theorem i87_25 : mm_cd 87 25 = some (.iload_n 1, 1, 0, 0) := rfl
theorem i87_26 : mm_cd 87 26 = some (.iaload, 1, 0, 0) := rfl
theorem i87_27 : mm_cd 87 27 = some (.if_icmp .lt 6, 3, 0, 0) := rfl
theorem i87_30 : mm_cd 87 30 = some (.bipush (-2), 2, 0, 0) := rfl
theorem i87_32 : mm_cd 87 32 = some (.ireturn, 1, 0, 0) := rfl
theorem i87_33 : mm_cd 87 33 = some (.iload_n 3, 1, 0, 0) := rfl
theorem i87_34 : mm_cd 87 34 = some (.ifCond .eq 24, 3, 0, 0) := rfl
theorem i87_37 : mm_cd 87 37 = some (.aload_n 0, 1, 0, 0) := rfl
theorem i87_38 : mm_cd 87 38 = some (.getfield 46, 3, ((6 : Nat) : Int), 11) := rfl
theorem i87_41 : mm_cd 87 41 = some (.iload_n 1, 1, 0, 0) := rfl
theorem i87_42 : mm_cd 87 42 = some (.iaload, 1, 0, 0) := rfl
theorem i87_43 : mm_cd 87 43 = some (.ifCond .le 15, 3, 0, 0) := rfl
theorem i87_46 : mm_cd 87 46 = some (.iload_n 2, 1, 0, 0) := rfl
theorem i87_47 : mm_cd 87 47 = some (.aload_n 0, 1, 0, 0) := rfl
theorem i87_48 : mm_cd 87 48 = some (.getfield 46, 3, ((6 : Nat) : Int), 11) := rfl
theorem i87_51 : mm_cd 87 51 = some (.iload_n 1, 1, 0, 0) := rfl
theorem i87_52 : mm_cd 87 52 = some (.iaload, 1, 0, 0) := rfl
theorem i87_53 : mm_cd 87 53 = some (.if_icmp .gt 5, 3, 0, 0) := rfl
theorem i87_56 : mm_cd 87 56 = some (.iconst (-1), 1, 0, 0) := rfl
theorem i87_57 : mm_cd 87 57 = some (.ireturn, 1, 0, 0) := rfl
theorem i87_58 : mm_cd 87 58 = some (.iload_n 3, 1, 0, 0) := rfl
theorem i87_59 : mm_cd 87 59 = some (.ifCond .eq 12, 3, 0, 0) := rfl
theorem i87_62 : mm_cd 87 62 = some (.aload_n 0, 1, 0, 0) := rfl
theorem i87_63 : mm_cd 87 63 = some (.getfield 52, 3, ((6 : Nat) : Int), 13) := rfl
theorem i87_66 : mm_cd 87 66 = some (.iload_n 1, 1, 0, 0) := rfl
theorem i87_67 : mm_cd 87 67 = some (.iaload, 1, 0, 0) := rfl
theorem i87_68 : mm_cd 87 68 = some (.goto 14, 3, 0, 0) := rfl
theorem i87_71 : mm_cd 87 71 = some (.aload_n 0, 1, 0, 0) := rfl
theorem i87_72 : mm_cd 87 72 = some (.getfield 52, 3, ((6 : Nat) : Int), 13) := rfl
theorem i87_75 : mm_cd 87 75 = some (.iload_n 1, 1, 0, 0) := rfl
theorem i87_76 : mm_cd 87 76 = some (.iaload, 1, 0, 0) := rfl
theorem i87_77 : mm_cd 87 77 = some (.aload_n 0, 1, 0, 0) := rfl
theorem i87_78 : mm_cd 87 78 = some (.getfield 9, 3, ((6 : Nat) : Int), 0) := rfl
theorem i87_81 : mm_cd 87 81 = some (.iand, 1, 0, 0) := rfl
theorem i87_82 : mm_cd 87 82 = some (.istore 4, 2, 0, 0) := rfl
theorem i87_84 : mm_cd 87 84 = some (.iconst 0, 1, 0, 0) := rfl
theorem i87_85 : mm_cd 87 85 = some (.istore 5, 2, 0, 0) := rfl
theorem i87_87 : mm_cd 87 87 = some (.iload 5, 2, 0, 0) := rfl
theorem i87_89 : mm_cd 87 89 = some (.bipush 8, 2, 0, 0) := rfl
theorem i87_91 : mm_cd 87 91 = some (.if_icmp .ge 32, 3, 0, 0) := rfl
theorem i87_94 : mm_cd 87 94 = some (.iload 4, 2, 0, 0) := rfl
theorem i87_96 : mm_cd 87 96 = some (.iload 5, 2, 0, 0) := rfl
theorem i87_98 : mm_cd 87 98 = some (.ishr, 1, 0, 0) := rfl
theorem i87_99 : mm_cd 87 99 = some (.iconst 1, 1, 0, 0) := rfl
theorem i87_100 : mm_cd 87 100 = some (.iand, 1, 0, 0) := rfl
theorem i87_101 : mm_cd 87 101 = some (.ifCond .eq 16, 3, 0, 0) := rfl
theorem i87_104 : mm_cd 87 104 = some (.aload_n 0, 1, 0, 0) := rfl
theorem i87_105 : mm_cd 87 105 = some (.iload 5, 2, 0, 0) := rfl
theorem i87_107 : mm_cd 87 107 = some (.iload_n 2, 1, 0, 0) := rfl
theorem i87_108 : mm_cd 87 108 = some (.invokevirtual 101, 3, 0, 88) := rfl
theorem i87_111 : mm_cd 87 111 = some (.ifCond .eq 6, 3, 0, 0) := rfl
theorem i87_114 : mm_cd 87 114 = some (.iload 5, 2, 0, 0) := rfl
theorem i87_116 : mm_cd 87 116 = some (.ireturn, 1, 0, 0) := rfl
theorem i87_117 : mm_cd 87 117 = some (.iinc 5 1, 3, 0, 0) := rfl
theorem i87_120 : mm_cd 87 120 = some (.goto (-33), 3, 0, 0) := rfl
theorem i87_123 : mm_cd 87 123 = some (.bipush (-2), 2, 0, 0) := rfl
theorem i87_125 : mm_cd 87 125 = some (.ireturn, 1, 0, 0) := rfl
def q87_117 (k87 : Int32 → Int32 → Int32 → mS → Option mQ) (a : Nat) (v2 : Int32) (v4 : Int32) (v5 : Int32) (s : mS) : Option mQ := bx (v5 + (1 : Int32)) fun x1 => k87 v2 v4 x1 s
theorem t87_117 {L : Nat} {xs : Nat → Int32} {d : Nat} {k87 : Int32 → Int32 → Int32 → mS → Option mQ} {a : Nat} (hk87 : ∀ (v2 : Int32) (v4 : Int32) (v5 : Int32) (s : mS) (r : mQ), k87 v2 v4 v5 s = some r → Ev L xs d 87 87 [(0, .ref a), (2, .int v2), (4, .int v4), (5, .int v5)] [] (hp s) (hr r)) (ma : a ∈ A6) (hd : 1 ≤ d) {v2 : Int32} {v4 : Int32} {v5 : Int32} {s : mS} {r : mQ} (h : q87_117 k87 a v2 v4 v5 s = some r) : Ev L xs d 87 117 [(0, .ref a), (2, .int v2), (4, .int v4), (5, .int v5)] [] (hp s) (hr r) := by
  unfold q87_117 at h
  refine Rd.iinc H87 i87_117 (Nat.le_of_ble_eq_true rfl) rfl kI_1 (lv2 := fun x1 => [(5, .int x1), (0, .ref a), (2, .int v2), (4, .int v4)]) (fun _ => rfl) h (fun x1 h => ?_)
  refine Ev.goto H87 i87_120 (t := 87) (by decide) ?_
  exact Ev.sub (l := [(0, .ref a), (2, .int v2), (4, .int v4), (5, .int x1)]) rfl rfl (mm_sub_c rfl (mm_sub_c rfl (mm_sub_c rfl (mm_sub_c rfl mm_sub_n)))) (hk87 _ _ _ _ _ h)
def q87_87 (a : Nat) : Nat → Int32 → Int32 → Int32 → mS → Option mQ
  | 0, _, _, _, _ => none
  | n + 1, v2, v4, v5, s => if (8 : Int32) ≤ v5 then (rv (-2 : Int32) s) else (if ((shrI v4 v5) &&& (1 : Int32)) = 0 then (q87_117 (q87_87 a n) a v2 v4 v5 s) else (bN (q88 a v5 v2 s) fun x3 s2 => if x3 = 0 then (q87_117 (q87_87 a n) a v2 v4 v5 s2) else (rv v5 s2)))
theorem t87_87 {L : Nat} {xs : Nat → Int32} {d : Nat} {a : Nat} (ma : a ∈ A6) (hd : 1 ≤ d) : ∀ (n : Nat) (v2 : Int32) (v4 : Int32) (v5 : Int32) (s : mS) (r : mQ), q87_87 a n v2 v4 v5 s = some r → Ev L xs d 87 87 [(0, .ref a), (2, .int v2), (4, .int v4), (5, .int v5)] [] (hp s) (hr r) := by
  intro n
  induction n with
  | zero => intro v2 v4 v5 s r h; rw [q87_87] at h; cases h
  | succ n ih =>
    intro v2 v4 v5 s r h
    rw [q87_87] at h
    refine Ev.iload H87 i87_87 rfl ?_
    refine Ev.bipush H87 i87_89 kB_8 ?_
    refine Rd.ic_ge H87 i87_91 (t := 123) (by decide) h (fun hc h => ?_) (fun hc h => ?_)
    · refine Ev.bipush H87 i87_123 kB_m2 ?_
      exact Rd.ireturn H87 i87_125 rfl h
    · refine Ev.iload H87 i87_94 rfl ?_
      refine Ev.iload H87 i87_96 rfl ?_
      refine Rd.ishr H87 i87_98 ?_
      refine Ev.iconst H87 i87_99 kI_1 ?_
      refine Ev.iand H87 i87_100 ?_
      refine Rd.if_eq H87 i87_101 (t := 117) (by decide) h (fun hc h => ?_) (fun hc h => ?_)
      · exact Ev.sub (l := [(0, .ref a), (2, .int v2), (4, .int v4), (5, .int v5)]) rfl rfl (mm_sub_c rfl (mm_sub_c rfl (mm_sub_c rfl (mm_sub_c rfl mm_sub_n)))) (t87_117 (k87 := (q87_87 a n)) (fun _ _ _ _ _ h => ih _ _ _ _ _ h) ma hd h)
      · refine Ev.aload_n H87 i87_104 rfl ?_
        refine Ev.iload H87 i87_105 rfl ?_
        refine Ev.iload_n H87 i87_107 rfl ?_
        refine Rd.cV2vN H87 i87_108 cal88 (ob6 ma) (Nat.le_of_ble_eq_true rfl) (Nat.le_of_ble_eq_true rfl) (Nat.lt_of_lt_of_le (by decide) hd) (fun q hq => c88 ma hq) h (fun x3 s2 h => ?_)
        refine Rd.if_eq H87 i87_111 (t := 117) (by decide) h (fun hc h => ?_) (fun hc h => ?_)
        · exact Ev.sub (l := [(0, .ref a), (2, .int v2), (4, .int v4), (5, .int v5)]) rfl rfl (mm_sub_c rfl (mm_sub_c rfl (mm_sub_c rfl (mm_sub_c rfl mm_sub_n)))) (t87_117 (k87 := (q87_87 a n)) (fun _ _ _ _ _ h => ih _ _ _ _ _ h) ma hd h)
        · refine Ev.iload H87 i87_114 rfl ?_
          exact Rd.ireturn H87 i87_116 rfl h
def q87_82 (a : Nat) (v2 : Int32) (y0 : Int32) (s : mS) : Option mQ := q87_87 a 10000 v2 y0 (0 : Int32) s
theorem t87_82 {L : Nat} {xs : Nat → Int32} {d : Nat} {a : Nat} (ma : a ∈ A6) (hd : 1 ≤ d) {v2 : Int32} {y0 : Int32} {s : mS} {r : mQ} (h : q87_82 a v2 y0 s = some r) : Ev L xs d 87 82 [(0, .ref a), (2, .int v2)] [.int y0] (hp s) (hr r) := by
  unfold q87_82 at h
  refine Ev.istore H87 i87_82 (Nat.le_of_ble_eq_true rfl) (lv2 := [(4, .int y0), (0, .ref a), (2, .int v2)]) rfl ?_
  refine Ev.iconst H87 i87_84 kI_0 ?_
  refine Ev.istore H87 i87_85 (Nat.le_of_ble_eq_true rfl) (lv2 := [(5, .int (0 : Int32)), (4, .int y0), (0, .ref a), (2, .int v2)]) rfl ?_
  exact Ev.sub (l := [(0, .ref a), (2, .int v2), (4, .int y0), (5, .int (0 : Int32))]) rfl rfl (mm_sub_c rfl (mm_sub_c rfl (mm_sub_c rfl (mm_sub_c rfl mm_sub_n)))) (t87_87 ma hd 10000 _ _ _ _ _ h)
def q87_58 (a : Nat) (v1 : Int32) (v2 : Int32) (v3 : Int32) (s : mS) : Option mQ := if v3 = 0 then (gA 8 v1 <| q87_82 a v2 ((s.1 (a + 10) v1.toNatClampNeg) &&& (s.1 a 0)) s) else (gA 8 v1 <| q87_82 a v2 (s.1 (a + 10) v1.toNatClampNeg) s)
theorem t87_58 {L : Nat} {xs : Nat → Int32} {d : Nat} {a : Nat} (ma : a ∈ A6) (hd : 1 ≤ d) {v1 : Int32} {v2 : Int32} {v3 : Int32} {s : mS} {r : mQ} (h : q87_58 a v1 v2 v3 s = some r) : Ev L xs d 87 58 [(0, .ref a), (1, .int v1), (2, .int v2), (3, .int v3)] [] (hp s) (hr r) := by
  unfold q87_58 at h
  refine Ev.iload_n H87 i87_58 rfl ?_
  refine Rd.if_eq H87 i87_59 (t := 71) (by decide) h (fun hc h => ?_) (fun hc h => ?_)
  · refine Ev.aload_n H87 i87_71 rfl ?_
    refine Rd.getR H87 i87_72 (ob6 ma) rfl ?_
    refine Ev.iload_n H87 i87_75 rfl ?_
    refine Rd.iaload H87 i87_76 (ar6_10 ma) h (fun h => ?_)
    refine Ev.aload_n H87 i87_77 rfl ?_
    refine Rd.getI H87 i87_78 (ob6 ma) rfl ?_
    refine Ev.iand H87 i87_81 ?_
    exact Ev.sub (l := [(0, .ref a), (2, .int v2)]) rfl rfl (mm_sub_c rfl (mm_sub_c rfl mm_sub_n)) (t87_82 ma hd h)
  · refine Ev.aload_n H87 i87_62 rfl ?_
    refine Rd.getR H87 i87_63 (ob6 ma) rfl ?_
    refine Ev.iload_n H87 i87_66 rfl ?_
    refine Rd.iaload H87 i87_67 (ar6_10 ma) h (fun h => ?_)
    refine Ev.goto H87 i87_68 (t := 82) (by decide) ?_
    exact Ev.sub (l := [(0, .ref a), (2, .int v2)]) rfl rfl (mm_sub_c rfl (mm_sub_c rfl mm_sub_n)) (t87_82 ma hd h)
def q87_33 (a : Nat) (v1 : Int32) (v2 : Int32) (v3 : Int32) (s : mS) : Option mQ := if v3 = 0 then (q87_58 a v1 v2 v3 s) else (gA 8 v1 <| if (s.1 (a + 8) v1.toNatClampNeg) ≤ 0 then (q87_58 a v1 v2 v3 s) else (gA 8 v1 <| if (s.1 (a + 8) v1.toNatClampNeg) < v2 then (q87_58 a v1 v2 v3 s) else (rv (-1 : Int32) s)))
theorem t87_33 {L : Nat} {xs : Nat → Int32} {d : Nat} {a : Nat} (ma : a ∈ A6) (hd : 1 ≤ d) {v1 : Int32} {v2 : Int32} {v3 : Int32} {s : mS} {r : mQ} (h : q87_33 a v1 v2 v3 s = some r) : Ev L xs d 87 33 [(0, .ref a), (1, .int v1), (2, .int v2), (3, .int v3)] [] (hp s) (hr r) := by
  unfold q87_33 at h
  refine Ev.iload_n H87 i87_33 rfl ?_
  refine Rd.if_eq H87 i87_34 (t := 58) (by decide) h (fun hc h => ?_) (fun hc h => ?_)
  · exact Ev.sub (l := [(0, .ref a), (1, .int v1), (2, .int v2), (3, .int v3)]) rfl rfl (mm_sub_c rfl (mm_sub_c rfl (mm_sub_c rfl (mm_sub_c rfl mm_sub_n)))) (t87_58 ma hd h)
  · refine Ev.aload_n H87 i87_37 rfl ?_
    refine Rd.getR H87 i87_38 (ob6 ma) rfl ?_
    refine Ev.iload_n H87 i87_41 rfl ?_
    refine Rd.iaload H87 i87_42 (ar6_8 ma) h (fun h => ?_)
    refine Rd.if_le H87 i87_43 (t := 58) (by decide) h (fun hc h => ?_) (fun hc h => ?_)
    · exact Ev.sub (l := [(0, .ref a), (1, .int v1), (2, .int v2), (3, .int v3)]) rfl rfl (mm_sub_c rfl (mm_sub_c rfl (mm_sub_c rfl (mm_sub_c rfl mm_sub_n)))) (t87_58 ma hd h)
    · refine Ev.iload_n H87 i87_46 rfl ?_
      refine Ev.aload_n H87 i87_47 rfl ?_
      refine Rd.getR H87 i87_48 (ob6 ma) rfl ?_
      refine Ev.iload_n H87 i87_51 rfl ?_
      refine Rd.iaload H87 i87_52 (ar6_8 ma) h (fun h => ?_)
      refine Rd.ic_gt H87 i87_53 (t := 58) (by decide) h (fun hc h => ?_) (fun hc h => ?_)
      · exact Ev.sub (l := [(0, .ref a), (1, .int v1), (2, .int v2), (3, .int v3)]) rfl rfl (mm_sub_c rfl (mm_sub_c rfl (mm_sub_c rfl (mm_sub_c rfl mm_sub_n)))) (t87_58 ma hd h)
      · refine Ev.iconst H87 i87_56 kI_m1 ?_
        exact Rd.ireturn H87 i87_57 rfl h
/-- SerialGate$Slots.aheadOf(I)I -/
def q87 (a : Nat) (v1 : Int32) (s : mS) : Option mQ := bN (q76 a v1 s) fun x5 s4 => bN (q64 a v1 s4) fun x7 s6 => if x5 = 0 then (rv (-2 : Int32) s6) else (if ¬ x7 = 0 then (q87_33 a v1 x5 x7 s6) else (gA 8 v1 <| if x5 < (s6.1 (a + 3) v1.toNatClampNeg) then (q87_33 a v1 x5 x7 s6) else (rv (-2 : Int32) s6)))
theorem c87 {L : Nat} {xs : Nat → Int32} {a : Nat} (ma : a ∈ A6) {v1 : Int32} {s : mS} {r : mQ} (h : q87 a v1 s = some r) : ∀ d, 1 ≤ d → Cl L xs d 87 [.ref a, .int v1] (hp s) (hr r) := by
  intro d hd
  show Ev L xs d 87 0 [(0, .ref a), (1, .int v1)] [] (hp s) (hr r)
  unfold q87 at h
  refine Ev.aload_n H87 i87_0 rfl ?_
  refine Ev.iload_n H87 i87_1 rfl ?_
  refine Rd.cV1vN H87 i87_2 cal76 (ob6 ma) (Nat.le_of_ble_eq_true rfl) (Nat.le_of_ble_eq_true rfl) (Nat.lt_of_lt_of_le (by decide) hd) (fun q hq => c76 ma hq) h (fun x5 s4 h => ?_)
  refine Ev.istore_n H87 i87_5 (Nat.le_of_ble_eq_true rfl) (lv2 := [(2, .int x5), (0, .ref a), (1, .int v1)]) rfl ?_
  refine Ev.aload_n H87 i87_6 rfl ?_
  refine Ev.iload_n H87 i87_7 rfl ?_
  refine Rd.cV1vN H87 i87_8 cal64 (ob6 ma) (Nat.le_of_ble_eq_true rfl) (Nat.le_of_ble_eq_true rfl) (Nat.lt_of_lt_of_le (by decide) hd) (fun q hq => c64 ma hq) h (fun x7 s6 h => ?_)
  refine Ev.istore_n H87 i87_11 (Nat.le_of_ble_eq_true rfl) (lv2 := [(3, .int x7), (2, .int x5), (0, .ref a), (1, .int v1)]) rfl ?_
  refine Ev.iload_n H87 i87_12 rfl ?_
  refine Rd.if_eq H87 i87_13 (t := 30) (by decide) h (fun hc h => ?_) (fun hc h => ?_)
  · refine Ev.bipush H87 i87_30 kB_m2 ?_
    exact Rd.ireturn H87 i87_32 rfl h
  · refine Ev.iload_n H87 i87_16 rfl ?_
    refine Rd.if_ne H87 i87_17 (t := 33) (by decide) h (fun hc h => ?_) (fun hc h => ?_)
    · exact Ev.sub (l := [(0, .ref a), (1, .int v1), (2, .int x5), (3, .int x7)]) rfl rfl (mm_sub_c rfl (mm_sub_c rfl (mm_sub_c rfl (mm_sub_c rfl mm_sub_n)))) (t87_33 ma hd h)
    · refine Ev.iload_n H87 i87_20 rfl ?_
      refine Ev.aload_n H87 i87_21 rfl ?_
      refine Rd.getR H87 i87_22 (ob6 ma) rfl ?_
      refine Ev.iload_n H87 i87_25 rfl ?_
      refine Rd.iaload H87 i87_26 (ar6_3 ma) h (fun h => ?_)
      refine Rd.ic_lt H87 i87_27 (t := 33) (by decide) h (fun hc h => ?_) (fun hc h => ?_)
      · exact Ev.sub (l := [(0, .ref a), (1, .int v1), (2, .int x5), (3, .int x7)]) rfl rfl (mm_sub_c rfl (mm_sub_c rfl (mm_sub_c rfl (mm_sub_c rfl mm_sub_n)))) (t87_33 ma hd h)
      · refine Ev.bipush H87 i87_30 kB_m2 ?_
        exact Rd.ireturn H87 i87_32 rfl h
theorem i86_0 : mm_cd 86 0 = some (.iconst 0, 1, 0, 0) := rfl
theorem i86_1 : mm_cd 86 1 = some (.istore_n 1, 1, 0, 0) := rfl
theorem i86_2 : mm_cd 86 2 = some (.iload_n 1, 1, 0, 0) := rfl
theorem i86_3 : mm_cd 86 3 = some (.bipush 8, 2, 0, 0) := rfl
theorem i86_5 : mm_cd 86 5 = some (.if_icmp .ge 29, 3, 0, 0) := rfl
theorem i86_8 : mm_cd 86 8 = some (.aload_n 0, 1, 0, 0) := rfl
theorem i86_9 : mm_cd 86 9 = some (.iload_n 1, 1, 0, 0) := rfl
theorem i86_10 : mm_cd 86 10 = some (.invokevirtual 64, 3, 0, 65) := rfl
theorem i86_13 : mm_cd 86 13 = some (.ifCond .eq 15, 3, 0, 0) := rfl
theorem i86_16 : mm_cd 86 16 = some (.aload_n 0, 1, 0, 0) := rfl
theorem i86_17 : mm_cd 86 17 = some (.iload_n 1, 1, 0, 0) := rfl
theorem i86_18 : mm_cd 86 18 = some (.invokevirtual 95, 3, 0, 87) := rfl
theorem i86_21 : mm_cd 86 21 = some (.bipush (-2), 2, 0, 0) := rfl
theorem i86_23 : mm_cd 86 23 = some (.if_icmp .eq 5, 3, 0, 0) := rfl
theorem i86_26 : mm_cd 86 26 = some (.iload_n 1, 1, 0, 0) := rfl
theorem i86_27 : mm_cd 86 27 = some (.ireturn, 1, 0, 0) := rfl
theorem i86_28 : mm_cd 86 28 = some (.iinc 1 1, 3, 0, 0) := rfl
theorem i86_31 : mm_cd 86 31 = some (.goto (-29), 3, 0, 0) := rfl
theorem i86_34 : mm_cd 86 34 = some (.iconst (-1), 1, 0, 0) := rfl
theorem i86_35 : mm_cd 86 35 = some (.ireturn, 1, 0, 0) := rfl
def q86_28 (k2 : Int32 → mS → Option mQ) (a : Nat) (v1 : Int32) (s : mS) : Option mQ := bx (v1 + (1 : Int32)) fun x1 => k2 x1 s
theorem t86_28 {L : Nat} {xs : Nat → Int32} {d : Nat} {k2 : Int32 → mS → Option mQ} {a : Nat} (hk2 : ∀ (v1 : Int32) (s : mS) (r : mQ), k2 v1 s = some r → Ev L xs d 86 2 [(0, .ref a), (1, .int v1)] [] (hp s) (hr r)) (ma : a ∈ A6) (hd : 2 ≤ d) {v1 : Int32} {s : mS} {r : mQ} (h : q86_28 k2 a v1 s = some r) : Ev L xs d 86 28 [(0, .ref a), (1, .int v1)] [] (hp s) (hr r) := by
  unfold q86_28 at h
  refine Rd.iinc H86 i86_28 (Nat.le_of_ble_eq_true rfl) rfl kI_1 (lv2 := fun x1 => [(1, .int x1), (0, .ref a)]) (fun _ => rfl) h (fun x1 h => ?_)
  refine Ev.goto H86 i86_31 (t := 2) (by decide) ?_
  exact Ev.sub (l := [(0, .ref a), (1, .int x1)]) rfl rfl (mm_sub_c rfl (mm_sub_c rfl mm_sub_n)) (hk2 _ _ _ h)
def q86_2 (a : Nat) : Nat → Int32 → mS → Option mQ
  | 0, _, _ => none
  | n + 1, v1, s => if (8 : Int32) ≤ v1 then (rv (-1 : Int32) s) else (bN (q65 a v1 s) fun x3 s2 => if x3 = 0 then (q86_28 (q86_2 a n) a v1 s2) else (bN (q87 a v1 s2) fun x5 s4 => if x5 = (-2 : Int32) then (q86_28 (q86_2 a n) a v1 s4) else (rv v1 s4)))
theorem t86_2 {L : Nat} {xs : Nat → Int32} {d : Nat} {a : Nat} (ma : a ∈ A6) (hd : 2 ≤ d) : ∀ (n : Nat) (v1 : Int32) (s : mS) (r : mQ), q86_2 a n v1 s = some r → Ev L xs d 86 2 [(0, .ref a), (1, .int v1)] [] (hp s) (hr r) := by
  intro n
  induction n with
  | zero => intro v1 s r h; rw [q86_2] at h; cases h
  | succ n ih =>
    intro v1 s r h
    rw [q86_2] at h
    refine Ev.iload_n H86 i86_2 rfl ?_
    refine Ev.bipush H86 i86_3 kB_8 ?_
    refine Rd.ic_ge H86 i86_5 (t := 34) (by decide) h (fun hc h => ?_) (fun hc h => ?_)
    · refine Ev.iconst H86 i86_34 kI_m1 ?_
      exact Rd.ireturn H86 i86_35 rfl h
    · refine Ev.aload_n H86 i86_8 rfl ?_
      refine Ev.iload_n H86 i86_9 rfl ?_
      refine Rd.cV1vN H86 i86_10 cal65 (ob6 ma) (Nat.le_of_ble_eq_true rfl) (Nat.le_of_ble_eq_true rfl) (Nat.lt_of_lt_of_le (by decide) hd) (fun q hq => c65 ma hq) h (fun x3 s2 h => ?_)
      refine Rd.if_eq H86 i86_13 (t := 28) (by decide) h (fun hc h => ?_) (fun hc h => ?_)
      · exact Ev.sub (l := [(0, .ref a), (1, .int v1)]) rfl rfl (mm_sub_c rfl (mm_sub_c rfl mm_sub_n)) (t86_28 (k2 := (q86_2 a n)) (fun _ _ _ h => ih _ _ _ h) ma hd h)
      · refine Ev.aload_n H86 i86_16 rfl ?_
        refine Ev.iload_n H86 i86_17 rfl ?_
        refine Rd.cV1vN H86 i86_18 cal87 (ob6 ma) (Nat.le_of_ble_eq_true rfl) (Nat.le_of_ble_eq_true rfl) (Nat.lt_of_lt_of_le (by decide) hd) (fun q hq => c87 ma hq) h (fun x5 s4 h => ?_)
        refine Ev.bipush H86 i86_21 kB_m2 ?_
        refine Rd.ic_eq H86 i86_23 (t := 28) (by decide) h (fun hc h => ?_) (fun hc h => ?_)
        · exact Ev.sub (l := [(0, .ref a), (1, .int v1)]) rfl rfl (mm_sub_c rfl (mm_sub_c rfl mm_sub_n)) (t86_28 (k2 := (q86_2 a n)) (fun _ _ _ h => ih _ _ _ h) ma hd h)
        · refine Ev.iload_n H86 i86_26 rfl ?_
          exact Rd.ireturn H86 i86_27 rfl h
/-- SerialGate$Slots.leastInDanger()I -/
def q86 (a : Nat) (s : mS) : Option mQ := q86_2 a 10000 (0 : Int32) s
theorem c86 {L : Nat} {xs : Nat → Int32} {a : Nat} (ma : a ∈ A6) {s : mS} {r : mQ} (h : q86 a s = some r) : ∀ d, 2 ≤ d → Cl L xs d 86 [.ref a] (hp s) (hr r) := by
  intro d hd
  show Ev L xs d 86 0 [(0, .ref a)] [] (hp s) (hr r)
  unfold q86 at h
  refine Ev.iconst H86 i86_0 kI_0 ?_
  refine Ev.istore_n H86 i86_1 (Nat.le_of_ble_eq_true rfl) (lv2 := [(1, .int (0 : Int32)), (0, .ref a)]) rfl ?_
  exact Ev.sub (l := [(0, .ref a), (1, .int (0 : Int32))]) rfl rfl (mm_sub_c rfl (mm_sub_c rfl mm_sub_n)) (t86_2 ma hd 10000 _ _ _ h)
theorem i90_0 : mm_cd 90 0 = some (.iconst 0, 1, 0, 0) := rfl
theorem i90_1 : mm_cd 90 1 = some (.istore_n 2, 1, 0, 0) := rfl
theorem i90_2 : mm_cd 90 2 = some (.iload_n 2, 1, 0, 0) := rfl
theorem i90_3 : mm_cd 90 3 = some (.bipush 8, 2, 0, 0) := rfl
theorem i90_5 : mm_cd 90 5 = some (.if_icmp .ge 62, 3, 0, 0) := rfl
theorem i90_8 : mm_cd 90 8 = some (.aload_n 0, 1, 0, 0) := rfl
theorem i90_9 : mm_cd 90 9 = some (.getfield 9, 3, ((6 : Nat) : Int), 0) := rfl
theorem i90_12 : mm_cd 90 12 = some (.iload_n 1, 1, 0, 0) := rfl
theorem i90_13 : mm_cd 90 13 = some (.iconst (-1), 1, 0, 0) := rfl
theorem i90_14 : mm_cd 90 14 = some (.ixor, 1, 0, 0) := rfl
theorem i90_15 : mm_cd 90 15 = some (.iand, 1, 0, 0) := rfl
theorem i90_16 : mm_cd 90 16 = some (.iload_n 2, 1, 0, 0) := rfl
theorem i90_17 : mm_cd 90 17 = some (.ishr, 1, 0, 0) := rfl
theorem i90_18 : mm_cd 90 18 = some (.iconst 1, 1, 0, 0) := rfl
theorem i90_19 : mm_cd 90 19 = some (.iand, 1, 0, 0) := rfl
theorem i90_20 : mm_cd 90 20 = some (.ifCond .eq 7, 3, 0, 0) := rfl
theorem i90_23 : mm_cd 90 23 = some (.iconst 1, 1, 0, 0) := rfl
theorem i90_24 : mm_cd 90 24 = some (.goto 4, 3, 0, 0) := rfl
theorem i90_27 : mm_cd 90 27 = some (.iconst 0, 1, 0, 0) := rfl
theorem i90_28 : mm_cd 90 28 = some (.istore_n 3, 1, 0, 0) := rfl
theorem i90_29 : mm_cd 90 29 = some (.iload_n 3, 1, 0, 0) := rfl
theorem i90_30 : mm_cd 90 30 = some (.ifCond .eq 31, 3, 0, 0) := rfl
theorem i90_33 : mm_cd 90 33 = some (.aload_n 0, 1, 0, 0) := rfl
theorem i90_34 : mm_cd 90 34 = some (.getfield 49, 3, ((6 : Nat) : Int), 12) := rfl
theorem i90_37 : mm_cd 90 37 = some (.iload_n 2, 1, 0, 0) := rfl
theorem i90_38 : mm_cd 90 38 = some (.iaload, 1, 0, 0) := rfl
theorem i90_39 : mm_cd 90 39 = some (.iload_n 1, 1, 0, 0) := rfl
theorem i90_40 : mm_cd 90 40 = some (.iconst (-1), 1, 0, 0) := rfl
theorem i90_41 : mm_cd 90 41 = some (.ixor, 1, 0, 0) := rfl
theorem i90_42 : mm_cd 90 42 = some (.iand, 1, 0, 0) := rfl
theorem i90_43 : mm_cd 90 43 = some (.ifCond .eq 18, 3, 0, 0) := rfl
theorem i90_46 : mm_cd 90 46 = some (.aload_n 0, 1, 0, 0) := rfl
theorem i90_47 : mm_cd 90 47 = some (.getfield 52, 3, ((6 : Nat) : Int), 13) := rfl
theorem i90_50 : mm_cd 90 50 = some (.iload_n 2, 1, 0, 0) := rfl
theorem i90_51 : mm_cd 90 51 = some (.iaload, 1, 0, 0) := rfl
theorem i90_52 : mm_cd 90 52 = some (.iload_n 1, 1, 0, 0) := rfl
theorem i90_53 : mm_cd 90 53 = some (.iconst (-1), 1, 0, 0) := rfl
theorem i90_54 : mm_cd 90 54 = some (.ixor, 1, 0, 0) := rfl
theorem i90_55 : mm_cd 90 55 = some (.iand, 1, 0, 0) := rfl
theorem i90_56 : mm_cd 90 56 = some (.ifCond .eq 5, 3, 0, 0) := rfl
theorem i90_59 : mm_cd 90 59 = some (.iconst 0, 1, 0, 0) := rfl
theorem i90_60 : mm_cd 90 60 = some (.ireturn, 1, 0, 0) := rfl
theorem i90_61 : mm_cd 90 61 = some (.iinc 2 1, 3, 0, 0) := rfl
theorem i90_64 : mm_cd 90 64 = some (.goto (-62), 3, 0, 0) := rfl
theorem i90_67 : mm_cd 90 67 = some (.iconst 1, 1, 0, 0) := rfl
theorem i90_68 : mm_cd 90 68 = some (.ireturn, 1, 0, 0) := rfl
def q90_61 (k2 : Int32 → Int32 → mS → Option mQ) (a : Nat) (v1 : Int32) (v2 : Int32) (s : mS) : Option mQ := bx (v2 + (1 : Int32)) fun x1 => k2 v1 x1 s
theorem t90_61 {L : Nat} {xs : Nat → Int32} {d : Nat} {k2 : Int32 → Int32 → mS → Option mQ} {a : Nat} (hk2 : ∀ (v1 : Int32) (v2 : Int32) (s : mS) (r : mQ), k2 v1 v2 s = some r → Ev L xs d 90 2 [(0, .ref a), (1, .int v1), (2, .int v2)] [] (hp s) (hr r)) (ma : a ∈ A6) (hd : 0 ≤ d) {v1 : Int32} {v2 : Int32} {s : mS} {r : mQ} (h : q90_61 k2 a v1 v2 s = some r) : Ev L xs d 90 61 [(0, .ref a), (1, .int v1), (2, .int v2)] [] (hp s) (hr r) := by
  unfold q90_61 at h
  refine Rd.iinc H90 i90_61 (Nat.le_of_ble_eq_true rfl) rfl kI_1 (lv2 := fun x1 => [(2, .int x1), (0, .ref a), (1, .int v1)]) (fun _ => rfl) h (fun x1 h => ?_)
  refine Ev.goto H90 i90_64 (t := 2) (by decide) ?_
  exact Ev.sub (l := [(0, .ref a), (1, .int v1), (2, .int x1)]) rfl rfl (mm_sub_c rfl (mm_sub_c rfl (mm_sub_c rfl mm_sub_n))) (hk2 _ _ _ _ h)
def q90_28 (k2 : Int32 → Int32 → mS → Option mQ) (a : Nat) (v1 : Int32) (v2 : Int32) (y0 : Int32) (s : mS) : Option mQ := if y0 = 0 then (q90_61 k2 a v1 v2 s) else (gA 8 v2 <| if ((s.1 (a + 9) v2.toNatClampNeg) &&& (v1 ^^^ (-1 : Int32))) = 0 then (q90_61 k2 a v1 v2 s) else (gA 8 v2 <| if ((s.1 (a + 10) v2.toNatClampNeg) &&& (v1 ^^^ (-1 : Int32))) = 0 then (q90_61 k2 a v1 v2 s) else (rv (0 : Int32) s)))
theorem t90_28 {L : Nat} {xs : Nat → Int32} {d : Nat} {k2 : Int32 → Int32 → mS → Option mQ} {a : Nat} (hk2 : ∀ (v1 : Int32) (v2 : Int32) (s : mS) (r : mQ), k2 v1 v2 s = some r → Ev L xs d 90 2 [(0, .ref a), (1, .int v1), (2, .int v2)] [] (hp s) (hr r)) (ma : a ∈ A6) (hd : 0 ≤ d) {v1 : Int32} {v2 : Int32} {y0 : Int32} {s : mS} {r : mQ} (h : q90_28 k2 a v1 v2 y0 s = some r) : Ev L xs d 90 28 [(0, .ref a), (1, .int v1), (2, .int v2)] [.int y0] (hp s) (hr r) := by
  unfold q90_28 at h
  refine Ev.istore_n H90 i90_28 (Nat.le_of_ble_eq_true rfl) (lv2 := [(3, .int y0), (0, .ref a), (1, .int v1), (2, .int v2)]) rfl ?_
  refine Ev.iload_n H90 i90_29 rfl ?_
  refine Rd.if_eq H90 i90_30 (t := 61) (by decide) h (fun hc h => ?_) (fun hc h => ?_)
  · exact Ev.sub (l := [(0, .ref a), (1, .int v1), (2, .int v2)]) rfl rfl (mm_sub_c rfl (mm_sub_c rfl (mm_sub_c rfl mm_sub_n))) (t90_61 (k2 := k2) hk2 ma hd h)
  · refine Ev.aload_n H90 i90_33 rfl ?_
    refine Rd.getR H90 i90_34 (ob6 ma) rfl ?_
    refine Ev.iload_n H90 i90_37 rfl ?_
    refine Rd.iaload H90 i90_38 (ar6_9 ma) h (fun h => ?_)
    refine Ev.iload_n H90 i90_39 rfl ?_
    refine Ev.iconst H90 i90_40 kI_m1 ?_
    refine Ev.ixor H90 i90_41 ?_
    refine Ev.iand H90 i90_42 ?_
    refine Rd.if_eq H90 i90_43 (t := 61) (by decide) h (fun hc h => ?_) (fun hc h => ?_)
    · exact Ev.sub (l := [(0, .ref a), (1, .int v1), (2, .int v2)]) rfl rfl (mm_sub_c rfl (mm_sub_c rfl (mm_sub_c rfl mm_sub_n))) (t90_61 (k2 := k2) hk2 ma hd h)
    · refine Ev.aload_n H90 i90_46 rfl ?_
      refine Rd.getR H90 i90_47 (ob6 ma) rfl ?_
      refine Ev.iload_n H90 i90_50 rfl ?_
      refine Rd.iaload H90 i90_51 (ar6_10 ma) h (fun h => ?_)
      refine Ev.iload_n H90 i90_52 rfl ?_
      refine Ev.iconst H90 i90_53 kI_m1 ?_
      refine Ev.ixor H90 i90_54 ?_
      refine Ev.iand H90 i90_55 ?_
      refine Rd.if_eq H90 i90_56 (t := 61) (by decide) h (fun hc h => ?_) (fun hc h => ?_)
      · exact Ev.sub (l := [(0, .ref a), (1, .int v1), (2, .int v2)]) rfl rfl (mm_sub_c rfl (mm_sub_c rfl (mm_sub_c rfl mm_sub_n))) (t90_61 (k2 := k2) hk2 ma hd h)
      · refine Ev.iconst H90 i90_59 kI_0 ?_
        exact Rd.ireturnK H90 i90_60 rfl (Or.inl rfl) h
def q90_2 (a : Nat) : Nat → Int32 → Int32 → mS → Option mQ
  | 0, _, _, _ => none
  | n + 1, v1, v2, s => if (8 : Int32) ≤ v2 then (rv (1 : Int32) s) else (if ((shrI ((s.1 a 0) &&& (v1 ^^^ (-1 : Int32))) v2) &&& (1 : Int32)) = 0 then (q90_28 (q90_2 a n) a v1 v2 (0 : Int32) s) else (q90_28 (q90_2 a n) a v1 v2 (1 : Int32) s))
theorem t90_2 {L : Nat} {xs : Nat → Int32} {d : Nat} {a : Nat} (ma : a ∈ A6) (hd : 0 ≤ d) : ∀ (n : Nat) (v1 : Int32) (v2 : Int32) (s : mS) (r : mQ), q90_2 a n v1 v2 s = some r → Ev L xs d 90 2 [(0, .ref a), (1, .int v1), (2, .int v2)] [] (hp s) (hr r) := by
  intro n
  induction n with
  | zero => intro v1 v2 s r h; rw [q90_2] at h; cases h
  | succ n ih =>
    intro v1 v2 s r h
    rw [q90_2] at h
    refine Ev.iload_n H90 i90_2 rfl ?_
    refine Ev.bipush H90 i90_3 kB_8 ?_
    refine Rd.ic_ge H90 i90_5 (t := 67) (by decide) h (fun hc h => ?_) (fun hc h => ?_)
    · refine Ev.iconst H90 i90_67 kI_1 ?_
      exact Rd.ireturnK H90 i90_68 rfl (Or.inr rfl) h
    · refine Ev.aload_n H90 i90_8 rfl ?_
      refine Rd.getI H90 i90_9 (ob6 ma) rfl ?_
      refine Ev.iload_n H90 i90_12 rfl ?_
      refine Ev.iconst H90 i90_13 kI_m1 ?_
      refine Ev.ixor H90 i90_14 ?_
      refine Ev.iand H90 i90_15 ?_
      refine Ev.iload_n H90 i90_16 rfl ?_
      refine Rd.ishr H90 i90_17 ?_
      refine Ev.iconst H90 i90_18 kI_1 ?_
      refine Ev.iand H90 i90_19 ?_
      refine Rd.if_eq H90 i90_20 (t := 27) (by decide) h (fun hc h => ?_) (fun hc h => ?_)
      · refine Ev.iconst H90 i90_27 kI_0 ?_
        exact Ev.sub (l := [(0, .ref a), (1, .int v1), (2, .int v2)]) rfl rfl (mm_sub_c rfl (mm_sub_c rfl (mm_sub_c rfl mm_sub_n))) (t90_28 (k2 := (q90_2 a n)) (fun _ _ _ _ h => ih _ _ _ _ h) ma hd h)
      · refine Ev.iconst H90 i90_23 kI_1 ?_
        refine Ev.goto H90 i90_24 (t := 28) (by decide) ?_
        exact Ev.sub (l := [(0, .ref a), (1, .int v1), (2, .int v2)]) rfl rfl (mm_sub_c rfl (mm_sub_c rfl (mm_sub_c rfl mm_sub_n))) (t90_28 (k2 := (q90_2 a n)) (fun _ _ _ _ h => ih _ _ _ _ h) ma hd h)
/-- SerialGate$Slots.isCut(I)Z -/
def q90 (a : Nat) (v1 : Int32) (s : mS) : Option mQ := q90_2 a 10000 v1 (0 : Int32) s
theorem c90 {L : Nat} {xs : Nat → Int32} {a : Nat} (ma : a ∈ A6) {v1 : Int32} {s : mS} {r : mQ} (h : q90 a v1 s = some r) : ∀ d, 0 ≤ d → Cl L xs d 90 [.ref a, .int v1] (hp s) (hr r) := by
  intro d hd
  show Ev L xs d 90 0 [(0, .ref a), (1, .int v1)] [] (hp s) (hr r)
  unfold q90 at h
  refine Ev.iconst H90 i90_0 kI_0 ?_
  refine Ev.istore_n H90 i90_1 (Nat.le_of_ble_eq_true rfl) (lv2 := [(2, .int (0 : Int32)), (0, .ref a), (1, .int v1)]) rfl ?_
  exact Ev.sub (l := [(0, .ref a), (1, .int v1), (2, .int (0 : Int32))]) rfl rfl (mm_sub_c rfl (mm_sub_c rfl (mm_sub_c rfl mm_sub_n))) (t90_2 ma hd 10000 _ _ _ _ h)
theorem i89_0 : mm_cd 89 0 = some (.aload_n 0, 1, 0, 0) := rfl
theorem i89_1 : mm_cd 89 1 = some (.getfield 9, 3, ((6 : Nat) : Int), 0) := rfl
theorem i89_4 : mm_cd 89 4 = some (.istore_n 1, 1, 0, 0) := rfl
theorem i89_5 : mm_cd 89 5 = some (.iconst 0, 1, 0, 0) := rfl
theorem i89_6 : mm_cd 89 6 = some (.istore_n 2, 1, 0, 0) := rfl
theorem i89_7 : mm_cd 89 7 = some (.iload_n 2, 1, 0, 0) := rfl
theorem i89_8 : mm_cd 89 8 = some (.sipush 256, 3, 0, 0) := rfl
theorem i89_11 : mm_cd 89 11 = some (.if_icmp .ge 41, 3, 0, 0) := rfl
theorem i89_14 : mm_cd 89 14 = some (.iload_n 2, 1, 0, 0) := rfl
theorem i89_15 : mm_cd 89 15 = some (.aload_n 0, 1, 0, 0) := rfl
theorem i89_16 : mm_cd 89 16 = some (.getfield 9, 3, ((6 : Nat) : Int), 0) := rfl
theorem i89_19 : mm_cd 89 19 = some (.iconst (-1), 1, 0, 0) := rfl
theorem i89_20 : mm_cd 89 20 = some (.ixor, 1, 0, 0) := rfl
theorem i89_21 : mm_cd 89 21 = some (.iand, 1, 0, 0) := rfl
theorem i89_22 : mm_cd 89 22 = some (.ifCond .ne 24, 3, 0, 0) := rfl
theorem i89_25 : mm_cd 89 25 = some (.iload_n 2, 1, 0, 0) := rfl
theorem i89_26 : mm_cd 89 26 = some (.invokestatic 73, 3, 0, 343) := rfl
theorem i89_29 : mm_cd 89 29 = some (.iload_n 1, 1, 0, 0) := rfl
theorem i89_30 : mm_cd 89 30 = some (.invokestatic 73, 3, 0, 343) := rfl
theorem i89_33 : mm_cd 89 33 = some (.if_icmp .ge 13, 3, 0, 0) := rfl
theorem i89_36 : mm_cd 89 36 = some (.aload_n 0, 1, 0, 0) := rfl
theorem i89_37 : mm_cd 89 37 = some (.iload_n 2, 1, 0, 0) := rfl
theorem i89_38 : mm_cd 89 38 = some (.invokevirtual 104, 3, 0, 90) := rfl
theorem i89_41 : mm_cd 89 41 = some (.ifCond .eq 5, 3, 0, 0) := rfl
theorem i89_44 : mm_cd 89 44 = some (.iload_n 2, 1, 0, 0) := rfl
theorem i89_45 : mm_cd 89 45 = some (.istore_n 1, 1, 0, 0) := rfl
theorem i89_46 : mm_cd 89 46 = some (.iinc 2 1, 3, 0, 0) := rfl
theorem i89_49 : mm_cd 89 49 = some (.goto (-42), 3, 0, 0) := rfl
theorem i89_52 : mm_cd 89 52 = some (.iload_n 1, 1, 0, 0) := rfl
theorem i89_53 : mm_cd 89 53 = some (.ireturn, 1, 0, 0) := rfl
def q89_46 (k7 : Int32 → Int32 → mS → Option mQ) (a : Nat) (v1 : Int32) (v2 : Int32) (s : mS) : Option mQ := bx (v2 + (1 : Int32)) fun x1 => k7 v1 x1 s
theorem t89_46 {L : Nat} {xs : Nat → Int32} {d : Nat} {k7 : Int32 → Int32 → mS → Option mQ} {a : Nat} (hk7 : ∀ (v1 : Int32) (v2 : Int32) (s : mS) (r : mQ), k7 v1 v2 s = some r → Ev L xs d 89 7 [(0, .ref a), (1, .int v1), (2, .int v2)] [] (hp s) (hr r)) (ma : a ∈ A6) (hd : 1 ≤ d) {v1 : Int32} {v2 : Int32} {s : mS} {r : mQ} (h : q89_46 k7 a v1 v2 s = some r) : Ev L xs d 89 46 [(0, .ref a), (1, .int v1), (2, .int v2)] [] (hp s) (hr r) := by
  unfold q89_46 at h
  refine Rd.iinc H89 i89_46 (Nat.le_of_ble_eq_true rfl) rfl kI_1 (lv2 := fun x1 => [(2, .int x1), (0, .ref a), (1, .int v1)]) (fun _ => rfl) h (fun x1 h => ?_)
  refine Ev.goto H89 i89_49 (t := 7) (by decide) ?_
  exact Ev.sub (l := [(0, .ref a), (1, .int v1), (2, .int x1)]) rfl rfl (mm_sub_c rfl (mm_sub_c rfl (mm_sub_c rfl mm_sub_n))) (hk7 _ _ _ _ h)
def q89_7 (a : Nat) : Nat → Int32 → Int32 → mS → Option mQ
  | 0, _, _, _ => none
  | n + 1, v1, v2, s => if (256 : Int32) ≤ v2 then (rv v1 s) else (if ¬ (v2 &&& ((s.1 a 0) ^^^ (-1 : Int32))) = 0 then (q89_46 (q89_7 a n) a v1 v2 s) else (bN (q343 v2 s) fun x3 s2 => bN (q343 v1 s2) fun x5 s4 => if x5 ≤ x3 then (q89_46 (q89_7 a n) a v1 v2 s4) else (bN (q90 a v2 s4) fun x7 s6 => if x7 = 0 then (q89_46 (q89_7 a n) a v1 v2 s6) else (q89_46 (q89_7 a n) a v2 v2 s6))))
theorem t89_7 {L : Nat} {xs : Nat → Int32} {d : Nat} {a : Nat} (ma : a ∈ A6) (hd : 1 ≤ d) : ∀ (n : Nat) (v1 : Int32) (v2 : Int32) (s : mS) (r : mQ), q89_7 a n v1 v2 s = some r → Ev L xs d 89 7 [(0, .ref a), (1, .int v1), (2, .int v2)] [] (hp s) (hr r) := by
  intro n
  induction n with
  | zero => intro v1 v2 s r h; rw [q89_7] at h; cases h
  | succ n ih =>
    intro v1 v2 s r h
    rw [q89_7] at h
    refine Ev.iload_n H89 i89_7 rfl ?_
    refine Ev.sipush H89 i89_8 kS_256 ?_
    refine Rd.ic_ge H89 i89_11 (t := 52) (by decide) h (fun hc h => ?_) (fun hc h => ?_)
    · refine Ev.iload_n H89 i89_52 rfl ?_
      exact Rd.ireturn H89 i89_53 rfl h
    · refine Ev.iload_n H89 i89_14 rfl ?_
      refine Ev.aload_n H89 i89_15 rfl ?_
      refine Rd.getI H89 i89_16 (ob6 ma) rfl ?_
      refine Ev.iconst H89 i89_19 kI_m1 ?_
      refine Ev.ixor H89 i89_20 ?_
      refine Ev.iand H89 i89_21 ?_
      refine Rd.if_ne H89 i89_22 (t := 46) (by decide) h (fun hc h => ?_) (fun hc h => ?_)
      · exact Ev.sub (l := [(0, .ref a), (1, .int v1), (2, .int v2)]) rfl rfl (mm_sub_c rfl (mm_sub_c rfl (mm_sub_c rfl mm_sub_n))) (t89_46 (k7 := (q89_7 a n)) (fun _ _ _ _ h => ih _ _ _ _ h) ma hd h)
      · refine Ev.iload_n H89 i89_25 rfl ?_
        refine Rd.cS1vN H89 i89_26 cal343 (Nat.le_of_ble_eq_true rfl) (Nat.le_of_ble_eq_true rfl) (Nat.lt_of_lt_of_le (by decide) hd) (fun q hq => c343 hq) h (fun x3 s2 h => ?_)
        refine Ev.iload_n H89 i89_29 rfl ?_
        refine Rd.cS1vN H89 i89_30 cal343 (Nat.le_of_ble_eq_true rfl) (Nat.le_of_ble_eq_true rfl) (Nat.lt_of_lt_of_le (by decide) hd) (fun q hq => c343 hq) h (fun x5 s4 h => ?_)
        refine Rd.ic_ge H89 i89_33 (t := 46) (by decide) h (fun hc h => ?_) (fun hc h => ?_)
        · exact Ev.sub (l := [(0, .ref a), (1, .int v1), (2, .int v2)]) rfl rfl (mm_sub_c rfl (mm_sub_c rfl (mm_sub_c rfl mm_sub_n))) (t89_46 (k7 := (q89_7 a n)) (fun _ _ _ _ h => ih _ _ _ _ h) ma hd h)
        · refine Ev.aload_n H89 i89_36 rfl ?_
          refine Ev.iload_n H89 i89_37 rfl ?_
          refine Rd.cV1vN H89 i89_38 cal90 (ob6 ma) (Nat.le_of_ble_eq_true rfl) (Nat.le_of_ble_eq_true rfl) (Nat.lt_of_lt_of_le (by decide) hd) (fun q hq => c90 ma hq) h (fun x7 s6 h => ?_)
          refine Rd.if_eq H89 i89_41 (t := 46) (by decide) h (fun hc h => ?_) (fun hc h => ?_)
          · exact Ev.sub (l := [(0, .ref a), (1, .int v1), (2, .int v2)]) rfl rfl (mm_sub_c rfl (mm_sub_c rfl (mm_sub_c rfl mm_sub_n))) (t89_46 (k7 := (q89_7 a n)) (fun _ _ _ _ h => ih _ _ _ _ h) ma hd h)
          · refine Ev.iload_n H89 i89_44 rfl ?_
            refine Ev.istore_n H89 i89_45 (Nat.le_of_ble_eq_true rfl) (lv2 := [(1, .int v2), (0, .ref a), (2, .int v2)]) rfl ?_
            exact Ev.sub (l := [(0, .ref a), (1, .int v2), (2, .int v2)]) rfl rfl (mm_sub_c rfl (mm_sub_c rfl (mm_sub_c rfl mm_sub_n))) (t89_46 (k7 := (q89_7 a n)) (fun _ _ _ _ h => ih _ _ _ _ h) ma hd h)
/-- SerialGate$Slots.leastCut()I -/
def q89 (a : Nat) (s : mS) : Option mQ := bx (s.1 a 0) fun x8 => q89_7 a 10000 x8 (0 : Int32) s
theorem c89 {L : Nat} {xs : Nat → Int32} {a : Nat} (ma : a ∈ A6) {s : mS} {r : mQ} (h : q89 a s = some r) : ∀ d, 1 ≤ d → Cl L xs d 89 [.ref a] (hp s) (hr r) := by
  intro d hd
  show Ev L xs d 89 0 [(0, .ref a)] [] (hp s) (hr r)
  unfold q89 at h
  refine Ev.aload_n H89 i89_0 rfl ?_
  refine Rd.getI H89 i89_1 (ob6 ma) rfl ?_
  refine Rd.istore_n H89 i89_4 (Nat.le_of_ble_eq_true rfl) (lv2 := fun x8 => [(1, .int x8), (0, .ref a)]) (fun _ => rfl) h (fun x8 h => ?_)
  refine Ev.iconst H89 i89_5 kI_0 ?_
  refine Ev.istore_n H89 i89_6 (Nat.le_of_ble_eq_true rfl) (lv2 := [(2, .int (0 : Int32)), (1, .int x8), (0, .ref a)]) rfl ?_
  exact Ev.sub (l := [(0, .ref a), (1, .int x8), (2, .int (0 : Int32))]) rfl rfl (mm_sub_c rfl (mm_sub_c rfl (mm_sub_c rfl mm_sub_n))) (t89_7 ma hd 10000 _ _ _ _ h)
theorem i106_0 : mm_cd 106 0 = some (.aload_n 0, 1, 0, 0) := rfl
theorem i106_1 : mm_cd 106 1 = some (.aload_n 0, 1, 0, 0) := rfl
theorem i106_2 : mm_cd 106 2 = some (.getfield 19, 3, ((8 : Nat) : Int), 2) := rfl
theorem i106_5 : mm_cd 106 5 = some (.bipush 48, 2, 0, 0) := rfl
theorem i106_7 : mm_cd 106 7 = some (.bipush 57, 2, 0, 0) := rfl
theorem i106_9 : mm_cd 106 9 = some (.invokevirtual 26, 3, 0, 103) := rfl
theorem i106_12 : mm_cd 106 12 = some (.ireturn, 1, 0, 0) := rfl
/-- SerialGate$Tape.isAtNumber()Z -/
def q106 (s : mS) : Option mQ := bN (q103 (s.1 1 2) (48 : Int32) (57 : Int32) s) fun x2 s1 => gB x2 <| rv x2 s1
theorem c106 {L : Nat} {xs : Nat → Int32} {s : mS} {r : mQ} (h : q106 s = some r) : ∀ d, 1 ≤ d → Cl L xs d 106 [.ref 1] (hp s) (hr r) := by
  intro d hd
  show Ev L xs d 106 0 [(0, .ref 1)] [] (hp s) (hr r)
  unfold q106 at h
  refine Ev.aload_n H106 i106_0 rfl ?_
  refine Ev.aload_n H106 i106_1 rfl ?_
  refine Rd.getI H106 i106_2 ob8 rfl ?_
  refine Ev.bipush H106 i106_5 kB_48 ?_
  refine Ev.bipush H106 i106_7 kB_57 ?_
  refine Rd.cV3vN H106 i106_9 cal103 ob8 (Nat.le_of_ble_eq_true rfl) (Nat.le_of_ble_eq_true rfl) (Nat.lt_of_lt_of_le (by decide) hd) (fun q hq => c103 hq) h (fun x2 s1 h => ?_)
  exact Rd.ireturnZ H106 i106_12 rfl h
theorem i95_0 : mm_cd 95 0 = some (.iconst 0, 1, 0, 0) := rfl
theorem i95_1 : mm_cd 95 1 = some (.istore_n 1, 1, 0, 0) := rfl
theorem i95_2 : mm_cd 95 2 = some (.iconst 0, 1, 0, 0) := rfl
theorem i95_3 : mm_cd 95 3 = some (.istore_n 2, 1, 0, 0) := rfl
theorem i95_4 : mm_cd 95 4 = some (.iload_n 2, 1, 0, 0) := rfl
theorem i95_5 : mm_cd 95 5 = some (.bipush 10, 2, 0, 0) := rfl
theorem i95_7 : mm_cd 95 7 = some (.if_icmp .ge 44, 3, 0, 0) := rfl
theorem i95_10 : mm_cd 95 10 = some (.aload_n 0, 1, 0, 0) := rfl
theorem i95_11 : mm_cd 95 11 = some (.getfield 9, 3, ((7 : Nat) : Int), 0) := rfl
theorem i95_14 : mm_cd 95 14 = some (.bipush 9, 2, 0, 0) := rfl
theorem i95_16 : mm_cd 95 16 = some (.invokevirtual 61, 3, 0, 108) := rfl
theorem i95_19 : mm_cd 95 19 = some (.istore_n 3, 1, 0, 0) := rfl
theorem i95_20 : mm_cd 95 20 = some (.iload_n 3, 1, 0, 0) := rfl
theorem i95_21 : mm_cd 95 21 = some (.iconst (-1), 1, 0, 0) := rfl
theorem i95_22 : mm_cd 95 22 = some (.if_icmp .ne 5, 3, 0, 0) := rfl
theorem i95_25 : mm_cd 95 25 = some (.iconst (-1), 1, 0, 0) := rfl
theorem i95_26 : mm_cd 95 26 = some (.ireturn, 1, 0, 0) := rfl
theorem i95_27 : mm_cd 95 27 = some (.iload_n 1, 1, 0, 0) := rfl
theorem i95_28 : mm_cd 95 28 = some (.iconst 1, 1, 0, 0) := rfl
theorem i95_29 : mm_cd 95 29 = some (.iload_n 3, 1, 0, 0) := rfl
theorem i95_30 : mm_cd 95 30 = some (.ishl, 1, 0, 0) := rfl
theorem i95_31 : mm_cd 95 31 = some (.ior, 1, 0, 0) := rfl
theorem i95_32 : mm_cd 95 32 = some (.istore_n 1, 1, 0, 0) := rfl
theorem i95_33 : mm_cd 95 33 = some (.aload_n 0, 1, 0, 0) := rfl
theorem i95_34 : mm_cd 95 34 = some (.getfield 9, 3, ((7 : Nat) : Int), 0) := rfl
theorem i95_37 : mm_cd 95 37 = some (.invokevirtual 85, 3, 0, 106) := rfl
theorem i95_40 : mm_cd 95 40 = some (.ifCond .ne 5, 3, 0, 0) := rfl
theorem i95_43 : mm_cd 95 43 = some (.iload_n 1, 1, 0, 0) := rfl
theorem i95_44 : mm_cd 95 44 = some (.ireturn, 1, 0, 0) := rfl
theorem i95_45 : mm_cd 95 45 = some (.iinc 2 1, 3, 0, 0) := rfl
theorem i95_48 : mm_cd 95 48 = some (.goto (-44), 3, 0, 0) := rfl
theorem i95_51 : mm_cd 95 51 = some (.iconst (-1), 1, 0, 0) := rfl
theorem i95_52 : mm_cd 95 52 = some (.ireturn, 1, 0, 0) := rfl
def q95_4 : Nat → Int32 → Int32 → mS → Option mQ
  | 0, _, _, _ => none
  | n + 1, v1, v2, s => if (10 : Int32) ≤ v2 then (rv (-1 : Int32) s) else (bN (q108 (9 : Int32) s) fun x2 s1 => if ¬ x2 = (-1 : Int32) then (bx (v1 ||| (shlI (1 : Int32) x2)) fun x3 => bN (q106 s1) fun x5 s4 => if ¬ x5 = 0 then (bx (v2 + (1 : Int32)) fun x6 => q95_4 n x3 x6 s4) else (rv x3 s4)) else (rv (-1 : Int32) s1))
theorem t95_4 {L : Nat} {xs : Nat → Int32} {d : Nat} (hd : 3 ≤ d) : ∀ (n : Nat) (v1 : Int32) (v2 : Int32) (s : mS) (r : mQ), q95_4 n v1 v2 s = some r → Ev L xs d 95 4 [(0, .ref 122), (1, .int v1), (2, .int v2)] [] (hp s) (hr r) := by
  intro n
  induction n with
  | zero => intro v1 v2 s r h; rw [q95_4] at h; cases h
  | succ n ih =>
    intro v1 v2 s r h
    rw [q95_4] at h
    refine Ev.iload_n H95 i95_4 rfl ?_
    refine Ev.bipush H95 i95_5 kB_10 ?_
    refine Rd.ic_ge H95 i95_7 (t := 51) (by decide) h (fun hc h => ?_) (fun hc h => ?_)
    · refine Ev.iconst H95 i95_51 kI_m1 ?_
      exact Rd.ireturn H95 i95_52 rfl h
    · refine Ev.aload_n H95 i95_10 rfl ?_
      refine Rd.getR H95 i95_11 ob7 rfl ?_
      refine Ev.bipush H95 i95_14 kB_9 ?_
      refine Rd.cV1vN H95 i95_16 cal108 ob8 (Nat.le_of_ble_eq_true rfl) (Nat.le_of_ble_eq_true rfl) (Nat.lt_of_lt_of_le (by decide) hd) (fun q hq => c108 hq) h (fun x2 s1 h => ?_)
      refine Ev.istore_n H95 i95_19 (Nat.le_of_ble_eq_true rfl) (lv2 := [(3, .int x2), (0, .ref 122), (1, .int v1), (2, .int v2)]) rfl ?_
      refine Ev.iload_n H95 i95_20 rfl ?_
      refine Ev.iconst H95 i95_21 kI_m1 ?_
      refine Rd.ic_ne H95 i95_22 (t := 27) (by decide) h (fun hc h => ?_) (fun hc h => ?_)
      · refine Ev.iload_n H95 i95_27 rfl ?_
        refine Ev.iconst H95 i95_28 kI_1 ?_
        refine Ev.iload_n H95 i95_29 rfl ?_
        refine Rd.ishl H95 i95_30 ?_
        refine Ev.ior H95 i95_31 ?_
        refine Rd.istore_n H95 i95_32 (Nat.le_of_ble_eq_true rfl) (lv2 := fun x3 => [(1, .int x3), (3, .int x2), (0, .ref 122), (2, .int v2)]) (fun _ => rfl) h (fun x3 h => ?_)
        refine Ev.aload_n H95 i95_33 rfl ?_
        refine Rd.getR H95 i95_34 ob7 rfl ?_
        refine Rd.cV0vN H95 i95_37 cal106 ob8 (Nat.le_of_ble_eq_true rfl) (Nat.le_of_ble_eq_true rfl) (Nat.lt_of_lt_of_le (by decide) hd) (fun q hq => c106 hq) h (fun x5 s4 h => ?_)
        refine Rd.if_ne H95 i95_40 (t := 45) (by decide) h (fun hc h => ?_) (fun hc h => ?_)
        · refine Rd.iinc H95 i95_45 (Nat.le_of_ble_eq_true rfl) rfl kI_1 (lv2 := fun x6 => [(2, .int x6), (1, .int x3), (3, .int x2), (0, .ref 122)]) (fun _ => rfl) h (fun x6 h => ?_)
          refine Ev.goto H95 i95_48 (t := 4) (by decide) ?_
          exact Ev.sub (l := [(0, .ref 122), (1, .int x3), (2, .int x6)]) rfl rfl (mm_sub_c rfl (mm_sub_c rfl (mm_sub_c rfl mm_sub_n))) (ih _ _ _ _ h)
        · refine Ev.iload_n H95 i95_43 rfl ?_
          exact Rd.ireturn H95 i95_44 rfl h
      · refine Ev.iconst H95 i95_25 kI_m1 ?_
        exact Rd.ireturn H95 i95_26 rfl h
/-- SerialGate$StoreReader.takenKeys()I -/
def q95 (s : mS) : Option mQ := q95_4 10000 (0 : Int32) (0 : Int32) s
theorem c95 {L : Nat} {xs : Nat → Int32} {s : mS} {r : mQ} (h : q95 s = some r) : ∀ d, 3 ≤ d → Cl L xs d 95 [.ref 122] (hp s) (hr r) := by
  intro d hd
  show Ev L xs d 95 0 [(0, .ref 122)] [] (hp s) (hr r)
  unfold q95 at h
  refine Ev.iconst H95 i95_0 kI_0 ?_
  refine Ev.istore_n H95 i95_1 (Nat.le_of_ble_eq_true rfl) (lv2 := [(1, .int (0 : Int32)), (0, .ref 122)]) rfl ?_
  refine Ev.iconst H95 i95_2 kI_0 ?_
  refine Ev.istore_n H95 i95_3 (Nat.le_of_ble_eq_true rfl) (lv2 := [(2, .int (0 : Int32)), (1, .int (0 : Int32)), (0, .ref 122)]) rfl ?_
  exact Ev.sub (l := [(0, .ref 122), (1, .int (0 : Int32)), (2, .int (0 : Int32))]) rfl rfl (mm_sub_c rfl (mm_sub_c rfl (mm_sub_c rfl mm_sub_n))) (t95_4 hd 10000 _ _ _ _ h)
theorem i94_0 : mm_cd 94 0 = some (.iconst 0, 1, 0, 0) := rfl
theorem i94_1 : mm_cd 94 1 = some (.istore_n 2, 1, 0, 0) := rfl
theorem i94_2 : mm_cd 94 2 = some (.iconst 0, 1, 0, 0) := rfl
theorem i94_3 : mm_cd 94 3 = some (.istore_n 3, 1, 0, 0) := rfl
theorem i94_4 : mm_cd 94 4 = some (.aload_n 0, 1, 0, 0) := rfl
theorem i94_5 : mm_cd 94 5 = some (.getfield 9, 3, ((7 : Nat) : Int), 0) := rfl
theorem i94_8 : mm_cd 94 8 = some (.ldc 71, 2, 0, 2) := rfl
theorem i94_10 : mm_cd 94 10 = some (.invokevirtual 46, 3, 0, 105) := rfl
theorem i94_13 : mm_cd 94 13 = some (.ifCond .eq 8, 3, 0, 0) := rfl
theorem i94_16 : mm_cd 94 16 = some (.aload_n 0, 1, 0, 0) := rfl
theorem i94_17 : mm_cd 94 17 = some (.invokevirtual 73, 3, 0, 95) := rfl
theorem i94_20 : mm_cd 94 20 = some (.istore_n 2, 1, 0, 0) := rfl
theorem i94_21 : mm_cd 94 21 = some (.iload_n 2, 1, 0, 0) := rfl
theorem i94_22 : mm_cd 94 22 = some (.iconst (-1), 1, 0, 0) := rfl
theorem i94_23 : mm_cd 94 23 = some (.if_icmp .eq 20, 3, 0, 0) := rfl
theorem i94_26 : mm_cd 94 26 = some (.aload_n 0, 1, 0, 0) := rfl
theorem i94_27 : mm_cd 94 27 = some (.getfield 9, 3, ((7 : Nat) : Int), 0) := rfl
theorem i94_30 : mm_cd 94 30 = some (.ldc 77, 2, 0, 3) := rfl
theorem i94_32 : mm_cd 94 32 = some (.invokevirtual 46, 3, 0, 105) := rfl
theorem i94_35 : mm_cd 94 35 = some (.ifCond .eq 8, 3, 0, 0) := rfl
theorem i94_38 : mm_cd 94 38 = some (.aload_n 0, 1, 0, 0) := rfl
theorem i94_39 : mm_cd 94 39 = some (.invokevirtual 73, 3, 0, 95) := rfl
theorem i94_42 : mm_cd 94 42 = some (.istore_n 3, 1, 0, 0) := rfl
theorem i94_43 : mm_cd 94 43 = some (.iload_n 2, 1, 0, 0) := rfl
theorem i94_44 : mm_cd 94 44 = some (.iconst (-1), 1, 0, 0) := rfl
theorem i94_45 : mm_cd 94 45 = some (.if_icmp .eq 8, 3, 0, 0) := rfl
theorem i94_48 : mm_cd 94 48 = some (.iload_n 3, 1, 0, 0) := rfl
theorem i94_49 : mm_cd 94 49 = some (.iconst (-1), 1, 0, 0) := rfl
theorem i94_50 : mm_cd 94 50 = some (.if_icmp .ne 5, 3, 0, 0) := rfl
theorem i94_53 : mm_cd 94 53 = some (.iconst 0, 1, 0, 0) := rfl
theorem i94_54 : mm_cd 94 54 = some (.ireturn, 1, 0, 0) := rfl
theorem i94_55 : mm_cd 94 55 = some (.iload_n 3, 1, 0, 0) := rfl
theorem i94_56 : mm_cd 94 56 = some (.ifCond .ne 19, 3, 0, 0) := rfl
theorem i94_59 : mm_cd 94 59 = some (.aload_n 0, 1, 0, 0) := rfl
theorem i94_60 : mm_cd 94 60 = some (.getfield 9, 3, ((7 : Nat) : Int), 0) := rfl
theorem i94_63 : mm_cd 94 63 = some (.ldc 79, 2, 0, 4) := rfl
theorem i94_65 : mm_cd 94 65 = some (.invokevirtual 46, 3, 0, 105) := rfl
theorem i94_68 : mm_cd 94 68 = some (.ifCond .eq 7, 3, 0, 0) := rfl
theorem i94_71 : mm_cd 94 71 = some (.iconst 1, 1, 0, 0) := rfl
theorem i94_72 : mm_cd 94 72 = some (.goto 4, 3, 0, 0) := rfl
theorem i94_75 : mm_cd 94 75 = some (.iconst 0, 1, 0, 0) := rfl
theorem i94_76 : mm_cd 94 76 = some (.istore 4, 2, 0, 0) := rfl
theorem i94_78 : mm_cd 94 78 = some (.aload_n 1, 1, 0, 0) := rfl
theorem i94_79 : mm_cd 94 79 = some (.iload_n 2, 1, 0, 0) := rfl
theorem i94_80 : mm_cd 94 80 = some (.iload_n 3, 1, 0, 0) := rfl
theorem i94_81 : mm_cd 94 81 = some (.iload 4, 2, 0, 0) := rfl
theorem i94_83 : mm_cd 94 83 = some (.invokevirtual 81, 3, 0, 2) := rfl
theorem i94_86 : mm_cd 94 86 = some (.iconst 1, 1, 0, 0) := rfl
theorem i94_87 : mm_cd 94 87 = some (.ireturn, 1, 0, 0) := rfl
def q94_76 (b : Nat) (v2 : Int32) (v3 : Int32) (y0 : Int32) (s : mS) : Option mQ := bM (q2 b v2 v3 y0 s) fun s1 => rv (1 : Int32) s1
theorem t94_76 {L : Nat} {xs : Nat → Int32} {d : Nat} {b : Nat} (mb : b ∈ A0) (hd : 4 ≤ d) {v2 : Int32} {v3 : Int32} {y0 : Int32} {s : mS} {r : mQ} (h : q94_76 b v2 v3 y0 s = some r) : Ev L xs d 94 76 [(1, .ref b), (2, .int v2), (3, .int v3)] [.int y0] (hp s) (hr r) := by
  unfold q94_76 at h
  refine Ev.istore H94 i94_76 (Nat.le_of_ble_eq_true rfl) (lv2 := [(4, .int y0), (1, .ref b), (2, .int v2), (3, .int v3)]) rfl ?_
  refine Ev.aload_n H94 i94_78 rfl ?_
  refine Ev.iload_n H94 i94_79 rfl ?_
  refine Ev.iload_n H94 i94_80 rfl ?_
  refine Ev.iload H94 i94_81 rfl ?_
  refine Rd.cV3uN H94 i94_83 cal2 (ob0 mb) (Nat.le_of_ble_eq_true rfl) (Nat.le_of_ble_eq_true rfl) (Nat.lt_of_lt_of_le (by decide) hd) (fun q hq => c2 mb hq) h (fun s1 h => ?_)
  refine Ev.iconst H94 i94_86 kI_1 ?_
  exact Rd.ireturnK H94 i94_87 rfl (Or.inr rfl) h
def q94_75 (b : Nat) (v2 : Int32) (v3 : Int32) (s : mS) : Option mQ := q94_76 b v2 v3 (0 : Int32) s
theorem t94_75 {L : Nat} {xs : Nat → Int32} {d : Nat} {b : Nat} (mb : b ∈ A0) (hd : 4 ≤ d) {v2 : Int32} {v3 : Int32} {s : mS} {r : mQ} (h : q94_75 b v2 v3 s = some r) : Ev L xs d 94 75 [(1, .ref b), (2, .int v2), (3, .int v3)] [] (hp s) (hr r) := by
  unfold q94_75 at h
  refine Ev.iconst H94 i94_75 kI_0 ?_
  exact Ev.sub (l := [(1, .ref b), (2, .int v2), (3, .int v3)]) rfl rfl (mm_sub_c rfl (mm_sub_c rfl (mm_sub_c rfl mm_sub_n))) (t94_76 mb hd h)
def q94_43 (b : Nat) (v2 : Int32) (v3 : Int32) (s : mS) : Option mQ := if v2 = (-1 : Int32) then (rv (0 : Int32) s) else (if ¬ v3 = (-1 : Int32) then (if ¬ v3 = 0 then (q94_75 b v2 v3 s) else (bN (q105 3 s) fun x3 s2 => if x3 = 0 then (q94_75 b v2 v3 s2) else (q94_76 b v2 v3 (1 : Int32) s2))) else (rv (0 : Int32) s))
theorem t94_43 {L : Nat} {xs : Nat → Int32} {d : Nat} {b : Nat} (mb : b ∈ A0) (hd : 4 ≤ d) {v2 : Int32} {v3 : Int32} {s : mS} {r : mQ} (h : q94_43 b v2 v3 s = some r) : Ev L xs d 94 43 [(0, .ref 122), (1, .ref b), (2, .int v2), (3, .int v3)] [] (hp s) (hr r) := by
  unfold q94_43 at h
  refine Ev.iload_n H94 i94_43 rfl ?_
  refine Ev.iconst H94 i94_44 kI_m1 ?_
  refine Rd.ic_eq H94 i94_45 (t := 53) (by decide) h (fun hc h => ?_) (fun hc h => ?_)
  · refine Ev.iconst H94 i94_53 kI_0 ?_
    exact Rd.ireturnK H94 i94_54 rfl (Or.inl rfl) h
  · refine Ev.iload_n H94 i94_48 rfl ?_
    refine Ev.iconst H94 i94_49 kI_m1 ?_
    refine Rd.ic_ne H94 i94_50 (t := 55) (by decide) h (fun hc h => ?_) (fun hc h => ?_)
    · refine Ev.iload_n H94 i94_55 rfl ?_
      refine Rd.if_ne H94 i94_56 (t := 75) (by decide) h (fun hc h => ?_) (fun hc h => ?_)
      · exact Ev.sub (l := [(1, .ref b), (2, .int v2), (3, .int v3)]) rfl rfl (mm_sub_c rfl (mm_sub_c rfl (mm_sub_c rfl mm_sub_n))) (t94_75 mb hd h)
      · refine Ev.aload_n H94 i94_59 rfl ?_
        refine Rd.getR H94 i94_60 ob7 rfl ?_
        refine Ev.ldcT H94 i94_63 ?_
        refine Rd.cV1vN H94 i94_65 cal105 ob8 (Nat.le_of_ble_eq_true rfl) (Nat.le_of_ble_eq_true rfl) (Nat.lt_of_lt_of_le (by decide) hd) (fun q hq => c105 (by decide) hq) h (fun x3 s2 h => ?_)
        refine Rd.if_eq H94 i94_68 (t := 75) (by decide) h (fun hc h => ?_) (fun hc h => ?_)
        · exact Ev.sub (l := [(1, .ref b), (2, .int v2), (3, .int v3)]) rfl rfl (mm_sub_c rfl (mm_sub_c rfl (mm_sub_c rfl mm_sub_n))) (t94_75 mb hd h)
        · refine Ev.iconst H94 i94_71 kI_1 ?_
          refine Ev.goto H94 i94_72 (t := 76) (by decide) ?_
          exact Ev.sub (l := [(1, .ref b), (2, .int v2), (3, .int v3)]) rfl rfl (mm_sub_c rfl (mm_sub_c rfl (mm_sub_c rfl mm_sub_n))) (t94_76 mb hd h)
    · refine Ev.iconst H94 i94_53 kI_0 ?_
      exact Rd.ireturnK H94 i94_54 rfl (Or.inl rfl) h
def q94_21 (b : Nat) (v2 : Int32) (v3 : Int32) (s : mS) : Option mQ := if v2 = (-1 : Int32) then (q94_43 b v2 v3 s) else (bN (q105 2 s) fun x5 s4 => if x5 = 0 then (q94_43 b v2 v3 s4) else (bN (q95 s4) fun x7 s6 => q94_43 b v2 x7 s6))
theorem t94_21 {L : Nat} {xs : Nat → Int32} {d : Nat} {b : Nat} (mb : b ∈ A0) (hd : 4 ≤ d) {v2 : Int32} {v3 : Int32} {s : mS} {r : mQ} (h : q94_21 b v2 v3 s = some r) : Ev L xs d 94 21 [(0, .ref 122), (1, .ref b), (2, .int v2), (3, .int v3)] [] (hp s) (hr r) := by
  unfold q94_21 at h
  refine Ev.iload_n H94 i94_21 rfl ?_
  refine Ev.iconst H94 i94_22 kI_m1 ?_
  refine Rd.ic_eq H94 i94_23 (t := 43) (by decide) h (fun hc h => ?_) (fun hc h => ?_)
  · exact Ev.sub (l := [(0, .ref 122), (1, .ref b), (2, .int v2), (3, .int v3)]) rfl rfl (mm_sub_c rfl (mm_sub_c rfl (mm_sub_c rfl (mm_sub_c rfl mm_sub_n)))) (t94_43 mb hd h)
  · refine Ev.aload_n H94 i94_26 rfl ?_
    refine Rd.getR H94 i94_27 ob7 rfl ?_
    refine Ev.ldcT H94 i94_30 ?_
    refine Rd.cV1vN H94 i94_32 cal105 ob8 (Nat.le_of_ble_eq_true rfl) (Nat.le_of_ble_eq_true rfl) (Nat.lt_of_lt_of_le (by decide) hd) (fun q hq => c105 (by decide) hq) h (fun x5 s4 h => ?_)
    refine Rd.if_eq H94 i94_35 (t := 43) (by decide) h (fun hc h => ?_) (fun hc h => ?_)
    · exact Ev.sub (l := [(0, .ref 122), (1, .ref b), (2, .int v2), (3, .int v3)]) rfl rfl (mm_sub_c rfl (mm_sub_c rfl (mm_sub_c rfl (mm_sub_c rfl mm_sub_n)))) (t94_43 mb hd h)
    · refine Ev.aload_n H94 i94_38 rfl ?_
      refine Rd.cV0vN H94 i94_39 cal95 ob7 (Nat.le_of_ble_eq_true rfl) (Nat.le_of_ble_eq_true rfl) (Nat.lt_of_lt_of_le (by decide) hd) (fun q hq => c95 hq) h (fun x7 s6 h => ?_)
      refine Ev.istore_n H94 i94_42 (Nat.le_of_ble_eq_true rfl) (lv2 := [(3, .int x7), (0, .ref 122), (1, .ref b), (2, .int v2)]) rfl ?_
      exact Ev.sub (l := [(0, .ref 122), (1, .ref b), (2, .int v2), (3, .int x7)]) rfl rfl (mm_sub_c rfl (mm_sub_c rfl (mm_sub_c rfl (mm_sub_c rfl mm_sub_n)))) (t94_43 mb hd h)
/-- SerialGate$StoreReader.readsClient(LSerialGate$Clients;)Z -/
def q94 (b : Nat) (s : mS) : Option mQ := bN (q105 1 s) fun x9 s8 => if x9 = 0 then (q94_21 b (0 : Int32) (0 : Int32) s8) else (bN (q95 s8) fun x11 s10 => q94_21 b x11 (0 : Int32) s10)
theorem c94 {L : Nat} {xs : Nat → Int32} {b : Nat} (mb : b ∈ A0) {s : mS} {r : mQ} (h : q94 b s = some r) : ∀ d, 4 ≤ d → Cl L xs d 94 [.ref 122, .ref b] (hp s) (hr r) := by
  intro d hd
  show Ev L xs d 94 0 [(0, .ref 122), (1, .ref b)] [] (hp s) (hr r)
  unfold q94 at h
  refine Ev.iconst H94 i94_0 kI_0 ?_
  refine Ev.istore_n H94 i94_1 (Nat.le_of_ble_eq_true rfl) (lv2 := [(2, .int (0 : Int32)), (0, .ref 122), (1, .ref b)]) rfl ?_
  refine Ev.iconst H94 i94_2 kI_0 ?_
  refine Ev.istore_n H94 i94_3 (Nat.le_of_ble_eq_true rfl) (lv2 := [(3, .int (0 : Int32)), (2, .int (0 : Int32)), (0, .ref 122), (1, .ref b)]) rfl ?_
  refine Ev.aload_n H94 i94_4 rfl ?_
  refine Rd.getR H94 i94_5 ob7 rfl ?_
  refine Ev.ldcT H94 i94_8 ?_
  refine Rd.cV1vN H94 i94_10 cal105 ob8 (Nat.le_of_ble_eq_true rfl) (Nat.le_of_ble_eq_true rfl) (Nat.lt_of_lt_of_le (by decide) hd) (fun q hq => c105 (by decide) hq) h (fun x9 s8 h => ?_)
  refine Rd.if_eq H94 i94_13 (t := 21) (by decide) h (fun hc h => ?_) (fun hc h => ?_)
  · exact Ev.sub (l := [(0, .ref 122), (1, .ref b), (2, .int (0 : Int32)), (3, .int (0 : Int32))]) rfl rfl (mm_sub_c rfl (mm_sub_c rfl (mm_sub_c rfl (mm_sub_c rfl mm_sub_n)))) (t94_21 mb hd h)
  · refine Ev.aload_n H94 i94_16 rfl ?_
    refine Rd.cV0vN H94 i94_17 cal95 ob7 (Nat.le_of_ble_eq_true rfl) (Nat.le_of_ble_eq_true rfl) (Nat.lt_of_lt_of_le (by decide) hd) (fun q hq => c95 hq) h (fun x11 s10 h => ?_)
    refine Ev.istore_n H94 i94_20 (Nat.le_of_ble_eq_true rfl) (lv2 := [(2, .int x11), (3, .int (0 : Int32)), (0, .ref 122), (1, .ref b)]) rfl ?_
    exact Ev.sub (l := [(0, .ref 122), (1, .ref b), (2, .int x11), (3, .int (0 : Int32))]) rfl rfl (mm_sub_c rfl (mm_sub_c rfl (mm_sub_c rfl (mm_sub_c rfl mm_sub_n)))) (t94_21 mb hd h)
theorem i96_0 : mm_cd 96 0 = some (.aload_n 0, 1, 0, 0) := rfl
theorem i96_1 : mm_cd 96 1 = some (.getfield 9, 3, ((7 : Nat) : Int), 0) := rfl
theorem i96_4 : mm_cd 96 4 = some (.bipush 9, 2, 0, 0) := rfl
theorem i96_6 : mm_cd 96 6 = some (.invokevirtual 88, 3, 0, 107) := rfl
theorem i96_9 : mm_cd 96 9 = some (.istore_n 2, 1, 0, 0) := rfl
theorem i96_10 : mm_cd 96 10 = some (.iload_n 2, 1, 0, 0) := rfl
theorem i96_11 : mm_cd 96 11 = some (.iconst (-1), 1, 0, 0) := rfl
theorem i96_12 : mm_cd 96 12 = some (.if_icmp .eq 15, 3, 0, 0) := rfl
theorem i96_15 : mm_cd 96 15 = some (.aload_n 1, 1, 0, 0) := rfl
theorem i96_16 : mm_cd 96 16 = some (.getfield 91, 3, ((9 : Nat) : Int), 2) := rfl
theorem i96_19 : mm_cd 96 19 = some (.iload_n 2, 1, 0, 0) := rfl
theorem i96_20 : mm_cd 96 20 = some (.invokevirtual 95, 3, 0, 72) := rfl
theorem i96_23 : mm_cd 96 23 = some (.iconst (-1), 1, 0, 0) := rfl
theorem i96_24 : mm_cd 96 24 = some (.if_icmp .eq 5, 3, 0, 0) := rfl
theorem i96_27 : mm_cd 96 27 = some (.iconst 0, 1, 0, 0) := rfl
theorem i96_28 : mm_cd 96 28 = some (.ireturn, 1, 0, 0) := rfl
theorem i96_29 : mm_cd 96 29 = some (.aload_n 0, 1, 0, 0) := rfl
theorem i96_30 : mm_cd 96 30 = some (.getfield 9, 3, ((7 : Nat) : Int), 0) := rfl
theorem i96_33 : mm_cd 96 33 = some (.bipush 9, 2, 0, 0) := rfl
theorem i96_35 : mm_cd 96 35 = some (.invokevirtual 61, 3, 0, 108) := rfl
theorem i96_38 : mm_cd 96 38 = some (.pop, 1, 0, 0) := rfl
theorem i96_39 : mm_cd 96 39 = some (.aload_n 0, 1, 0, 0) := rfl
theorem i96_40 : mm_cd 96 40 = some (.getfield 9, 3, ((7 : Nat) : Int), 0) := rfl
theorem i96_43 : mm_cd 96 43 = some (.sipush 999, 3, 0, 0) := rfl
theorem i96_46 : mm_cd 96 46 = some (.invokevirtual 61, 3, 0, 108) := rfl
theorem i96_49 : mm_cd 96 49 = some (.istore_n 3, 1, 0, 0) := rfl
theorem i96_50 : mm_cd 96 50 = some (.iload_n 3, 1, 0, 0) := rfl
theorem i96_51 : mm_cd 96 51 = some (.iconst (-1), 1, 0, 0) := rfl
theorem i96_52 : mm_cd 96 52 = some (.if_icmp .ne 5, 3, 0, 0) := rfl
theorem i96_55 : mm_cd 96 55 = some (.iconst 0, 1, 0, 0) := rfl
theorem i96_56 : mm_cd 96 56 = some (.ireturn, 1, 0, 0) := rfl
theorem i96_57 : mm_cd 96 57 = some (.aload_n 1, 1, 0, 0) := rfl
theorem i96_58 : mm_cd 96 58 = some (.getfield 100, 3, ((9 : Nat) : Int), 5) := rfl
theorem i96_61 : mm_cd 96 61 = some (.iload_n 2, 1, 0, 0) := rfl
theorem i96_62 : mm_cd 96 62 = some (.sipush 9999, 3, 0, 0) := rfl
theorem i96_65 : mm_cd 96 65 = some (.aload_n 1, 1, 0, 0) := rfl
theorem i96_66 : mm_cd 96 66 = some (.getfield 100, 3, ((9 : Nat) : Int), 5) := rfl
theorem i96_69 : mm_cd 96 69 = some (.iload_n 2, 1, 0, 0) := rfl
theorem i96_70 : mm_cd 96 70 = some (.iaload, 1, 0, 0) := rfl
theorem i96_71 : mm_cd 96 71 = some (.iload_n 3, 1, 0, 0) := rfl
theorem i96_72 : mm_cd 96 72 = some (.iadd, 1, 0, 0) := rfl
theorem i96_73 : mm_cd 96 73 = some (.invokestatic 103, 3, 3, 0) := rfl
theorem i96_76 : mm_cd 96 76 = some (.iastore, 1, 0, 0) := rfl
theorem i96_77 : mm_cd 96 77 = some (.iconst 1, 1, 0, 0) := rfl
theorem i96_78 : mm_cd 96 78 = some (.ireturn, 1, 0, 0) := rfl
/-- SerialGate$StoreReader.readsVersion(LSerialGate$World;)Z -/
def q96 (b : Nat) (s : mS) : Option mQ := bN (q107 (9 : Int32) s) fun x2 s1 => if x2 = (-1 : Int32) then (rv (0 : Int32) s1) else (bN (q72 (b + 6) x2 s1) fun x4 s3 => if x4 = (-1 : Int32) then (bN (q108 (9 : Int32) s3) fun x6 s5 => bN (q108 (999 : Int32) s5) fun x8 s7 => if ¬ x8 = (-1 : Int32) then (gA 10 x2 <| gA 10 x2 <| sp (sI s7 (b + 28) x2.toNatClampNeg (mnI (9999 : Int32) ((s7.1 (b + 28) x2.toNatClampNeg) + x8))) fun s9 => rv (1 : Int32) s9) else (rv (0 : Int32) s7)) else (rv (0 : Int32) s3))
theorem c96 {L : Nat} {xs : Nat → Int32} {b : Nat} (mb : b ∈ A9) {s : mS} {r : mQ} (h : q96 b s = some r) : ∀ d, 3 ≤ d → Cl L xs d 96 [.ref 122, .ref b] (hp s) (hr r) := by
  intro d hd
  show Ev L xs d 96 0 [(0, .ref 122), (1, .ref b)] [] (hp s) (hr r)
  unfold q96 at h
  refine Ev.aload_n H96 i96_0 rfl ?_
  refine Rd.getR H96 i96_1 ob7 rfl ?_
  refine Ev.bipush H96 i96_4 kB_9 ?_
  refine Rd.cV1vN H96 i96_6 cal107 ob8 (Nat.le_of_ble_eq_true rfl) (Nat.le_of_ble_eq_true rfl) (Nat.lt_of_lt_of_le (by decide) hd) (fun q hq => c107 hq) h (fun x2 s1 h => ?_)
  refine Ev.istore_n H96 i96_9 (Nat.le_of_ble_eq_true rfl) (lv2 := [(2, .int x2), (0, .ref 122), (1, .ref b)]) rfl ?_
  refine Ev.iload_n H96 i96_10 rfl ?_
  refine Ev.iconst H96 i96_11 kI_m1 ?_
  refine Rd.ic_eq H96 i96_12 (t := 27) (by decide) h (fun hc h => ?_) (fun hc h => ?_)
  · refine Ev.iconst H96 i96_27 kI_0 ?_
    exact Rd.ireturnK H96 i96_28 rfl (Or.inl rfl) h
  · refine Ev.aload_n H96 i96_15 rfl ?_
    refine Rd.getR H96 i96_16 (ob9 mb) rfl ?_
    refine Ev.iload_n H96 i96_19 rfl ?_
    refine Rd.cV1vN H96 i96_20 cal72 (ob6 (m9_6_6 mb)) (Nat.le_of_ble_eq_true rfl) (Nat.le_of_ble_eq_true rfl) (Nat.lt_of_lt_of_le (by decide) hd) (fun q hq => c72 (m9_6_6 mb) hq) h (fun x4 s3 h => ?_)
    refine Ev.iconst H96 i96_23 kI_m1 ?_
    refine Rd.ic_eq H96 i96_24 (t := 29) (by decide) h (fun hc h => ?_) (fun hc h => ?_)
    · refine Ev.aload_n H96 i96_29 rfl ?_
      refine Rd.getR H96 i96_30 ob7 rfl ?_
      refine Ev.bipush H96 i96_33 kB_9 ?_
      refine Rd.cV1vN H96 i96_35 cal108 ob8 (Nat.le_of_ble_eq_true rfl) (Nat.le_of_ble_eq_true rfl) (Nat.lt_of_lt_of_le (by decide) hd) (fun q hq => c108 hq) h (fun x6 s5 h => ?_)
      refine Ev.pop H96 i96_38 rfl ?_
      refine Ev.aload_n H96 i96_39 rfl ?_
      refine Rd.getR H96 i96_40 ob7 rfl ?_
      refine Ev.sipush H96 i96_43 kS_999 ?_
      refine Rd.cV1vN H96 i96_46 cal108 ob8 (Nat.le_of_ble_eq_true rfl) (Nat.le_of_ble_eq_true rfl) (Nat.lt_of_lt_of_le (by decide) hd) (fun q hq => c108 hq) h (fun x8 s7 h => ?_)
      refine Ev.istore_n H96 i96_49 (Nat.le_of_ble_eq_true rfl) (lv2 := [(3, .int x8), (2, .int x2), (0, .ref 122), (1, .ref b)]) rfl ?_
      refine Ev.iload_n H96 i96_50 rfl ?_
      refine Ev.iconst H96 i96_51 kI_m1 ?_
      refine Rd.ic_ne H96 i96_52 (t := 57) (by decide) h (fun hc h => ?_) (fun hc h => ?_)
      · refine Ev.aload_n H96 i96_57 rfl ?_
        refine Rd.getR H96 i96_58 (ob9 mb) rfl ?_
        refine Ev.iload_n H96 i96_61 rfl ?_
        refine Ev.sipush H96 i96_62 kS_9999 ?_
        refine Ev.aload_n H96 i96_65 rfl ?_
        refine Rd.getR H96 i96_66 (ob9 mb) rfl ?_
        refine Ev.iload_n H96 i96_69 rfl ?_
        refine Rd.iaload H96 i96_70 (ar9_28 mb) h (fun h => ?_)
        refine Ev.iload_n H96 i96_71 rfl ?_
        refine Ev.iadd H96 i96_72 ?_
        refine Rd.min H96 i96_73 (Nat.le_of_ble_eq_true rfl) ?_
        refine Rd.iastore H96 i96_76 (ar9_28 mb) h (fun s9 h => ?_)
        refine Ev.iconst H96 i96_77 kI_1 ?_
        exact Rd.ireturnK H96 i96_78 rfl (Or.inr rfl) h
      · refine Ev.iconst H96 i96_55 kI_0 ?_
        exact Rd.ireturnK H96 i96_56 rfl (Or.inl rfl) h
    · refine Ev.iconst H96 i96_27 kI_0 ?_
      exact Rd.ireturnK H96 i96_28 rfl (Or.inl rfl) h
theorem i93_0 : mm_cd 93 0 = some (.aload_n 1, 1, 0, 0) := rfl
theorem i93_1 : mm_cd 93 1 = some (.getfield 32, 3, ((9 : Nat) : Int), 1) := rfl
theorem i93_4 : mm_cd 93 4 = some (.getfield 38, 3, ((0 : Nat) : Int), 0) := rfl
theorem i93_7 : mm_cd 93 7 = some (.iconst 5, 1, 0, 0) := rfl
theorem i93_8 : mm_cd 93 8 = some (.if_icmp .ge 24, 3, 0, 0) := rfl
theorem i93_11 : mm_cd 93 11 = some (.aload_n 0, 1, 0, 0) := rfl
theorem i93_12 : mm_cd 93 12 = some (.getfield 9, 3, ((7 : Nat) : Int), 0) := rfl
theorem i93_15 : mm_cd 93 15 = some (.ldc 44, 2, 0, 1) := rfl
theorem i93_17 : mm_cd 93 17 = some (.invokevirtual 46, 3, 0, 105) := rfl
theorem i93_20 : mm_cd 93 20 = some (.ifCond .eq 12, 3, 0, 0) := rfl
theorem i93_23 : mm_cd 93 23 = some (.aload_n 0, 1, 0, 0) := rfl
theorem i93_24 : mm_cd 93 24 = some (.aload_n 1, 1, 0, 0) := rfl
theorem i93_25 : mm_cd 93 25 = some (.getfield 32, 3, ((9 : Nat) : Int), 1) := rfl
theorem i93_28 : mm_cd 93 28 = some (.invokevirtual 50, 3, 0, 94) := rfl
theorem i93_31 : mm_cd 93 31 = some (.ireturn, 1, 0, 0) := rfl
theorem i93_32 : mm_cd 93 32 = some (.aload_n 0, 1, 0, 0) := rfl
theorem i93_33 : mm_cd 93 33 = some (.getfield 9, 3, ((7 : Nat) : Int), 0) := rfl
theorem i93_36 : mm_cd 93 36 = some (.ldc 54, 2, 0, 5) := rfl
theorem i93_38 : mm_cd 93 38 = some (.invokevirtual 46, 3, 0, 105) := rfl
theorem i93_41 : mm_cd 93 41 = some (.ifCond .eq 9, 3, 0, 0) := rfl
theorem i93_44 : mm_cd 93 44 = some (.aload_n 0, 1, 0, 0) := rfl
theorem i93_45 : mm_cd 93 45 = some (.aload_n 1, 1, 0, 0) := rfl
theorem i93_46 : mm_cd 93 46 = some (.invokevirtual 56, 3, 0, 96) := rfl
theorem i93_49 : mm_cd 93 49 = some (.ireturn, 1, 0, 0) := rfl
theorem i93_50 : mm_cd 93 50 = some (.aload_n 0, 1, 0, 0) := rfl
theorem i93_51 : mm_cd 93 51 = some (.getfield 9, 3, ((7 : Nat) : Int), 0) := rfl
theorem i93_54 : mm_cd 93 54 = some (.ldc 59, 2, 0, 6) := rfl
theorem i93_56 : mm_cd 93 56 = some (.invokevirtual 46, 3, 0, 105) := rfl
theorem i93_59 : mm_cd 93 59 = some (.ifCond .eq 41, 3, 0, 0) := rfl
theorem i93_62 : mm_cd 93 62 = some (.aload_n 0, 1, 0, 0) := rfl
theorem i93_63 : mm_cd 93 63 = some (.getfield 9, 3, ((7 : Nat) : Int), 0) := rfl
theorem i93_66 : mm_cd 93 66 = some (.bipush 6, 2, 0, 0) := rfl
theorem i93_68 : mm_cd 93 68 = some (.invokevirtual 61, 3, 0, 108) := rfl
theorem i93_71 : mm_cd 93 71 = some (.istore_n 2, 1, 0, 0) := rfl
theorem i93_72 : mm_cd 93 72 = some (.aload_n 1, 1, 0, 0) := rfl
theorem i93_73 : mm_cd 93 73 = some (.iload_n 2, 1, 0, 0) := rfl
theorem i93_74 : mm_cd 93 74 = some (.iconst (-1), 1, 0, 0) := rfl
theorem i93_75 : mm_cd 93 75 = some (.if_icmp .ne 10, 3, 0, 0) := rfl
theorem i93_78 : mm_cd 93 78 = some (.aload_n 1, 1, 0, 0) := rfl
theorem i93_79 : mm_cd 93 79 = some (.getfield 65, 3, ((9 : Nat) : Int), 10) := rfl
theorem i93_82 : mm_cd 93 82 = some (.goto 4, 3, 0, 0) := rfl
theorem i93_85 : mm_cd 93 85 = some (.iload_n 2, 1, 0, 0) := rfl
theorem i93_86 : mm_cd 93 86 = some (.putfield 65, 3, ((9 : Nat) : Int), 10) := rfl
theorem i93_89 : mm_cd 93 89 = some (.iload_n 2, 1, 0, 0) := rfl
theorem i93_90 : mm_cd 93 90 = some (.iconst (-1), 1, 0, 0) := rfl
theorem i93_91 : mm_cd 93 91 = some (.if_icmp .eq 7, 3, 0, 0) := rfl
theorem i93_94 : mm_cd 93 94 = some (.iconst 1, 1, 0, 0) := rfl
theorem i93_95 : mm_cd 93 95 = some (.goto 4, 3, 0, 0) := rfl
theorem i93_98 : mm_cd 93 98 = some (.iconst 0, 1, 0, 0) := rfl
theorem i93_99 : mm_cd 93 99 = some (.ireturn, 1, 0, 0) := rfl
theorem i93_100 : mm_cd 93 100 = some (.aload_n 0, 1, 0, 0) := rfl
theorem i93_101 : mm_cd 93 101 = some (.getfield 9, 3, ((7 : Nat) : Int), 0) := rfl
theorem i93_104 : mm_cd 93 104 = some (.ldc 67, 2, 0, 7) := rfl
theorem i93_106 : mm_cd 93 106 = some (.invokevirtual 46, 3, 0, 105) := rfl
theorem i93_109 : mm_cd 93 109 = some (.ifCond .eq 42, 3, 0, 0) := rfl
theorem i93_112 : mm_cd 93 112 = some (.aload_n 0, 1, 0, 0) := rfl
theorem i93_113 : mm_cd 93 113 = some (.getfield 9, 3, ((7 : Nat) : Int), 0) := rfl
theorem i93_116 : mm_cd 93 116 = some (.sipush 999, 3, 0, 0) := rfl
theorem i93_119 : mm_cd 93 119 = some (.invokevirtual 61, 3, 0, 108) := rfl
theorem i93_122 : mm_cd 93 122 = some (.istore_n 2, 1, 0, 0) := rfl
theorem i93_123 : mm_cd 93 123 = some (.aload_n 1, 1, 0, 0) := rfl
theorem i93_124 : mm_cd 93 124 = some (.iload_n 2, 1, 0, 0) := rfl
theorem i93_125 : mm_cd 93 125 = some (.iconst (-1), 1, 0, 0) := rfl
theorem i93_126 : mm_cd 93 126 = some (.if_icmp .ne 10, 3, 0, 0) := rfl
theorem i93_129 : mm_cd 93 129 = some (.aload_n 1, 1, 0, 0) := rfl
theorem i93_130 : mm_cd 93 130 = some (.getfield 69, 3, ((9 : Nat) : Int), 11) := rfl
theorem i93_133 : mm_cd 93 133 = some (.goto 4, 3, 0, 0) := rfl
theorem i93_136 : mm_cd 93 136 = some (.iload_n 2, 1, 0, 0) := rfl
theorem i93_137 : mm_cd 93 137 = some (.putfield 69, 3, ((9 : Nat) : Int), 11) := rfl
theorem i93_140 : mm_cd 93 140 = some (.iload_n 2, 1, 0, 0) := rfl
theorem i93_141 : mm_cd 93 141 = some (.iconst (-1), 1, 0, 0) := rfl
theorem i93_142 : mm_cd 93 142 = some (.if_icmp .eq 7, 3, 0, 0) := rfl
theorem i93_145 : mm_cd 93 145 = some (.iconst 1, 1, 0, 0) := rfl
theorem i93_146 : mm_cd 93 146 = some (.goto 4, 3, 0, 0) := rfl
theorem i93_149 : mm_cd 93 149 = some (.iconst 0, 1, 0, 0) := rfl
theorem i93_150 : mm_cd 93 150 = some (.ireturn, 1, 0, 0) := rfl
theorem i93_151 : mm_cd 93 151 = some (.iconst 0, 1, 0, 0) := rfl
theorem i93_152 : mm_cd 93 152 = some (.ireturn, 1, 0, 0) := rfl
def q93_137 (b : Nat) (v2 : Int32) (y1 : Int32) (s : mS) : Option mQ := sp (sI s b 11 y1) fun s1 => if v2 = (-1 : Int32) then (rv (0 : Int32) s1) else (rv (1 : Int32) s1)
theorem t93_137 {L : Nat} {xs : Nat → Int32} {d : Nat} {b : Nat} (mb : b ∈ A9) (hd : 5 ≤ d) {v2 : Int32} {y1 : Int32} {s : mS} {r : mQ} (h : q93_137 b v2 y1 s = some r) : Ev L xs d 93 137 [(2, .int v2)] [.int y1, .ref b] (hp s) (hr r) := by
  unfold q93_137 at h
  refine Rd.putI H93 i93_137 (ob9 mb) rfl ty9_11.1 ty9_11.2 h (fun s1 h => ?_)
  refine Ev.iload_n H93 i93_140 rfl ?_
  refine Ev.iconst H93 i93_141 kI_m1 ?_
  refine Rd.ic_eq H93 i93_142 (t := 149) (by decide) h (fun hc h => ?_) (fun hc h => ?_)
  · refine Ev.iconst H93 i93_149 kI_0 ?_
    exact Rd.ireturnK H93 i93_150 rfl (Or.inl rfl) h
  · refine Ev.iconst H93 i93_145 kI_1 ?_
    refine Ev.goto H93 i93_146 (t := 150) (by decide) ?_
    exact Rd.ireturnK H93 i93_150 rfl (Or.inr rfl) h
def q93_86 (b : Nat) (v2 : Int32) (y1 : Int32) (s : mS) : Option mQ := sp (sI s b 10 y1) fun s2 => if v2 = (-1 : Int32) then (rv (0 : Int32) s2) else (rv (1 : Int32) s2)
theorem t93_86 {L : Nat} {xs : Nat → Int32} {d : Nat} {b : Nat} (mb : b ∈ A9) (hd : 5 ≤ d) {v2 : Int32} {y1 : Int32} {s : mS} {r : mQ} (h : q93_86 b v2 y1 s = some r) : Ev L xs d 93 86 [(2, .int v2)] [.int y1, .ref b] (hp s) (hr r) := by
  unfold q93_86 at h
  refine Rd.putI H93 i93_86 (ob9 mb) rfl ty9_10.1 ty9_10.2 h (fun s2 h => ?_)
  refine Ev.iload_n H93 i93_89 rfl ?_
  refine Ev.iconst H93 i93_90 kI_m1 ?_
  refine Rd.ic_eq H93 i93_91 (t := 98) (by decide) h (fun hc h => ?_) (fun hc h => ?_)
  · refine Ev.iconst H93 i93_98 kI_0 ?_
    exact Rd.ireturnK H93 i93_99 rfl (Or.inl rfl) h
  · refine Ev.iconst H93 i93_94 kI_1 ?_
    refine Ev.goto H93 i93_95 (t := 99) (by decide) ?_
    exact Rd.ireturnK H93 i93_99 rfl (Or.inr rfl) h
def q93_32 (b : Nat) (s : mS) : Option mQ := bN (q105 4 s) fun x4 s3 => if x4 = 0 then (bN (q105 5 s3) fun x6 s5 => if x6 = 0 then (bN (q105 6 s5) fun x8 s7 => if x8 = 0 then (rv (0 : Int32) s7) else (bN (q108 (999 : Int32) s7) fun x10 s9 => if ¬ x10 = (-1 : Int32) then (q93_137 b x10 x10 s9) else (q93_137 b x10 (s9.1 b 11) s9))) else (bN (q108 (6 : Int32) s5) fun x12 s11 => if ¬ x12 = (-1 : Int32) then (q93_86 b x12 x12 s11) else (q93_86 b x12 (s11.1 b 10) s11))) else (bN (q96 b s3) fun x14 s13 => gB x14 <| rv x14 s13)
theorem t93_32 {L : Nat} {xs : Nat → Int32} {d : Nat} {b : Nat} (mb : b ∈ A9) (hd : 5 ≤ d) {s : mS} {r : mQ} (h : q93_32 b s = some r) : Ev L xs d 93 32 [(0, .ref 122), (1, .ref b)] [] (hp s) (hr r) := by
  unfold q93_32 at h
  refine Ev.aload_n H93 i93_32 rfl ?_
  refine Rd.getR H93 i93_33 ob7 rfl ?_
  refine Ev.ldcT H93 i93_36 ?_
  refine Rd.cV1vN H93 i93_38 cal105 ob8 (Nat.le_of_ble_eq_true rfl) (Nat.le_of_ble_eq_true rfl) (Nat.lt_of_lt_of_le (by decide) hd) (fun q hq => c105 (by decide) hq) h (fun x4 s3 h => ?_)
  refine Rd.if_eq H93 i93_41 (t := 50) (by decide) h (fun hc h => ?_) (fun hc h => ?_)
  · refine Ev.aload_n H93 i93_50 rfl ?_
    refine Rd.getR H93 i93_51 ob7 rfl ?_
    refine Ev.ldcT H93 i93_54 ?_
    refine Rd.cV1vN H93 i93_56 cal105 ob8 (Nat.le_of_ble_eq_true rfl) (Nat.le_of_ble_eq_true rfl) (Nat.lt_of_lt_of_le (by decide) hd) (fun q hq => c105 (by decide) hq) h (fun x6 s5 h => ?_)
    refine Rd.if_eq H93 i93_59 (t := 100) (by decide) h (fun hc h => ?_) (fun hc h => ?_)
    · refine Ev.aload_n H93 i93_100 rfl ?_
      refine Rd.getR H93 i93_101 ob7 rfl ?_
      refine Ev.ldcT H93 i93_104 ?_
      refine Rd.cV1vN H93 i93_106 cal105 ob8 (Nat.le_of_ble_eq_true rfl) (Nat.le_of_ble_eq_true rfl) (Nat.lt_of_lt_of_le (by decide) hd) (fun q hq => c105 (by decide) hq) h (fun x8 s7 h => ?_)
      refine Rd.if_eq H93 i93_109 (t := 151) (by decide) h (fun hc h => ?_) (fun hc h => ?_)
      · refine Ev.iconst H93 i93_151 kI_0 ?_
        exact Rd.ireturnK H93 i93_152 rfl (Or.inl rfl) h
      · refine Ev.aload_n H93 i93_112 rfl ?_
        refine Rd.getR H93 i93_113 ob7 rfl ?_
        refine Ev.sipush H93 i93_116 kS_999 ?_
        refine Rd.cV1vN H93 i93_119 cal108 ob8 (Nat.le_of_ble_eq_true rfl) (Nat.le_of_ble_eq_true rfl) (Nat.lt_of_lt_of_le (by decide) hd) (fun q hq => c108 hq) h (fun x10 s9 h => ?_)
        refine Ev.istore_n H93 i93_122 (Nat.le_of_ble_eq_true rfl) (lv2 := [(2, .int x10), (0, .ref 122), (1, .ref b)]) rfl ?_
        refine Ev.aload_n H93 i93_123 rfl ?_
        refine Ev.iload_n H93 i93_124 rfl ?_
        refine Ev.iconst H93 i93_125 kI_m1 ?_
        refine Rd.ic_ne H93 i93_126 (t := 136) (by decide) h (fun hc h => ?_) (fun hc h => ?_)
        · refine Ev.iload_n H93 i93_136 rfl ?_
          exact Ev.sub (l := [(2, .int x10)]) rfl rfl (mm_sub_c rfl mm_sub_n) (t93_137 mb hd h)
        · refine Ev.aload_n H93 i93_129 rfl ?_
          refine Rd.getI H93 i93_130 (ob9 mb) rfl ?_
          refine Ev.goto H93 i93_133 (t := 137) (by decide) ?_
          exact Ev.sub (l := [(2, .int x10)]) rfl rfl (mm_sub_c rfl mm_sub_n) (t93_137 mb hd h)
    · refine Ev.aload_n H93 i93_62 rfl ?_
      refine Rd.getR H93 i93_63 ob7 rfl ?_
      refine Ev.bipush H93 i93_66 kB_6 ?_
      refine Rd.cV1vN H93 i93_68 cal108 ob8 (Nat.le_of_ble_eq_true rfl) (Nat.le_of_ble_eq_true rfl) (Nat.lt_of_lt_of_le (by decide) hd) (fun q hq => c108 hq) h (fun x12 s11 h => ?_)
      refine Ev.istore_n H93 i93_71 (Nat.le_of_ble_eq_true rfl) (lv2 := [(2, .int x12), (0, .ref 122), (1, .ref b)]) rfl ?_
      refine Ev.aload_n H93 i93_72 rfl ?_
      refine Ev.iload_n H93 i93_73 rfl ?_
      refine Ev.iconst H93 i93_74 kI_m1 ?_
      refine Rd.ic_ne H93 i93_75 (t := 85) (by decide) h (fun hc h => ?_) (fun hc h => ?_)
      · refine Ev.iload_n H93 i93_85 rfl ?_
        exact Ev.sub (l := [(2, .int x12)]) rfl rfl (mm_sub_c rfl mm_sub_n) (t93_86 mb hd h)
      · refine Ev.aload_n H93 i93_78 rfl ?_
        refine Rd.getI H93 i93_79 (ob9 mb) rfl ?_
        refine Ev.goto H93 i93_82 (t := 86) (by decide) ?_
        exact Ev.sub (l := [(2, .int x12)]) rfl rfl (mm_sub_c rfl mm_sub_n) (t93_86 mb hd h)
  · refine Ev.aload_n H93 i93_44 rfl ?_
    refine Ev.aload_n H93 i93_45 rfl ?_
    refine Rd.cV1vN H93 i93_46 cal96 ob7 (Nat.le_of_ble_eq_true rfl) (Nat.le_of_ble_eq_true rfl) (Nat.lt_of_lt_of_le (by decide) hd) (fun q hq => c96 mb hq) h (fun x14 s13 h => ?_)
    exact Rd.ireturnZ H93 i93_49 rfl h
/-- SerialGate$StoreReader.readsLine(LSerialGate$World;)Z -/
def q93 (b : Nat) (s : mS) : Option mQ := if (5 : Int32) ≤ (s.1 (b + 1) 0) then (q93_32 b s) else (bN (q105 0 s) fun x16 s15 => if x16 = 0 then (q93_32 b s15) else (bN (q94 (b + 1) s15) fun x18 s17 => gB x18 <| rv x18 s17))
theorem c93 {L : Nat} {xs : Nat → Int32} {b : Nat} (mb : b ∈ A9) {s : mS} {r : mQ} (h : q93 b s = some r) : ∀ d, 5 ≤ d → Cl L xs d 93 [.ref 122, .ref b] (hp s) (hr r) := by
  intro d hd
  show Ev L xs d 93 0 [(0, .ref 122), (1, .ref b)] [] (hp s) (hr r)
  unfold q93 at h
  refine Ev.aload_n H93 i93_0 rfl ?_
  refine Rd.getR H93 i93_1 (ob9 mb) rfl ?_
  refine Rd.getI H93 i93_4 (ob0 (m9_0_1 mb)) rfl ?_
  refine Ev.iconst H93 i93_7 kI_5 ?_
  refine Rd.ic_ge H93 i93_8 (t := 32) (by decide) h (fun hc h => ?_) (fun hc h => ?_)
  · exact Ev.sub (l := [(0, .ref 122), (1, .ref b)]) rfl rfl (mm_sub_c rfl (mm_sub_c rfl mm_sub_n)) (t93_32 mb hd h)
  · refine Ev.aload_n H93 i93_11 rfl ?_
    refine Rd.getR H93 i93_12 ob7 rfl ?_
    refine Ev.ldcT H93 i93_15 ?_
    refine Rd.cV1vN H93 i93_17 cal105 ob8 (Nat.le_of_ble_eq_true rfl) (Nat.le_of_ble_eq_true rfl) (Nat.lt_of_lt_of_le (by decide) hd) (fun q hq => c105 (by decide) hq) h (fun x16 s15 h => ?_)
    refine Rd.if_eq H93 i93_20 (t := 32) (by decide) h (fun hc h => ?_) (fun hc h => ?_)
    · exact Ev.sub (l := [(0, .ref 122), (1, .ref b)]) rfl rfl (mm_sub_c rfl (mm_sub_c rfl mm_sub_n)) (t93_32 mb hd h)
    · refine Ev.aload_n H93 i93_23 rfl ?_
      refine Ev.aload_n H93 i93_24 rfl ?_
      refine Rd.getR H93 i93_25 (ob9 mb) rfl ?_
      refine Rd.cV1vN H93 i93_28 cal94 ob7 (Nat.le_of_ble_eq_true rfl) (Nat.le_of_ble_eq_true rfl) (Nat.lt_of_lt_of_le (by decide) hd) (fun q hq => c94 (m9_0_1 mb) hq) h (fun x18 s17 h => ?_)
      exact Rd.ireturnZ H93 i93_31 rfl h
theorem i92_0 : mm_cd 92 0 = some (.aload_n 0, 1, 0, 0) := rfl
theorem i92_1 : mm_cd 92 1 = some (.getfield 9, 3, ((7 : Nat) : Int), 0) := rfl
theorem i92_4 : mm_cd 92 4 = some (.invokevirtual 15, 3, 0, 100) := rfl
theorem i92_7 : mm_cd 92 7 = some (.aload_n 0, 1, 0, 0) := rfl
theorem i92_8 : mm_cd 92 8 = some (.getfield 9, 3, ((7 : Nat) : Int), 0) := rfl
theorem i92_11 : mm_cd 92 11 = some (.invokevirtual 20, 3, 0, 101) := rfl
theorem i92_14 : mm_cd 92 14 = some (.ifCond .eq 5, 3, 0, 0) := rfl
theorem i92_17 : mm_cd 92 17 = some (.iconst 1, 1, 0, 0) := rfl
theorem i92_18 : mm_cd 92 18 = some (.ireturn, 1, 0, 0) := rfl
theorem i92_19 : mm_cd 92 19 = some (.iconst 0, 1, 0, 0) := rfl
theorem i92_20 : mm_cd 92 20 = some (.istore_n 2, 1, 0, 0) := rfl
theorem i92_21 : mm_cd 92 21 = some (.iload_n 2, 1, 0, 0) := rfl
theorem i92_22 : mm_cd 92 22 = some (.bipush 14, 2, 0, 0) := rfl
theorem i92_24 : mm_cd 92 24 = some (.if_icmp .ge 45, 3, 0, 0) := rfl
theorem i92_27 : mm_cd 92 27 = some (.aload_n 0, 1, 0, 0) := rfl
theorem i92_28 : mm_cd 92 28 = some (.aload_n 1, 1, 0, 0) := rfl
theorem i92_29 : mm_cd 92 29 = some (.invokevirtual 24, 3, 0, 93) := rfl
theorem i92_32 : mm_cd 92 32 = some (.ifCond .ne 5, 3, 0, 0) := rfl
theorem i92_35 : mm_cd 92 35 = some (.iconst 0, 1, 0, 0) := rfl
theorem i92_36 : mm_cd 92 36 = some (.ireturn, 1, 0, 0) := rfl
theorem i92_37 : mm_cd 92 37 = some (.aload_n 0, 1, 0, 0) := rfl
theorem i92_38 : mm_cd 92 38 = some (.getfield 9, 3, ((7 : Nat) : Int), 0) := rfl
theorem i92_41 : mm_cd 92 41 = some (.invokevirtual 20, 3, 0, 101) := rfl
theorem i92_44 : mm_cd 92 44 = some (.ifCond .eq 5, 3, 0, 0) := rfl
theorem i92_47 : mm_cd 92 47 = some (.iconst 1, 1, 0, 0) := rfl
theorem i92_48 : mm_cd 92 48 = some (.ireturn, 1, 0, 0) := rfl
theorem i92_49 : mm_cd 92 49 = some (.aload_n 0, 1, 0, 0) := rfl
theorem i92_50 : mm_cd 92 50 = some (.getfield 9, 3, ((7 : Nat) : Int), 0) := rfl
theorem i92_53 : mm_cd 92 53 = some (.bipush 59, 2, 0, 0) := rfl
theorem i92_55 : mm_cd 92 55 = some (.invokevirtual 28, 3, 0, 104) := rfl
theorem i92_58 : mm_cd 92 58 = some (.ifCond .ne 5, 3, 0, 0) := rfl
theorem i92_61 : mm_cd 92 61 = some (.iconst 0, 1, 0, 0) := rfl
theorem i92_62 : mm_cd 92 62 = some (.ireturn, 1, 0, 0) := rfl
theorem i92_63 : mm_cd 92 63 = some (.iinc 2 1, 3, 0, 0) := rfl
theorem i92_66 : mm_cd 92 66 = some (.goto (-45), 3, 0, 0) := rfl
theorem i92_69 : mm_cd 92 69 = some (.iconst 0, 1, 0, 0) := rfl
theorem i92_70 : mm_cd 92 70 = some (.ireturn, 1, 0, 0) := rfl
def q92_21 (b : Nat) : Nat → Int32 → mS → Option mQ
  | 0, _, _ => none
  | n + 1, v2, s => if (14 : Int32) ≤ v2 then (rv (0 : Int32) s) else (bN (q93 b s) fun x2 s1 => if ¬ x2 = 0 then (bN (q101 s1) fun x4 s3 => if x4 = 0 then (bN (q104 (59 : Int32) s3) fun x6 s5 => if ¬ x6 = 0 then (bx (v2 + (1 : Int32)) fun x7 => q92_21 b n x7 s5) else (rv (0 : Int32) s5)) else (rv (1 : Int32) s3)) else (rv (0 : Int32) s1))
theorem t92_21 {L : Nat} {xs : Nat → Int32} {d : Nat} {b : Nat} (mb : b ∈ A9) (hd : 6 ≤ d) : ∀ (n : Nat) (v2 : Int32) (s : mS) (r : mQ), q92_21 b n v2 s = some r → Ev L xs d 92 21 [(0, .ref 122), (1, .ref b), (2, .int v2)] [] (hp s) (hr r) := by
  intro n
  induction n with
  | zero => intro v2 s r h; rw [q92_21] at h; cases h
  | succ n ih =>
    intro v2 s r h
    rw [q92_21] at h
    refine Ev.iload_n H92 i92_21 rfl ?_
    refine Ev.bipush H92 i92_22 kB_14 ?_
    refine Rd.ic_ge H92 i92_24 (t := 69) (by decide) h (fun hc h => ?_) (fun hc h => ?_)
    · refine Ev.iconst H92 i92_69 kI_0 ?_
      exact Rd.ireturnK H92 i92_70 rfl (Or.inl rfl) h
    · refine Ev.aload_n H92 i92_27 rfl ?_
      refine Ev.aload_n H92 i92_28 rfl ?_
      refine Rd.cV1vN H92 i92_29 cal93 ob7 (Nat.le_of_ble_eq_true rfl) (Nat.le_of_ble_eq_true rfl) (Nat.lt_of_lt_of_le (by decide) hd) (fun q hq => c93 mb hq) h (fun x2 s1 h => ?_)
      refine Rd.if_ne H92 i92_32 (t := 37) (by decide) h (fun hc h => ?_) (fun hc h => ?_)
      · refine Ev.aload_n H92 i92_37 rfl ?_
        refine Rd.getR H92 i92_38 ob7 rfl ?_
        refine Rd.cV0vN H92 i92_41 cal101 ob8 (Nat.le_of_ble_eq_true rfl) (Nat.le_of_ble_eq_true rfl) (Nat.lt_of_lt_of_le (by decide) hd) (fun q hq => c101 hq) h (fun x4 s3 h => ?_)
        refine Rd.if_eq H92 i92_44 (t := 49) (by decide) h (fun hc h => ?_) (fun hc h => ?_)
        · refine Ev.aload_n H92 i92_49 rfl ?_
          refine Rd.getR H92 i92_50 ob7 rfl ?_
          refine Ev.bipush H92 i92_53 kB_59 ?_
          refine Rd.cV1vN H92 i92_55 cal104 ob8 (Nat.le_of_ble_eq_true rfl) (Nat.le_of_ble_eq_true rfl) (Nat.lt_of_lt_of_le (by decide) hd) (fun q hq => c104 hq) h (fun x6 s5 h => ?_)
          refine Rd.if_ne H92 i92_58 (t := 63) (by decide) h (fun hc h => ?_) (fun hc h => ?_)
          · refine Rd.iinc H92 i92_63 (Nat.le_of_ble_eq_true rfl) rfl kI_1 (lv2 := fun x7 => [(2, .int x7), (0, .ref 122), (1, .ref b)]) (fun _ => rfl) h (fun x7 h => ?_)
            refine Ev.goto H92 i92_66 (t := 21) (by decide) ?_
            exact Ev.sub (l := [(0, .ref 122), (1, .ref b), (2, .int x7)]) rfl rfl (mm_sub_c rfl (mm_sub_c rfl (mm_sub_c rfl mm_sub_n))) (ih _ _ _ h)
          · refine Ev.iconst H92 i92_61 kI_0 ?_
            exact Rd.ireturnK H92 i92_62 rfl (Or.inl rfl) h
        · refine Ev.iconst H92 i92_47 kI_1 ?_
          exact Rd.ireturnK H92 i92_48 rfl (Or.inr rfl) h
      · refine Ev.iconst H92 i92_35 kI_0 ?_
        exact Rd.ireturnK H92 i92_36 rfl (Or.inl rfl) h
/-- SerialGate$StoreReader.readsText(LSerialGate$World;)Z -/
def q92 (b : Nat) (s : mS) : Option mQ := bM (q100 s) fun s8 => bN (q101 s8) fun x10 s9 => if x10 = 0 then (q92_21 b 10000 (0 : Int32) s9) else (rv (1 : Int32) s9)
theorem c92 {L : Nat} {xs : Nat → Int32} {b : Nat} (mb : b ∈ A9) {s : mS} {r : mQ} (h : q92 b s = some r) : ∀ d, 6 ≤ d → Cl L xs d 92 [.ref 122, .ref b] (hp s) (hr r) := by
  intro d hd
  show Ev L xs d 92 0 [(0, .ref 122), (1, .ref b)] [] (hp s) (hr r)
  unfold q92 at h
  refine Ev.aload_n H92 i92_0 rfl ?_
  refine Rd.getR H92 i92_1 ob7 rfl ?_
  refine Rd.cV0uN H92 i92_4 cal100 ob8 (Nat.le_of_ble_eq_true rfl) (Nat.le_of_ble_eq_true rfl) (Nat.lt_of_lt_of_le (by decide) hd) (fun q hq => c100 hq) h (fun s8 h => ?_)
  refine Ev.aload_n H92 i92_7 rfl ?_
  refine Rd.getR H92 i92_8 ob7 rfl ?_
  refine Rd.cV0vN H92 i92_11 cal101 ob8 (Nat.le_of_ble_eq_true rfl) (Nat.le_of_ble_eq_true rfl) (Nat.lt_of_lt_of_le (by decide) hd) (fun q hq => c101 hq) h (fun x10 s9 h => ?_)
  refine Rd.if_eq H92 i92_14 (t := 19) (by decide) h (fun hc h => ?_) (fun hc h => ?_)
  · refine Ev.iconst H92 i92_19 kI_0 ?_
    refine Ev.istore_n H92 i92_20 (Nat.le_of_ble_eq_true rfl) (lv2 := [(2, .int (0 : Int32)), (0, .ref 122), (1, .ref b)]) rfl ?_
    exact Ev.sub (l := [(0, .ref 122), (1, .ref b), (2, .int (0 : Int32))]) rfl rfl (mm_sub_c rfl (mm_sub_c rfl (mm_sub_c rfl mm_sub_n))) (t92_21 mb hd 10000 _ _ _ h)
  · refine Ev.iconst H92 i92_17 kI_1 ?_
    exact Rd.ireturnK H92 i92_18 rfl (Or.inr rfl) h
theorem i98_0 : mm_cd 98 0 = some (.bipush 24, 2, 0, 0) := rfl
theorem i98_2 : mm_cd 98 2 = some (.istore_n 2, 1, 0, 0) := rfl
theorem i98_3 : mm_cd 98 3 = some (.iload_n 2, 1, 0, 0) := rfl
theorem i98_4 : mm_cd 98 4 = some (.ifCond .lt 45, 3, 0, 0) := rfl
theorem i98_7 : mm_cd 98 7 = some (.aload_n 0, 1, 0, 0) := rfl
theorem i98_8 : mm_cd 98 8 = some (.getfield 15, 3, ((8 : Nat) : Int), 1) := rfl
theorem i98_11 : mm_cd 98 11 = some (.sipush 400, 3, 0, 0) := rfl
theorem i98_14 : mm_cd 98 14 = some (.if_icmp .ge 35, 3, 0, 0) := rfl
theorem i98_17 : mm_cd 98 17 = some (.aload_n 0, 1, 0, 0) := rfl
theorem i98_18 : mm_cd 98 18 = some (.getfield 11, 3, ((8 : Nat) : Int), 0) := rfl
theorem i98_21 : mm_cd 98 21 = some (.aload_n 0, 1, 0, 0) := rfl
theorem i98_22 : mm_cd 98 22 = some (.getfield 15, 3, ((8 : Nat) : Int), 1) := rfl
theorem i98_25 : mm_cd 98 25 = some (.iload_n 1, 1, 0, 0) := rfl
theorem i98_26 : mm_cd 98 26 = some (.iload_n 2, 1, 0, 0) := rfl
theorem i98_27 : mm_cd 98 27 = some (.iushr, 1, 0, 0) := rfl
theorem i98_28 : mm_cd 98 28 = some (.sipush 255, 3, 0, 0) := rfl
theorem i98_31 : mm_cd 98 31 = some (.iand, 1, 0, 0) := rfl
theorem i98_32 : mm_cd 98 32 = some (.iastore, 1, 0, 0) := rfl
theorem i98_33 : mm_cd 98 33 = some (.aload_n 0, 1, 0, 0) := rfl
theorem i98_34 : mm_cd 98 34 = some (.dup, 1, 0, 0) := rfl
theorem i98_35 : mm_cd 98 35 = some (.getfield 15, 3, ((8 : Nat) : Int), 1) := rfl
theorem i98_38 : mm_cd 98 38 = some (.iconst 1, 1, 0, 0) := rfl
theorem i98_39 : mm_cd 98 39 = some (.iadd, 1, 0, 0) := rfl
theorem i98_40 : mm_cd 98 40 = some (.putfield 15, 3, ((8 : Nat) : Int), 1) := rfl
theorem i98_43 : mm_cd 98 43 = some (.iinc 2 (-8), 3, 0, 0) := rfl
theorem i98_46 : mm_cd 98 46 = some (.goto (-43), 3, 0, 0) := rfl
theorem i98_49 : mm_cd 98 49 = some (.return_, 1, 0, 0) := rfl
def q98_3 : Nat → Int32 → Int32 → mS → Option mQ
  | 0, _, _, _ => none
  | n + 1, v1, v2, s => if v2 < 0 then (ru s) else (if (400 : Int32) ≤ (s.1 1 1) then (ru s) else (gA 400 (s.1 1 1) <| sp (sI s 2 (s.1 1 1).toNatClampNeg ((ushI v1 v2) &&& (255 : Int32))) fun s1 => sp (sI s1 1 1 ((s1.1 1 1) + (1 : Int32))) fun s2 => bx (v2 + (-8 : Int32)) fun x3 => q98_3 n v1 x3 s2))
theorem t98_3 {L : Nat} {xs : Nat → Int32} {d : Nat} (hd : 0 ≤ d) : ∀ (n : Nat) (v1 : Int32) (v2 : Int32) (s : mS) (r : mQ), q98_3 n v1 v2 s = some r → Ev L xs d 98 3 [(0, .ref 1), (1, .int v1), (2, .int v2)] [] (hp s) (hr r) := by
  intro n
  induction n with
  | zero => intro v1 v2 s r h; rw [q98_3] at h; cases h
  | succ n ih =>
    intro v1 v2 s r h
    rw [q98_3] at h
    refine Ev.iload_n H98 i98_3 rfl ?_
    refine Rd.if_lt H98 i98_4 (t := 49) (by decide) h (fun hc h => ?_) (fun hc h => ?_)
    · exact Rd.return_ H98 i98_49 rfl h
    · refine Ev.aload_n H98 i98_7 rfl ?_
      refine Rd.getI H98 i98_8 ob8 rfl ?_
      refine Ev.sipush H98 i98_11 kS_400 ?_
      refine Rd.ic_ge H98 i98_14 (t := 49) (by decide) h (fun hc h => ?_) (fun hc h => ?_)
      · exact Rd.return_ H98 i98_49 rfl h
      · refine Ev.aload_n H98 i98_17 rfl ?_
        refine Rd.getR H98 i98_18 ob8 rfl ?_
        refine Ev.aload_n H98 i98_21 rfl ?_
        refine Rd.getI H98 i98_22 ob8 rfl ?_
        refine Ev.iload_n H98 i98_25 rfl ?_
        refine Ev.iload_n H98 i98_26 rfl ?_
        refine Rd.iushr H98 i98_27 ?_
        refine Ev.sipush H98 i98_28 kS_255 ?_
        refine Ev.iand H98 i98_31 ?_
        refine Rd.iastore H98 i98_32 ar_2 h (fun s1 h => ?_)
        refine Ev.aload_n H98 i98_33 rfl ?_
        refine Ev.dup H98 i98_34 rfl ?_
        refine Rd.getI H98 i98_35 ob8 rfl ?_
        refine Ev.iconst H98 i98_38 kI_1 ?_
        refine Ev.iadd H98 i98_39 ?_
        refine Rd.putI H98 i98_40 ob8 rfl ty8_1.1 ty8_1.2 h (fun s2 h => ?_)
        refine Rd.iinc H98 i98_43 (Nat.le_of_ble_eq_true rfl) rfl kI_m8 (lv2 := fun x3 => [(2, .int x3), (0, .ref 1), (1, .int v1)]) (fun _ => rfl) h (fun x3 h => ?_)
        refine Ev.goto H98 i98_46 (t := 3) (by decide) ?_
        exact Ev.sub (l := [(0, .ref 1), (1, .int v1), (2, .int x3)]) rfl rfl (mm_sub_c rfl (mm_sub_c rfl (mm_sub_c rfl mm_sub_n))) (ih _ _ _ _ h)
/-- SerialGate$Tape.append(I)V -/
def q98 (v1 : Int32) (s : mS) : Option mQ := q98_3 10000 v1 (24 : Int32) s
theorem c98 {L : Nat} {xs : Nat → Int32} {v1 : Int32} {s : mS} {r : mQ} (h : q98 v1 s = some r) : ∀ d, 0 ≤ d → Cl L xs d 98 [.ref 1, .int v1] (hp s) (hr r) := by
  intro d hd
  show Ev L xs d 98 0 [(0, .ref 1), (1, .int v1)] [] (hp s) (hr r)
  unfold q98 at h
  refine Ev.bipush H98 i98_0 kB_24 ?_
  refine Ev.istore_n H98 i98_2 (Nat.le_of_ble_eq_true rfl) (lv2 := [(2, .int (24 : Int32)), (0, .ref 1), (1, .int v1)]) rfl ?_
  exact Ev.sub (l := [(0, .ref 1), (1, .int v1), (2, .int (24 : Int32))]) rfl rfl (mm_sub_c rfl (mm_sub_c rfl (mm_sub_c rfl mm_sub_n))) (t98_3 hd 10000 _ _ _ _ h)
theorem i99_0 : mm_cd 99 0 = some (.aload_n 0, 1, 0, 0) := rfl
theorem i99_1 : mm_cd 99 1 = some (.iconst 0, 1, 0, 0) := rfl
theorem i99_2 : mm_cd 99 2 = some (.putfield 15, 3, ((8 : Nat) : Int), 1) := rfl
theorem i99_5 : mm_cd 99 5 = some (.aload_n 0, 1, 0, 0) := rfl
theorem i99_6 : mm_cd 99 6 = some (.iconst 0, 1, 0, 0) := rfl
theorem i99_7 : mm_cd 99 7 = some (.putfield 19, 3, ((8 : Nat) : Int), 2) := rfl
theorem i99_10 : mm_cd 99 10 = some (.return_, 1, 0, 0) := rfl
/-- SerialGate$Tape.useUp()V -/
def q99 (s : mS) : Option mQ := sp (sI s 1 1 (0 : Int32)) fun s1 => sp (sI s1 1 2 (0 : Int32)) fun s2 => ru s2
theorem c99 {L : Nat} {xs : Nat → Int32} {s : mS} {r : mQ} (h : q99 s = some r) : ∀ d, 0 ≤ d → Cl L xs d 99 [.ref 1] (hp s) (hr r) := by
  intro d hd
  show Ev L xs d 99 0 [(0, .ref 1)] [] (hp s) (hr r)
  unfold q99 at h
  refine Ev.aload_n H99 i99_0 rfl ?_
  refine Ev.iconst H99 i99_1 kI_0 ?_
  refine Rd.putI H99 i99_2 ob8 rfl ty8_1.1 ty8_1.2 h (fun s1 h => ?_)
  refine Ev.aload_n H99 i99_5 rfl ?_
  refine Ev.iconst H99 i99_6 kI_0 ?_
  refine Rd.putI H99 i99_7 ob8 rfl ty8_2.1 ty8_2.2 h (fun s2 h => ?_)
  exact Rd.return_ H99 i99_10 rfl h
theorem i109_0 : mm_cd 109 0 = some (.aload_n 0, 1, 0, 0) := rfl
theorem i109_1 : mm_cd 109 1 = some (.getfield 15, 3, ((8 : Nat) : Int), 1) := rfl
theorem i109_4 : mm_cd 109 4 = some (.bipush 40, 2, 0, 0) := rfl
theorem i109_6 : mm_cd 109 6 = some (.if_icmp .gt 12, 3, 0, 0) := rfl
theorem i109_9 : mm_cd 109 9 = some (.aload_n 0, 1, 0, 0) := rfl
theorem i109_10 : mm_cd 109 10 = some (.getfield 15, 3, ((8 : Nat) : Int), 1) := rfl
theorem i109_13 : mm_cd 109 13 = some (.iconst 2, 1, 0, 0) := rfl
theorem i109_14 : mm_cd 109 14 = some (.irem, 1, 0, 0) := rfl
theorem i109_15 : mm_cd 109 15 = some (.ifCond .eq 5, 3, 0, 0) := rfl
theorem i109_18 : mm_cd 109 18 = some (.iconst 0, 1, 0, 0) := rfl
theorem i109_19 : mm_cd 109 19 = some (.ireturn, 1, 0, 0) := rfl
theorem i109_20 : mm_cd 109 20 = some (.iconst 0, 1, 0, 0) := rfl
theorem i109_21 : mm_cd 109 21 = some (.istore_n 1, 1, 0, 0) := rfl
theorem i109_22 : mm_cd 109 22 = some (.iload_n 1, 1, 0, 0) := rfl
theorem i109_23 : mm_cd 109 23 = some (.iconst 1, 1, 0, 0) := rfl
theorem i109_24 : mm_cd 109 24 = some (.iadd, 1, 0, 0) := rfl
theorem i109_25 : mm_cd 109 25 = some (.aload_n 0, 1, 0, 0) := rfl
theorem i109_26 : mm_cd 109 26 = some (.getfield 15, 3, ((8 : Nat) : Int), 1) := rfl
theorem i109_29 : mm_cd 109 29 = some (.if_icmp .ge 34, 3, 0, 0) := rfl
theorem i109_32 : mm_cd 109 32 = some (.aload_n 0, 1, 0, 0) := rfl
theorem i109_33 : mm_cd 109 33 = some (.getfield 11, 3, ((8 : Nat) : Int), 0) := rfl
theorem i109_36 : mm_cd 109 36 = some (.iload_n 1, 1, 0, 0) := rfl
theorem i109_37 : mm_cd 109 37 = some (.iaload, 1, 0, 0) := rfl
theorem i109_38 : mm_cd 109 38 = some (.bipush 20, 2, 0, 0) := rfl
theorem i109_40 : mm_cd 109 40 = some (.if_icmp .ge 15, 3, 0, 0) := rfl
theorem i109_43 : mm_cd 109 43 = some (.aload_n 0, 1, 0, 0) := rfl
theorem i109_44 : mm_cd 109 44 = some (.getfield 11, 3, ((8 : Nat) : Int), 0) := rfl
theorem i109_47 : mm_cd 109 47 = some (.iload_n 1, 1, 0, 0) := rfl
theorem i109_48 : mm_cd 109 48 = some (.iconst 1, 1, 0, 0) := rfl
theorem i109_49 : mm_cd 109 49 = some (.iadd, 1, 0, 0) := rfl
theorem i109_50 : mm_cd 109 50 = some (.iaload, 1, 0, 0) := rfl
theorem i109_51 : mm_cd 109 51 = some (.iconst 1, 1, 0, 0) := rfl
theorem i109_52 : mm_cd 109 52 = some (.if_icmp .le 5, 3, 0, 0) := rfl
theorem i109_55 : mm_cd 109 55 = some (.iconst 0, 1, 0, 0) := rfl
theorem i109_56 : mm_cd 109 56 = some (.ireturn, 1, 0, 0) := rfl
theorem i109_57 : mm_cd 109 57 = some (.iinc 1 2, 3, 0, 0) := rfl
theorem i109_60 : mm_cd 109 60 = some (.goto (-38), 3, 0, 0) := rfl
theorem i109_63 : mm_cd 109 63 = some (.iconst 1, 1, 0, 0) := rfl
theorem i109_64 : mm_cd 109 64 = some (.ireturn, 1, 0, 0) := rfl
def q109_22 : Nat → Int32 → mS → Option mQ
  | 0, _, _ => none
  | n + 1, v1, s => if (s.1 1 1) ≤ (v1 + (1 : Int32)) then (rv (1 : Int32) s) else (gA 400 v1 <| if (20 : Int32) ≤ (s.1 2 v1.toNatClampNeg) then (rv (0 : Int32) s) else (gA 400 (v1 + (1 : Int32)) <| if (s.1 2 (v1 + (1 : Int32)).toNatClampNeg) ≤ (1 : Int32) then (bx (v1 + (2 : Int32)) fun x1 => q109_22 n x1 s) else (rv (0 : Int32) s)))
theorem t109_22 {L : Nat} {xs : Nat → Int32} {d : Nat} (hd : 0 ≤ d) : ∀ (n : Nat) (v1 : Int32) (s : mS) (r : mQ), q109_22 n v1 s = some r → Ev L xs d 109 22 [(0, .ref 1), (1, .int v1)] [] (hp s) (hr r) := by
  intro n
  induction n with
  | zero => intro v1 s r h; rw [q109_22] at h; cases h
  | succ n ih =>
    intro v1 s r h
    rw [q109_22] at h
    refine Ev.iload_n H109 i109_22 rfl ?_
    refine Ev.iconst H109 i109_23 kI_1 ?_
    refine Ev.iadd H109 i109_24 ?_
    refine Ev.aload_n H109 i109_25 rfl ?_
    refine Rd.getI H109 i109_26 ob8 rfl ?_
    refine Rd.ic_ge H109 i109_29 (t := 63) (by decide) h (fun hc h => ?_) (fun hc h => ?_)
    · refine Ev.iconst H109 i109_63 kI_1 ?_
      exact Rd.ireturnK H109 i109_64 rfl (Or.inr rfl) h
    · refine Ev.aload_n H109 i109_32 rfl ?_
      refine Rd.getR H109 i109_33 ob8 rfl ?_
      refine Ev.iload_n H109 i109_36 rfl ?_
      refine Rd.iaload H109 i109_37 ar_2 h (fun h => ?_)
      refine Ev.bipush H109 i109_38 kB_20 ?_
      refine Rd.ic_ge H109 i109_40 (t := 55) (by decide) h (fun hc h => ?_) (fun hc h => ?_)
      · refine Ev.iconst H109 i109_55 kI_0 ?_
        exact Rd.ireturnK H109 i109_56 rfl (Or.inl rfl) h
      · refine Ev.aload_n H109 i109_43 rfl ?_
        refine Rd.getR H109 i109_44 ob8 rfl ?_
        refine Ev.iload_n H109 i109_47 rfl ?_
        refine Ev.iconst H109 i109_48 kI_1 ?_
        refine Ev.iadd H109 i109_49 ?_
        refine Rd.iaload H109 i109_50 ar_2 h (fun h => ?_)
        refine Ev.iconst H109 i109_51 kI_1 ?_
        refine Rd.ic_le H109 i109_52 (t := 57) (by decide) h (fun hc h => ?_) (fun hc h => ?_)
        · refine Rd.iinc H109 i109_57 (Nat.le_of_ble_eq_true rfl) rfl kI_2 (lv2 := fun x1 => [(1, .int x1), (0, .ref 1)]) (fun _ => rfl) h (fun x1 h => ?_)
          refine Ev.goto H109 i109_60 (t := 22) (by decide) ?_
          exact Ev.sub (l := [(0, .ref 1), (1, .int x1)]) rfl rfl (mm_sub_c rfl (mm_sub_c rfl mm_sub_n)) (ih _ _ _ h)
        · refine Ev.iconst H109 i109_55 kI_0 ?_
          exact Rd.ireturnK H109 i109_56 rfl (Or.inl rfl) h
/-- SerialGate$Tape.tellsRows()Z -/
def q109 (s : mS) : Option mQ := if (40 : Int32) < (s.1 1 1) then (rv (0 : Int32) s) else (gZ (2 : Int32) <| if (rmI (s.1 1 1) (2 : Int32)) = 0 then (q109_22 10000 (0 : Int32) s) else (rv (0 : Int32) s))
theorem c109 {L : Nat} {xs : Nat → Int32} {s : mS} {r : mQ} (h : q109 s = some r) : ∀ d, 0 ≤ d → Cl L xs d 109 [.ref 1] (hp s) (hr r) := by
  intro d hd
  show Ev L xs d 109 0 [(0, .ref 1)] [] (hp s) (hr r)
  unfold q109 at h
  refine Ev.aload_n H109 i109_0 rfl ?_
  refine Rd.getI H109 i109_1 ob8 rfl ?_
  refine Ev.bipush H109 i109_4 kB_40 ?_
  refine Rd.ic_gt H109 i109_6 (t := 18) (by decide) h (fun hc h => ?_) (fun hc h => ?_)
  · refine Ev.iconst H109 i109_18 kI_0 ?_
    exact Rd.ireturnK H109 i109_19 rfl (Or.inl rfl) h
  · refine Ev.aload_n H109 i109_9 rfl ?_
    refine Rd.getI H109 i109_10 ob8 rfl ?_
    refine Ev.iconst H109 i109_13 kI_2 ?_
    refine Rd.irem H109 i109_14 h (fun h => ?_)
    refine Rd.if_eq H109 i109_15 (t := 20) (by decide) h (fun hc h => ?_) (fun hc h => ?_)
    · refine Ev.iconst H109 i109_20 kI_0 ?_
      refine Ev.istore_n H109 i109_21 (Nat.le_of_ble_eq_true rfl) (lv2 := [(1, .int (0 : Int32)), (0, .ref 1)]) rfl ?_
      exact Ev.sub (l := [(0, .ref 1), (1, .int (0 : Int32))]) rfl rfl (mm_sub_c rfl (mm_sub_c rfl mm_sub_n)) (t109_22 hd 10000 _ _ _ h)
    · refine Ev.iconst H109 i109_18 kI_0 ?_
      exact Rd.ireturnK H109 i109_19 rfl (Or.inl rfl) h
