theorem i211_0 : mm_cd 211 0 = some (.iconst 0, 1, 0, 0) := rfl
theorem i211_1 : mm_cd 211 1 = some (.istore_n 2, 1, 0, 0) := rfl
theorem i211_2 : mm_cd 211 2 = some (.iconst 0, 1, 0, 0) := rfl
theorem i211_3 : mm_cd 211 3 = some (.istore_n 3, 1, 0, 0) := rfl
theorem i211_4 : mm_cd 211 4 = some (.iload_n 3, 1, 0, 0) := rfl
theorem i211_5 : mm_cd 211 5 = some (.bipush 8, 2, 0, 0) := rfl
theorem i211_7 : mm_cd 211 7 = some (.if_icmp .ge 33, 3, 0, 0) := rfl
theorem i211_10 : mm_cd 211 10 = some (.iload_n 2, 1, 0, 0) := rfl
theorem i211_11 : mm_cd 211 11 = some (.aload_n 0, 1, 0, 0) := rfl
theorem i211_12 : mm_cd 211 12 = some (.iload_n 3, 1, 0, 0) := rfl
theorem i211_13 : mm_cd 211 13 = some (.bipush 7, 2, 0, 0) := rfl
theorem i211_15 : mm_cd 211 15 = some (.invokevirtual 69, 3, 0, 204) := rfl
theorem i211_18 : mm_cd 211 18 = some (.iload_n 1, 1, 0, 0) := rfl
theorem i211_19 : mm_cd 211 19 = some (.invokestatic 79, 3, 0, 190) := rfl
theorem i211_22 : mm_cd 211 22 = some (.ifCond .eq 9, 3, 0, 0) := rfl
theorem i211_25 : mm_cd 211 25 = some (.iconst 1, 1, 0, 0) := rfl
theorem i211_26 : mm_cd 211 26 = some (.iload_n 3, 1, 0, 0) := rfl
theorem i211_27 : mm_cd 211 27 = some (.ishl, 1, 0, 0) := rfl
theorem i211_28 : mm_cd 211 28 = some (.goto 4, 3, 0, 0) := rfl
theorem i211_31 : mm_cd 211 31 = some (.iconst 0, 1, 0, 0) := rfl
theorem i211_32 : mm_cd 211 32 = some (.ior, 1, 0, 0) := rfl
theorem i211_33 : mm_cd 211 33 = some (.istore_n 2, 1, 0, 0) := rfl
theorem i211_34 : mm_cd 211 34 = some (.iinc 3 1, 3, 0, 0) := rfl
theorem i211_37 : mm_cd 211 37 = some (.goto (-33), 3, 0, 0) := rfl
theorem i211_40 : mm_cd 211 40 = some (.iload_n 2, 1, 0, 0) := rfl
theorem i211_41 : mm_cd 211 41 = some (.ireturn, 1, 0, 0) := rfl
def q211_32 (k4 : Int32 → Int32 → Int32 → mS → Option mQ) (v1 : Int32) (v3 : Int32) (y0 : Int32) (y1 : Int32) (s : mS) : Option mQ := bx (y0 ||| y1) fun x1 => bx (v3 + (1 : Int32)) fun x2 => k4 v1 x1 x2 s
theorem t211_32 {L : Nat} {xs : Nat → Int32} {d : Nat} {k4 : Int32 → Int32 → Int32 → mS → Option mQ} (hk4 : ∀ (v1 : Int32) (v2 : Int32) (v3 : Int32) (s : mS) (r : mQ), k4 v1 v2 v3 s = some r → Ev L xs d 211 4 [(0, .ref 512), (1, .int v1), (2, .int v2), (3, .int v3)] [] (hp s) (hr r)) (hd : 2 ≤ d) {v1 : Int32} {v3 : Int32} {y0 : Int32} {y1 : Int32} {s : mS} {r : mQ} (h : q211_32 k4 v1 v3 y0 y1 s = some r) : Ev L xs d 211 32 [(0, .ref 512), (1, .int v1), (3, .int v3)] [.int y1, .int y0] (hp s) (hr r) := by
  unfold q211_32 at h
  refine Ev.ior H211 i211_32 ?_
  refine Rd.istore_n H211 i211_33 (Nat.le_of_ble_eq_true rfl) (lv2 := fun x1 => [(2, .int x1), (0, .ref 512), (1, .int v1), (3, .int v3)]) (fun _ => rfl) h (fun x1 h => ?_)
  refine Rd.iinc H211 i211_34 (Nat.le_of_ble_eq_true rfl) rfl kI_1 (lv2 := fun x2 => [(3, .int x2), (2, .int x1), (0, .ref 512), (1, .int v1)]) (fun _ => rfl) h (fun x2 h => ?_)
  refine Ev.goto H211 i211_37 (t := 4) (by decide) ?_
  exact Ev.sub (l := [(0, .ref 512), (1, .int v1), (2, .int x1), (3, .int x2)]) rfl rfl (mm_sub_c rfl (mm_sub_c rfl (mm_sub_c rfl (mm_sub_c rfl mm_sub_n)))) (hk4 _ _ _ _ _ h)
def q211_4 : Nat → Int32 → Int32 → Int32 → mS → Option mQ
  | 0, _, _, _, _ => none
  | n + 1, v1, v2, v3, s => if (8 : Int32) ≤ v3 then (rv v2 s) else (bN (q204 v3 (7 : Int32) s) fun x4 s3 => bN (q190 x4 v1 s3) fun x6 s5 => if x6 = 0 then (q211_32 (q211_4 n) v1 v3 v2 (0 : Int32) s5) else (q211_32 (q211_4 n) v1 v3 v2 (shlI (1 : Int32) v3) s5))
theorem t211_4 {L : Nat} {xs : Nat → Int32} {d : Nat} (hd : 2 ≤ d) : ∀ (n : Nat) (v1 : Int32) (v2 : Int32) (v3 : Int32) (s : mS) (r : mQ), q211_4 n v1 v2 v3 s = some r → Ev L xs d 211 4 [(0, .ref 512), (1, .int v1), (2, .int v2), (3, .int v3)] [] (hp s) (hr r) := by
  intro n
  induction n with
  | zero => intro v1 v2 v3 s r h; rw [q211_4] at h; cases h
  | succ n ih =>
    intro v1 v2 v3 s r h
    rw [q211_4] at h
    refine Ev.iload_n H211 i211_4 rfl ?_
    refine Ev.bipush H211 i211_5 kB_8 ?_
    refine Rd.ic_ge H211 i211_7 (t := 40) (by decide) h (fun hc h => ?_) (fun hc h => ?_)
    · refine Ev.iload_n H211 i211_40 rfl ?_
      exact Rd.ireturn H211 i211_41 rfl h
    · refine Ev.iload_n H211 i211_10 rfl ?_
      refine Ev.aload_n H211 i211_11 rfl ?_
      refine Ev.iload_n H211 i211_12 rfl ?_
      refine Ev.bipush H211 i211_13 kB_7 ?_
      refine Rd.cV2vN H211 i211_15 cal204 ob11 (Nat.le_of_ble_eq_true rfl) (Nat.le_of_ble_eq_true rfl) (Nat.lt_of_lt_of_le (by decide) hd) (fun q hq => c204 hq) h (fun x4 s3 h => ?_)
      refine Ev.iload_n H211 i211_18 rfl ?_
      refine Rd.cS2vN H211 i211_19 cal190 (Nat.le_of_ble_eq_true rfl) (Nat.le_of_ble_eq_true rfl) (Nat.lt_of_lt_of_le (by decide) hd) (fun q hq => c190 hq) h (fun x6 s5 h => ?_)
      refine Rd.if_eq H211 i211_22 (t := 31) (by decide) h (fun hc h => ?_) (fun hc h => ?_)
      · refine Ev.iconst H211 i211_31 kI_0 ?_
        exact Ev.sub (l := [(0, .ref 512), (1, .int v1), (3, .int v3)]) rfl rfl (mm_sub_c rfl (mm_sub_c rfl (mm_sub_c rfl mm_sub_n))) (t211_32 (k4 := (q211_4 n)) (fun _ _ _ _ _ h => ih _ _ _ _ _ h) hd h)
      · refine Ev.iconst H211 i211_25 kI_1 ?_
        refine Ev.iload_n H211 i211_26 rfl ?_
        refine Rd.ishl H211 i211_27 ?_
        refine Ev.goto H211 i211_28 (t := 32) (by decide) ?_
        exact Ev.sub (l := [(0, .ref 512), (1, .int v1), (3, .int v3)]) rfl rfl (mm_sub_c rfl (mm_sub_c rfl (mm_sub_c rfl mm_sub_n))) (t211_32 (k4 := (q211_4 n)) (fun _ _ _ _ _ h => ih _ _ _ _ _ h) hd h)
/-- SerialGateModel.inOf(I)I -/
def q211 (v1 : Int32) (s : mS) : Option mQ := q211_4 10000 v1 (0 : Int32) (0 : Int32) s
theorem c211 {L : Nat} {xs : Nat → Int32} {v1 : Int32} {s : mS} {r : mQ} (h : q211 v1 s = some r) : ∀ d, 2 ≤ d → Cl L xs d 211 [.ref 512, .int v1] (hp s) (hr r) := by
  intro d hd
  show Ev L xs d 211 0 [(0, .ref 512), (1, .int v1)] [] (hp s) (hr r)
  unfold q211 at h
  refine Ev.iconst H211 i211_0 kI_0 ?_
  refine Ev.istore_n H211 i211_1 (Nat.le_of_ble_eq_true rfl) (lv2 := [(2, .int (0 : Int32)), (0, .ref 512), (1, .int v1)]) rfl ?_
  refine Ev.iconst H211 i211_2 kI_0 ?_
  refine Ev.istore_n H211 i211_3 (Nat.le_of_ble_eq_true rfl) (lv2 := [(3, .int (0 : Int32)), (2, .int (0 : Int32)), (0, .ref 512), (1, .int v1)]) rfl ?_
  exact Ev.sub (l := [(0, .ref 512), (1, .int v1), (2, .int (0 : Int32)), (3, .int (0 : Int32))]) rfl rfl (mm_sub_c rfl (mm_sub_c rfl (mm_sub_c rfl (mm_sub_c rfl mm_sub_n)))) (t211_4 hd 10000 _ _ _ _ _ h)
theorem i212_0 : mm_cd 212 0 = some (.aload_n 0, 1, 0, 0) := rfl
theorem i212_1 : mm_cd 212 1 = some (.getfield 13, 3, ((11 : Nat) : Int), 1) := rfl
theorem i212_4 : mm_cd 212 4 = some (.bipush 8, 2, 0, 0) := rfl
theorem i212_6 : mm_cd 212 6 = some (.ldc 83, 2, 1103515245, 0) := rfl
theorem i212_8 : mm_cd 212 8 = some (.aload_n 0, 1, 0, 0) := rfl
theorem i212_9 : mm_cd 212 9 = some (.getfield 13, 3, ((11 : Nat) : Int), 1) := rfl
theorem i212_12 : mm_cd 212 12 = some (.bipush 8, 2, 0, 0) := rfl
theorem i212_14 : mm_cd 212 14 = some (.iaload, 1, 0, 0) := rfl
theorem i212_15 : mm_cd 212 15 = some (.imul, 1, 0, 0) := rfl
theorem i212_16 : mm_cd 212 16 = some (.sipush 12345, 3, 0, 0) := rfl
theorem i212_19 : mm_cd 212 19 = some (.iadd, 1, 0, 0) := rfl
theorem i212_20 : mm_cd 212 20 = some (.iastore, 1, 0, 0) := rfl
theorem i212_21 : mm_cd 212 21 = some (.aload_n 0, 1, 0, 0) := rfl
theorem i212_22 : mm_cd 212 22 = some (.getfield 13, 3, ((11 : Nat) : Int), 1) := rfl
theorem i212_25 : mm_cd 212 25 = some (.bipush 8, 2, 0, 0) := rfl
theorem i212_27 : mm_cd 212 27 = some (.iaload, 1, 0, 0) := rfl
theorem i212_28 : mm_cd 212 28 = some (.bipush 16, 2, 0, 0) := rfl
theorem i212_30 : mm_cd 212 30 = some (.ishr, 1, 0, 0) := rfl
theorem i212_31 : mm_cd 212 31 = some (.sipush 32767, 3, 0, 0) := rfl
theorem i212_34 : mm_cd 212 34 = some (.iand, 1, 0, 0) := rfl
theorem i212_35 : mm_cd 212 35 = some (.iload_n 1, 1, 0, 0) := rfl
theorem i212_36 : mm_cd 212 36 = some (.irem, 1, 0, 0) := rfl
theorem i212_37 : mm_cd 212 37 = some (.ireturn, 1, 0, 0) := rfl
/-- SerialGateModel.drawn(I)I -/
def q212 (v1 : Int32) (s : mS) : Option mQ := gA 2468 (8 : Int32) <| gA 2468 (8 : Int32) <| sp (sI s 513 (8 : Int32).toNatClampNeg (((1103515245 : Int32) * (s.1 513 (8 : Int32).toNatClampNeg)) + (12345 : Int32))) fun s1 => gA 2468 (8 : Int32) <| gZ v1 <| rv (rmI ((shrI (s1.1 513 (8 : Int32).toNatClampNeg) (16 : Int32)) &&& (32767 : Int32)) v1) s1
theorem c212 {L : Nat} {xs : Nat → Int32} {v1 : Int32} {s : mS} {r : mQ} (h : q212 v1 s = some r) : ∀ d, 0 ≤ d → Cl L xs d 212 [.ref 512, .int v1] (hp s) (hr r) := by
  intro d hd
  show Ev L xs d 212 0 [(0, .ref 512), (1, .int v1)] [] (hp s) (hr r)
  unfold q212 at h
  refine Ev.aload_n H212 i212_0 rfl ?_
  refine Rd.getR H212 i212_1 ob11 rfl ?_
  refine Ev.bipush H212 i212_4 kB_8 ?_
  refine Ev.ldc H212 i212_6 kI_1103515245 ?_
  refine Ev.aload_n H212 i212_8 rfl ?_
  refine Rd.getR H212 i212_9 ob11 rfl ?_
  refine Ev.bipush H212 i212_12 kB_8 ?_
  refine Rd.iaload H212 i212_14 ar_513 h (fun h => ?_)
  refine Ev.imul H212 i212_15 ?_
  refine Ev.sipush H212 i212_16 kS_12345 ?_
  refine Ev.iadd H212 i212_19 ?_
  refine Rd.iastore H212 i212_20 ar_513 h (fun s1 h => ?_)
  refine Ev.aload_n H212 i212_21 rfl ?_
  refine Rd.getR H212 i212_22 ob11 rfl ?_
  refine Ev.bipush H212 i212_25 kB_8 ?_
  refine Rd.iaload H212 i212_27 ar_513 h (fun h => ?_)
  refine Ev.bipush H212 i212_28 kB_16 ?_
  refine Rd.ishr H212 i212_30 ?_
  refine Ev.sipush H212 i212_31 kS_32767 ?_
  refine Ev.iand H212 i212_34 ?_
  refine Ev.iload_n H212 i212_35 rfl ?_
  refine Rd.irem H212 i212_36 h (fun h => ?_)
  exact Rd.ireturn H212 i212_37 rfl h
theorem i213_0 : mm_cd 213 0 = some (.aload_n 0, 1, 0, 0) := rfl
theorem i213_1 : mm_cd 213 1 = some (.iconst 0, 1, 0, 0) := rfl
theorem i213_2 : mm_cd 213 2 = some (.putfield 3, 3, ((11 : Nat) : Int), 0) := rfl
theorem i213_5 : mm_cd 213 5 = some (.aload_n 0, 1, 0, 0) := rfl
theorem i213_6 : mm_cd 213 6 = some (.getfield 84, 3, ((11 : Nat) : Int), 9) := rfl
theorem i213_9 : mm_cd 213 9 = some (.bipush 20, 2, 0, 0) := rfl
theorem i213_11 : mm_cd 213 11 = some (.iadd, 1, 0, 0) := rfl
theorem i213_12 : mm_cd 213 12 = some (.sipush 400, 3, 0, 0) := rfl
theorem i213_15 : mm_cd 213 15 = some (.if_icmp .le 5, 3, 0, 0) := rfl
theorem i213_18 : mm_cd 213 18 = some (.iconst (-1), 1, 0, 0) := rfl
theorem i213_19 : mm_cd 213 19 = some (.ireturn, 1, 0, 0) := rfl
theorem i213_20 : mm_cd 213 20 = some (.aload_n 0, 1, 0, 0) := rfl
theorem i213_21 : mm_cd 213 21 = some (.getfield 36, 3, ((11 : Nat) : Int), 15) := rfl
theorem i213_24 : mm_cd 213 24 = some (.iconst 0, 1, 0, 0) := rfl
theorem i213_25 : mm_cd 213 25 = some (.iload_n 1, 1, 0, 0) := rfl
theorem i213_26 : mm_cd 213 26 = some (.iastore, 1, 0, 0) := rfl
theorem i213_27 : mm_cd 213 27 = some (.aload_n 0, 1, 0, 0) := rfl
theorem i213_28 : mm_cd 213 28 = some (.getfield 36, 3, ((11 : Nat) : Int), 15) := rfl
theorem i213_31 : mm_cd 213 31 = some (.iconst 1, 1, 0, 0) := rfl
theorem i213_32 : mm_cd 213 32 = some (.iload_n 2, 1, 0, 0) := rfl
theorem i213_33 : mm_cd 213 33 = some (.iastore, 1, 0, 0) := rfl
theorem i213_34 : mm_cd 213 34 = some (.aload_n 0, 1, 0, 0) := rfl
theorem i213_35 : mm_cd 213 35 = some (.getfield 36, 3, ((11 : Nat) : Int), 15) := rfl
theorem i213_38 : mm_cd 213 38 = some (.iconst 2, 1, 0, 0) := rfl
theorem i213_39 : mm_cd 213 39 = some (.iload_n 3, 1, 0, 0) := rfl
theorem i213_40 : mm_cd 213 40 = some (.iastore, 1, 0, 0) := rfl
theorem i213_41 : mm_cd 213 41 = some (.aload_n 0, 1, 0, 0) := rfl
theorem i213_42 : mm_cd 213 42 = some (.getfield 36, 3, ((11 : Nat) : Int), 15) := rfl
theorem i213_45 : mm_cd 213 45 = some (.iconst 3, 1, 0, 0) := rfl
theorem i213_46 : mm_cd 213 46 = some (.iload 4, 2, 0, 0) := rfl
theorem i213_48 : mm_cd 213 48 = some (.iastore, 1, 0, 0) := rfl
theorem i213_49 : mm_cd 213 49 = some (.aload_n 0, 1, 0, 0) := rfl
theorem i213_50 : mm_cd 213 50 = some (.getfield 36, 3, ((11 : Nat) : Int), 15) := rfl
theorem i213_53 : mm_cd 213 53 = some (.iconst 4, 1, 0, 0) := rfl
theorem i213_54 : mm_cd 213 54 = some (.iload 5, 2, 0, 0) := rfl
theorem i213_56 : mm_cd 213 56 = some (.iastore, 1, 0, 0) := rfl
theorem i213_57 : mm_cd 213 57 = some (.iconst 0, 1, 0, 0) := rfl
theorem i213_58 : mm_cd 213 58 = some (.istore 6, 2, 0, 0) := rfl
theorem i213_60 : mm_cd 213 60 = some (.iload 6, 2, 0, 0) := rfl
theorem i213_62 : mm_cd 213 62 = some (.bipush 20, 2, 0, 0) := rfl
theorem i213_64 : mm_cd 213 64 = some (.if_icmp .ge 42, 3, 0, 0) := rfl
theorem i213_67 : mm_cd 213 67 = some (.aload_n 0, 1, 0, 0) := rfl
theorem i213_68 : mm_cd 213 68 = some (.getfield 29, 3, ((11 : Nat) : Int), 8) := rfl
theorem i213_71 : mm_cd 213 71 = some (.aload_n 0, 1, 0, 0) := rfl
theorem i213_72 : mm_cd 213 72 = some (.getfield 84, 3, ((11 : Nat) : Int), 9) := rfl
theorem i213_75 : mm_cd 213 75 = some (.iload 6, 2, 0, 0) := rfl
theorem i213_77 : mm_cd 213 77 = some (.iadd, 1, 0, 0) := rfl
theorem i213_78 : mm_cd 213 78 = some (.aload_n 0, 1, 0, 0) := rfl
theorem i213_79 : mm_cd 213 79 = some (.getfield 36, 3, ((11 : Nat) : Int), 15) := rfl
theorem i213_82 : mm_cd 213 82 = some (.iload 6, 2, 0, 0) := rfl
theorem i213_84 : mm_cd 213 84 = some (.iconst 4, 1, 0, 0) := rfl
theorem i213_85 : mm_cd 213 85 = some (.idiv, 1, 0, 0) := rfl
theorem i213_86 : mm_cd 213 86 = some (.iaload, 1, 0, 0) := rfl
theorem i213_87 : mm_cd 213 87 = some (.bipush 24, 2, 0, 0) := rfl
theorem i213_89 : mm_cd 213 89 = some (.bipush 8, 2, 0, 0) := rfl
theorem i213_91 : mm_cd 213 91 = some (.iload 6, 2, 0, 0) := rfl
theorem i213_93 : mm_cd 213 93 = some (.iconst 4, 1, 0, 0) := rfl
theorem i213_94 : mm_cd 213 94 = some (.irem, 1, 0, 0) := rfl
theorem i213_95 : mm_cd 213 95 = some (.imul, 1, 0, 0) := rfl
theorem i213_96 : mm_cd 213 96 = some (.isub, 1, 0, 0) := rfl
theorem i213_97 : mm_cd 213 97 = some (.ishr, 1, 0, 0) := rfl
theorem i213_98 : mm_cd 213 98 = some (.i2b, 1, 0, 0) := rfl
theorem i213_99 : mm_cd 213 99 = some (.bastore, 1, 0, 0) := rfl
theorem i213_100 : mm_cd 213 100 = some (.iinc 6 1, 3, 0, 0) := rfl
theorem i213_103 : mm_cd 213 103 = some (.goto (-43), 3, 0, 0) := rfl
theorem i213_106 : mm_cd 213 106 = some (.aload_n 0, 1, 0, 0) := rfl
theorem i213_107 : mm_cd 213 107 = some (.dup, 1, 0, 0) := rfl
theorem i213_108 : mm_cd 213 108 = some (.getfield 84, 3, ((11 : Nat) : Int), 9) := rfl
theorem i213_111 : mm_cd 213 111 = some (.bipush 20, 2, 0, 0) := rfl
theorem i213_113 : mm_cd 213 113 = some (.iadd, 1, 0, 0) := rfl
theorem i213_114 : mm_cd 213 114 = some (.putfield 84, 3, ((11 : Nat) : Int), 9) := rfl
theorem i213_117 : mm_cd 213 117 = some (.aload_n 0, 1, 0, 0) := rfl
theorem i213_118 : mm_cd 213 118 = some (.getfield 84, 3, ((11 : Nat) : Int), 9) := rfl
theorem i213_121 : mm_cd 213 121 = some (.ireturn, 1, 0, 0) := rfl
def q213_60 (k106 : mS → Option mQ) : Nat → Int32 → mS → Option mQ
  | 0, _, _ => none
  | n + 1, v6, s => if (20 : Int32) ≤ v6 then (k106 s) else (gZ (4 : Int32) <| gA 5 (v6 / (4 : Int32)) <| gZ (4 : Int32) <| gA 400 ((s.1 512 9) + v6) <| sp (sI s 518 ((s.1 512 9) + v6).toNatClampNeg (vp_nar .byte ((shrI (s.1 519 (v6 / (4 : Int32)).toNatClampNeg) ((24 : Int32) - ((8 : Int32) * (rmI v6 (4 : Int32))))).toInt8.toInt32))) fun s1 => bx (v6 + (1 : Int32)) fun x2 => q213_60 k106 n x2 s1)
theorem t213_60 {L : Nat} {xs : Nat → Int32} {d : Nat} {k106 : mS → Option mQ} (hk106 : ∀ (s : mS) (r : mQ), k106 s = some r → Ev L xs d 213 106 [(0, .ref 512)] [] (hp s) (hr r)) (hd : 0 ≤ d) : ∀ (n : Nat) (v6 : Int32) (s : mS) (r : mQ), q213_60 k106 n v6 s = some r → Ev L xs d 213 60 [(0, .ref 512), (6, .int v6)] [] (hp s) (hr r) := by
  intro n
  induction n with
  | zero => intro v6 s r h; rw [q213_60] at h; cases h
  | succ n ih =>
    intro v6 s r h
    rw [q213_60] at h
    refine Ev.iload H213 i213_60 rfl ?_
    refine Ev.bipush H213 i213_62 kB_20 ?_
    refine Rd.ic_ge H213 i213_64 (t := 106) (by decide) h (fun hc h => ?_) (fun hc h => ?_)
    · exact Ev.sub (l := [(0, .ref 512)]) rfl rfl (mm_sub_c rfl mm_sub_n) (hk106 _ _ h)
    · refine Ev.aload_n H213 i213_67 rfl ?_
      refine Rd.getR H213 i213_68 ob11 rfl ?_
      refine Ev.aload_n H213 i213_71 rfl ?_
      refine Rd.getI H213 i213_72 ob11 rfl ?_
      refine Ev.iload H213 i213_75 rfl ?_
      refine Ev.iadd H213 i213_77 ?_
      refine Ev.aload_n H213 i213_78 rfl ?_
      refine Rd.getR H213 i213_79 ob11 rfl ?_
      refine Ev.iload H213 i213_82 rfl ?_
      refine Ev.iconst H213 i213_84 kI_4 ?_
      refine Rd.idiv H213 i213_85 h (fun h => ?_)
      refine Rd.iaload H213 i213_86 ar_519 h (fun h => ?_)
      refine Ev.bipush H213 i213_87 kB_24 ?_
      refine Ev.bipush H213 i213_89 kB_8 ?_
      refine Ev.iload H213 i213_91 rfl ?_
      refine Ev.iconst H213 i213_93 kI_4 ?_
      refine Rd.irem H213 i213_94 h (fun h => ?_)
      refine Ev.imul H213 i213_95 ?_
      refine Ev.isub H213 i213_96 ?_
      refine Rd.ishr H213 i213_97 ?_
      refine Ev.i2b H213 i213_98 ?_
      refine Rd.bastore H213 i213_99 ar_518 h (fun s1 h => ?_)
      refine Rd.iinc H213 i213_100 (Nat.le_of_ble_eq_true rfl) rfl kI_1 (lv2 := fun x2 => [(6, .int x2), (0, .ref 512)]) (fun _ => rfl) h (fun x2 h => ?_)
      refine Ev.goto H213 i213_103 (t := 60) (by decide) ?_
      exact Ev.sub (l := [(0, .ref 512), (6, .int x2)]) rfl rfl (mm_sub_c rfl (mm_sub_c rfl mm_sub_n)) (ih _ _ _ h)
def q213_106 (s : mS) : Option mQ := sp (sI s 512 9 ((s.1 512 9) + (20 : Int32))) fun s3 => rv (s3.1 512 9) s3
theorem t213_106 {L : Nat} {xs : Nat → Int32} {d : Nat} (hd : 0 ≤ d) {s : mS} {r : mQ} (h : q213_106 s = some r) : Ev L xs d 213 106 [(0, .ref 512)] [] (hp s) (hr r) := by
  unfold q213_106 at h
  refine Ev.aload_n H213 i213_106 rfl ?_
  refine Ev.dup H213 i213_107 rfl ?_
  refine Rd.getI H213 i213_108 ob11 rfl ?_
  refine Ev.bipush H213 i213_111 kB_20 ?_
  refine Ev.iadd H213 i213_113 ?_
  refine Rd.putI H213 i213_114 ob11 rfl ty11_9.1 ty11_9.2 h (fun s3 h => ?_)
  refine Ev.aload_n H213 i213_117 rfl ?_
  refine Rd.getI H213 i213_118 ob11 rfl ?_
  exact Rd.ireturn H213 i213_121 rfl h
/-- SerialGateModel.feed(IIIII)I -/
def q213 (v1 : Int32) (v2 : Int32) (v3 : Int32) (v4 : Int32) (v5 : Int32) (s : mS) : Option mQ := sp (sI s 512 0 (0 : Int32)) fun s4 => if ((s4.1 512 9) + (20 : Int32)) ≤ (400 : Int32) then (gA 5 (0 : Int32) <| sp (sI s4 519 (0 : Int32).toNatClampNeg v1) fun s5 => gA 5 (1 : Int32) <| sp (sI s5 519 (1 : Int32).toNatClampNeg v2) fun s6 => gA 5 (2 : Int32) <| sp (sI s6 519 (2 : Int32).toNatClampNeg v3) fun s7 => gA 5 (3 : Int32) <| sp (sI s7 519 (3 : Int32).toNatClampNeg v4) fun s8 => gA 5 (4 : Int32) <| sp (sI s8 519 (4 : Int32).toNatClampNeg v5) fun s9 => q213_60 (q213_106) 10000 (0 : Int32) s9) else (rv (-1 : Int32) s4)
theorem c213 {L : Nat} {xs : Nat → Int32} {v1 : Int32} {v2 : Int32} {v3 : Int32} {v4 : Int32} {v5 : Int32} {s : mS} {r : mQ} (h : q213 v1 v2 v3 v4 v5 s = some r) : ∀ d, 0 ≤ d → Cl L xs d 213 [.ref 512, .int v1, .int v2, .int v3, .int v4, .int v5] (hp s) (hr r) := by
  intro d hd
  show Ev L xs d 213 0 [(0, .ref 512), (1, .int v1), (2, .int v2), (3, .int v3), (4, .int v4), (5, .int v5)] [] (hp s) (hr r)
  unfold q213 at h
  refine Ev.aload_n H213 i213_0 rfl ?_
  refine Ev.iconst H213 i213_1 kI_0 ?_
  refine Rd.putI H213 i213_2 ob11 rfl ty11_0.1 ty11_0.2 h (fun s4 h => ?_)
  refine Ev.aload_n H213 i213_5 rfl ?_
  refine Rd.getI H213 i213_6 ob11 rfl ?_
  refine Ev.bipush H213 i213_9 kB_20 ?_
  refine Ev.iadd H213 i213_11 ?_
  refine Ev.sipush H213 i213_12 kS_400 ?_
  refine Rd.ic_le H213 i213_15 (t := 20) (by decide) h (fun hc h => ?_) (fun hc h => ?_)
  · refine Ev.aload_n H213 i213_20 rfl ?_
    refine Rd.getR H213 i213_21 ob11 rfl ?_
    refine Ev.iconst H213 i213_24 kI_0 ?_
    refine Ev.iload_n H213 i213_25 rfl ?_
    refine Rd.iastore H213 i213_26 ar_519 h (fun s5 h => ?_)
    refine Ev.aload_n H213 i213_27 rfl ?_
    refine Rd.getR H213 i213_28 ob11 rfl ?_
    refine Ev.iconst H213 i213_31 kI_1 ?_
    refine Ev.iload_n H213 i213_32 rfl ?_
    refine Rd.iastore H213 i213_33 ar_519 h (fun s6 h => ?_)
    refine Ev.aload_n H213 i213_34 rfl ?_
    refine Rd.getR H213 i213_35 ob11 rfl ?_
    refine Ev.iconst H213 i213_38 kI_2 ?_
    refine Ev.iload_n H213 i213_39 rfl ?_
    refine Rd.iastore H213 i213_40 ar_519 h (fun s7 h => ?_)
    refine Ev.aload_n H213 i213_41 rfl ?_
    refine Rd.getR H213 i213_42 ob11 rfl ?_
    refine Ev.iconst H213 i213_45 kI_3 ?_
    refine Ev.iload H213 i213_46 rfl ?_
    refine Rd.iastore H213 i213_48 ar_519 h (fun s8 h => ?_)
    refine Ev.aload_n H213 i213_49 rfl ?_
    refine Rd.getR H213 i213_50 ob11 rfl ?_
    refine Ev.iconst H213 i213_53 kI_4 ?_
    refine Ev.iload H213 i213_54 rfl ?_
    refine Rd.iastore H213 i213_56 ar_519 h (fun s9 h => ?_)
    refine Ev.iconst H213 i213_57 kI_0 ?_
    refine Ev.istore H213 i213_58 (Nat.le_of_ble_eq_true rfl) (lv2 := [(6, .int (0 : Int32)), (0, .ref 512), (1, .int v1), (2, .int v2), (3, .int v3), (4, .int v4), (5, .int v5)]) rfl ?_
    exact Ev.sub (l := [(0, .ref 512), (6, .int (0 : Int32))]) rfl rfl (mm_sub_c rfl (mm_sub_c rfl mm_sub_n)) (t213_60 (k106 := (q213_106)) (fun _ _ h => t213_106 hd h) hd 10000 _ _ _ h)
  · refine Ev.iconst H213 i213_18 kI_m1 ?_
    exact Rd.ireturn H213 i213_19 rfl h
theorem i214_0 : mm_cd 214 0 = some (.aload_n 0, 1, 0, 0) := rfl
theorem i214_1 : mm_cd 214 1 = some (.iconst 0, 1, 0, 0) := rfl
theorem i214_2 : mm_cd 214 2 = some (.putfield 3, 3, ((11 : Nat) : Int), 0) := rfl
theorem i214_5 : mm_cd 214 5 = some (.iload_n 1, 1, 0, 0) := rfl
theorem i214_6 : mm_cd 214 6 = some (.ifCond .lt 11, 3, 0, 0) := rfl
theorem i214_9 : mm_cd 214 9 = some (.iload_n 1, 1, 0, 0) := rfl
theorem i214_10 : mm_cd 214 10 = some (.aload_n 0, 1, 0, 0) := rfl
theorem i214_11 : mm_cd 214 11 = some (.getfield 84, 3, ((11 : Nat) : Int), 9) := rfl
theorem i214_14 : mm_cd 214 14 = some (.if_icmp .le 5, 3, 0, 0) := rfl
theorem i214_17 : mm_cd 214 17 = some (.iconst 0, 1, 0, 0) := rfl
theorem i214_18 : mm_cd 214 18 = some (.ireturn, 1, 0, 0) := rfl
theorem i214_19 : mm_cd 214 19 = some (.aload_n 0, 1, 0, 0) := rfl
theorem i214_20 : mm_cd 214 20 = some (.iload_n 1, 1, 0, 0) := rfl
theorem i214_21 : mm_cd 214 21 = some (.putfield 84, 3, ((11 : Nat) : Int), 9) := rfl
theorem i214_24 : mm_cd 214 24 = some (.iconst 1, 1, 0, 0) := rfl
theorem i214_25 : mm_cd 214 25 = some (.ireturn, 1, 0, 0) := rfl
/-- SerialGateModel.end(I)Z -/
def q214 (v1 : Int32) (s : mS) : Option mQ := sp (sI s 512 0 (0 : Int32)) fun s1 => if v1 < 0 then (rv (0 : Int32) s1) else (if v1 ≤ (s1.1 512 9) then (sp (sI s1 512 9 v1) fun s2 => rv (1 : Int32) s2) else (rv (0 : Int32) s1))
theorem c214 {L : Nat} {xs : Nat → Int32} {v1 : Int32} {s : mS} {r : mQ} (h : q214 v1 s = some r) : ∀ d, 0 ≤ d → Cl L xs d 214 [.ref 512, .int v1] (hp s) (hr r) := by
  intro d hd
  show Ev L xs d 214 0 [(0, .ref 512), (1, .int v1)] [] (hp s) (hr r)
  unfold q214 at h
  refine Ev.aload_n H214 i214_0 rfl ?_
  refine Ev.iconst H214 i214_1 kI_0 ?_
  refine Rd.putI H214 i214_2 ob11 rfl ty11_0.1 ty11_0.2 h (fun s1 h => ?_)
  refine Ev.iload_n H214 i214_5 rfl ?_
  refine Rd.if_lt H214 i214_6 (t := 17) (by decide) h (fun hc h => ?_) (fun hc h => ?_)
  · refine Ev.iconst H214 i214_17 kI_0 ?_
    exact Rd.ireturnK H214 i214_18 rfl (Or.inl rfl) h
  · refine Ev.iload_n H214 i214_9 rfl ?_
    refine Ev.aload_n H214 i214_10 rfl ?_
    refine Rd.getI H214 i214_11 ob11 rfl ?_
    refine Rd.ic_le H214 i214_14 (t := 19) (by decide) h (fun hc h => ?_) (fun hc h => ?_)
    · refine Ev.aload_n H214 i214_19 rfl ?_
      refine Ev.iload_n H214 i214_20 rfl ?_
      refine Rd.putI H214 i214_21 ob11 rfl ty11_9.1 ty11_9.2 h (fun s2 h => ?_)
      refine Ev.iconst H214 i214_24 kI_1 ?_
      exact Rd.ireturnK H214 i214_25 rfl (Or.inr rfl) h
    · refine Ev.iconst H214 i214_17 kI_0 ?_
      exact Rd.ireturnK H214 i214_18 rfl (Or.inl rfl) h
theorem i215_0 : mm_cd 215 0 = some (.aload_n 0, 1, 0, 0) := rfl
theorem i215_1 : mm_cd 215 1 = some (.getfield 87, 3, ((11 : Nat) : Int), 10) := rfl
theorem i215_4 : mm_cd 215 4 = some (.aload_n 0, 1, 0, 0) := rfl
theorem i215_5 : mm_cd 215 5 = some (.getfield 90, 3, ((11 : Nat) : Int), 11) := rfl
theorem i215_8 : mm_cd 215 8 = some (.if_icmp .ge 33, 3, 0, 0) := rfl
theorem i215_11 : mm_cd 215 11 = some (.aload_n 0, 1, 0, 0) := rfl
theorem i215_12 : mm_cd 215 12 = some (.getfield 29, 3, ((11 : Nat) : Int), 8) := rfl
theorem i215_15 : mm_cd 215 15 = some (.aload_n 0, 1, 0, 0) := rfl
theorem i215_16 : mm_cd 215 16 = some (.getfield 87, 3, ((11 : Nat) : Int), 10) := rfl
theorem i215_19 : mm_cd 215 19 = some (.baload, 1, 0, 0) := rfl
theorem i215_20 : mm_cd 215 20 = some (.iload_n 1, 1, 0, 0) := rfl
theorem i215_21 : mm_cd 215 21 = some (.if_icmp .lt 20, 3, 0, 0) := rfl
theorem i215_24 : mm_cd 215 24 = some (.aload_n 0, 1, 0, 0) := rfl
theorem i215_25 : mm_cd 215 25 = some (.getfield 29, 3, ((11 : Nat) : Int), 8) := rfl
theorem i215_28 : mm_cd 215 28 = some (.aload_n 0, 1, 0, 0) := rfl
theorem i215_29 : mm_cd 215 29 = some (.getfield 87, 3, ((11 : Nat) : Int), 10) := rfl
theorem i215_32 : mm_cd 215 32 = some (.baload, 1, 0, 0) := rfl
theorem i215_33 : mm_cd 215 33 = some (.iload_n 2, 1, 0, 0) := rfl
theorem i215_34 : mm_cd 215 34 = some (.if_icmp .gt 7, 3, 0, 0) := rfl
theorem i215_37 : mm_cd 215 37 = some (.iconst 1, 1, 0, 0) := rfl
theorem i215_38 : mm_cd 215 38 = some (.goto 4, 3, 0, 0) := rfl
theorem i215_41 : mm_cd 215 41 = some (.iconst 0, 1, 0, 0) := rfl
theorem i215_42 : mm_cd 215 42 = some (.ireturn, 1, 0, 0) := rfl
/-- SerialGateModel.isAt(II)Z -/
def q215 (v1 : Int32) (v2 : Int32) (s : mS) : Option mQ := if (s.1 512 11) ≤ (s.1 512 10) then (rv (0 : Int32) s) else (gA 400 (s.1 512 10) <| if (s.1 518 (s.1 512 10).toNatClampNeg) < v1 then (rv (0 : Int32) s) else (gA 400 (s.1 512 10) <| if v2 < (s.1 518 (s.1 512 10).toNatClampNeg) then (rv (0 : Int32) s) else (rv (1 : Int32) s)))
theorem c215 {L : Nat} {xs : Nat → Int32} {v1 : Int32} {v2 : Int32} {s : mS} {r : mQ} (h : q215 v1 v2 s = some r) : ∀ d, 0 ≤ d → Cl L xs d 215 [.ref 512, .int v1, .int v2] (hp s) (hr r) := by
  intro d hd
  show Ev L xs d 215 0 [(0, .ref 512), (1, .int v1), (2, .int v2)] [] (hp s) (hr r)
  unfold q215 at h
  refine Ev.aload_n H215 i215_0 rfl ?_
  refine Rd.getI H215 i215_1 ob11 rfl ?_
  refine Ev.aload_n H215 i215_4 rfl ?_
  refine Rd.getI H215 i215_5 ob11 rfl ?_
  refine Rd.ic_ge H215 i215_8 (t := 41) (by decide) h (fun hc h => ?_) (fun hc h => ?_)
  · refine Ev.iconst H215 i215_41 kI_0 ?_
    exact Rd.ireturnK H215 i215_42 rfl (Or.inl rfl) h
  · refine Ev.aload_n H215 i215_11 rfl ?_
    refine Rd.getR H215 i215_12 ob11 rfl ?_
    refine Ev.aload_n H215 i215_15 rfl ?_
    refine Rd.getI H215 i215_16 ob11 rfl ?_
    refine Rd.baload H215 i215_19 ar_518 h (fun h => ?_)
    refine Ev.iload_n H215 i215_20 rfl ?_
    refine Rd.ic_lt H215 i215_21 (t := 41) (by decide) h (fun hc h => ?_) (fun hc h => ?_)
    · refine Ev.iconst H215 i215_41 kI_0 ?_
      exact Rd.ireturnK H215 i215_42 rfl (Or.inl rfl) h
    · refine Ev.aload_n H215 i215_24 rfl ?_
      refine Rd.getR H215 i215_25 ob11 rfl ?_
      refine Ev.aload_n H215 i215_28 rfl ?_
      refine Rd.getI H215 i215_29 ob11 rfl ?_
      refine Rd.baload H215 i215_32 ar_518 h (fun h => ?_)
      refine Ev.iload_n H215 i215_33 rfl ?_
      refine Rd.ic_gt H215 i215_34 (t := 41) (by decide) h (fun hc h => ?_) (fun hc h => ?_)
      · refine Ev.iconst H215 i215_41 kI_0 ?_
        exact Rd.ireturnK H215 i215_42 rfl (Or.inl rfl) h
      · refine Ev.iconst H215 i215_37 kI_1 ?_
        refine Ev.goto H215 i215_38 (t := 42) (by decide) ?_
        exact Rd.ireturnK H215 i215_42 rfl (Or.inr rfl) h
theorem i216_0 : mm_cd 216 0 = some (.aload_n 0, 1, 0, 0) := rfl
theorem i216_1 : mm_cd 216 1 = some (.bipush 32, 2, 0, 0) := rfl
theorem i216_3 : mm_cd 216 3 = some (.bipush 32, 2, 0, 0) := rfl
theorem i216_5 : mm_cd 216 5 = some (.invokevirtual 93, 3, 0, 215) := rfl
theorem i216_8 : mm_cd 216 8 = some (.ifCond .eq 16, 3, 0, 0) := rfl
theorem i216_11 : mm_cd 216 11 = some (.aload_n 0, 1, 0, 0) := rfl
theorem i216_12 : mm_cd 216 12 = some (.dup, 1, 0, 0) := rfl
theorem i216_13 : mm_cd 216 13 = some (.getfield 87, 3, ((11 : Nat) : Int), 10) := rfl
theorem i216_16 : mm_cd 216 16 = some (.iconst 1, 1, 0, 0) := rfl
theorem i216_17 : mm_cd 216 17 = some (.iadd, 1, 0, 0) := rfl
theorem i216_18 : mm_cd 216 18 = some (.putfield 87, 3, ((11 : Nat) : Int), 10) := rfl
theorem i216_21 : mm_cd 216 21 = some (.goto (-21), 3, 0, 0) := rfl
theorem i216_24 : mm_cd 216 24 = some (.aload_n 0, 1, 0, 0) := rfl
theorem i216_25 : mm_cd 216 25 = some (.aload_n 0, 1, 0, 0) := rfl
theorem i216_26 : mm_cd 216 26 = some (.getfield 87, 3, ((11 : Nat) : Int), 10) := rfl
theorem i216_29 : mm_cd 216 29 = some (.putfield 96, 3, ((11 : Nat) : Int), 12) := rfl
theorem i216_32 : mm_cd 216 32 = some (.return_, 1, 0, 0) := rfl
def q216_0 (k24 : mS → Option mQ) : Nat → mS → Option mQ
  | 0, _ => none
  | n + 1, s => bN (q215 (32 : Int32) (32 : Int32) s) fun x2 s1 => if x2 = 0 then (k24 s1) else (sp (sI s1 512 10 ((s1.1 512 10) + (1 : Int32))) fun s3 => q216_0 k24 n s3)
theorem t216_0 {L : Nat} {xs : Nat → Int32} {d : Nat} {k24 : mS → Option mQ} (hk24 : ∀ (s : mS) (r : mQ), k24 s = some r → Ev L xs d 216 24 [(0, .ref 512)] [] (hp s) (hr r)) (hd : 1 ≤ d) : ∀ (n : Nat) (s : mS) (r : mQ), q216_0 k24 n s = some r → Ev L xs d 216 0 [(0, .ref 512)] [] (hp s) (hr r) := by
  intro n
  induction n with
  | zero => intro s r h; rw [q216_0] at h; cases h
  | succ n ih =>
    intro s r h
    rw [q216_0] at h
    refine Ev.aload_n H216 i216_0 rfl ?_
    refine Ev.bipush H216 i216_1 kB_32 ?_
    refine Ev.bipush H216 i216_3 kB_32 ?_
    refine Rd.cV2vN H216 i216_5 cal215 ob11 (Nat.le_of_ble_eq_true rfl) (Nat.le_of_ble_eq_true rfl) (Nat.lt_of_lt_of_le (by decide) hd) (fun q hq => c215 hq) h (fun x2 s1 h => ?_)
    refine Rd.if_eq H216 i216_8 (t := 24) (by decide) h (fun hc h => ?_) (fun hc h => ?_)
    · exact Ev.sub (l := [(0, .ref 512)]) rfl rfl (mm_sub_c rfl mm_sub_n) (hk24 _ _ h)
    · refine Ev.aload_n H216 i216_11 rfl ?_
      refine Ev.dup H216 i216_12 rfl ?_
      refine Rd.getI H216 i216_13 ob11 rfl ?_
      refine Ev.iconst H216 i216_16 kI_1 ?_
      refine Ev.iadd H216 i216_17 ?_
      refine Rd.putI H216 i216_18 ob11 rfl ty11_10.1 ty11_10.2 h (fun s3 h => ?_)
      refine Ev.goto H216 i216_21 (t := 0) (by decide) ?_
      exact Ev.sub (l := [(0, .ref 512)]) rfl rfl (mm_sub_c rfl mm_sub_n) (ih _ _ h)
def q216_24 (s : mS) : Option mQ := sp (sI s 512 12 (s.1 512 10)) fun s4 => ru s4
theorem t216_24 {L : Nat} {xs : Nat → Int32} {d : Nat} (hd : 1 ≤ d) {s : mS} {r : mQ} (h : q216_24 s = some r) : Ev L xs d 216 24 [(0, .ref 512)] [] (hp s) (hr r) := by
  unfold q216_24 at h
  refine Ev.aload_n H216 i216_24 rfl ?_
  refine Ev.aload_n H216 i216_25 rfl ?_
  refine Rd.getI H216 i216_26 ob11 rfl ?_
  refine Rd.putI H216 i216_29 ob11 rfl ty11_12.1 ty11_12.2 h (fun s4 h => ?_)
  exact Rd.return_ H216 i216_32 rfl h
/-- SerialGateModel.blanks()V -/
def q216 (s : mS) : Option mQ := q216_0 (q216_24) 10000 s
theorem c216 {L : Nat} {xs : Nat → Int32} {s : mS} {r : mQ} (h : q216 s = some r) : ∀ d, 1 ≤ d → Cl L xs d 216 [.ref 512] (hp s) (hr r) := by
  intro d hd
  show Ev L xs d 216 0 [(0, .ref 512)] [] (hp s) (hr r)
  unfold q216 at h
  exact Ev.sub (l := [(0, .ref 512)]) rfl rfl (mm_sub_c rfl mm_sub_n) (t216_0 (k24 := (q216_24)) (fun _ _ h => t216_24 hd h) hd 10000 _ _ h)
theorem i217_0 : mm_cd 217 0 = some (.aload_n 0, 1, 0, 0) := rfl
theorem i217_1 : mm_cd 217 1 = some (.invokevirtual 99, 3, 0, 216) := rfl
theorem i217_4 : mm_cd 217 4 = some (.aload_n 0, 1, 0, 0) := rfl
theorem i217_5 : mm_cd 217 5 = some (.bipush 97, 2, 0, 0) := rfl
theorem i217_7 : mm_cd 217 7 = some (.bipush 122, 2, 0, 0) := rfl
theorem i217_9 : mm_cd 217 9 = some (.invokevirtual 93, 3, 0, 215) := rfl
theorem i217_12 : mm_cd 217 12 = some (.ifCond .eq 16, 3, 0, 0) := rfl
theorem i217_15 : mm_cd 217 15 = some (.aload_n 0, 1, 0, 0) := rfl
theorem i217_16 : mm_cd 217 16 = some (.dup, 1, 0, 0) := rfl
theorem i217_17 : mm_cd 217 17 = some (.getfield 87, 3, ((11 : Nat) : Int), 10) := rfl
theorem i217_20 : mm_cd 217 20 = some (.iconst 1, 1, 0, 0) := rfl
theorem i217_21 : mm_cd 217 21 = some (.iadd, 1, 0, 0) := rfl
theorem i217_22 : mm_cd 217 22 = some (.putfield 87, 3, ((11 : Nat) : Int), 10) := rfl
theorem i217_25 : mm_cd 217 25 = some (.goto (-21), 3, 0, 0) := rfl
theorem i217_28 : mm_cd 217 28 = some (.return_, 1, 0, 0) := rfl
def q217_4 : Nat → mS → Option mQ
  | 0, _ => none
  | n + 1, s => bN (q215 (97 : Int32) (122 : Int32) s) fun x2 s1 => if x2 = 0 then (ru s1) else (sp (sI s1 512 10 ((s1.1 512 10) + (1 : Int32))) fun s3 => q217_4 n s3)
theorem t217_4 {L : Nat} {xs : Nat → Int32} {d : Nat} (hd : 2 ≤ d) : ∀ (n : Nat) (s : mS) (r : mQ), q217_4 n s = some r → Ev L xs d 217 4 [(0, .ref 512)] [] (hp s) (hr r) := by
  intro n
  induction n with
  | zero => intro s r h; rw [q217_4] at h; cases h
  | succ n ih =>
    intro s r h
    rw [q217_4] at h
    refine Ev.aload_n H217 i217_4 rfl ?_
    refine Ev.bipush H217 i217_5 kB_97 ?_
    refine Ev.bipush H217 i217_7 kB_122 ?_
    refine Rd.cV2vN H217 i217_9 cal215 ob11 (Nat.le_of_ble_eq_true rfl) (Nat.le_of_ble_eq_true rfl) (Nat.lt_of_lt_of_le (by decide) hd) (fun q hq => c215 hq) h (fun x2 s1 h => ?_)
    refine Rd.if_eq H217 i217_12 (t := 28) (by decide) h (fun hc h => ?_) (fun hc h => ?_)
    · exact Rd.return_ H217 i217_28 rfl h
    · refine Ev.aload_n H217 i217_15 rfl ?_
      refine Ev.dup H217 i217_16 rfl ?_
      refine Rd.getI H217 i217_17 ob11 rfl ?_
      refine Ev.iconst H217 i217_20 kI_1 ?_
      refine Ev.iadd H217 i217_21 ?_
      refine Rd.putI H217 i217_22 ob11 rfl ty11_10.1 ty11_10.2 h (fun s3 h => ?_)
      refine Ev.goto H217 i217_25 (t := 4) (by decide) ?_
      exact Ev.sub (l := [(0, .ref 512)]) rfl rfl (mm_sub_c rfl mm_sub_n) (ih _ _ h)
/-- SerialGateModel.letters()V -/
def q217 (s : mS) : Option mQ := bM (q216 s) fun s4 => q217_4 10000 s4
theorem c217 {L : Nat} {xs : Nat → Int32} {s : mS} {r : mQ} (h : q217 s = some r) : ∀ d, 2 ≤ d → Cl L xs d 217 [.ref 512] (hp s) (hr r) := by
  intro d hd
  show Ev L xs d 217 0 [(0, .ref 512)] [] (hp s) (hr r)
  unfold q217 at h
  refine Ev.aload_n H217 i217_0 rfl ?_
  refine Rd.cV0uN H217 i217_1 cal216 ob11 (Nat.le_of_ble_eq_true rfl) (Nat.le_of_ble_eq_true rfl) (Nat.lt_of_lt_of_le (by decide) hd) (fun q hq => c216 hq) h (fun s4 h => ?_)
  exact Ev.sub (l := [(0, .ref 512)]) rfl rfl (mm_sub_c rfl mm_sub_n) (t217_4 hd 10000 _ _ h)
theorem i218_0 : mm_cd 218 0 = some (.aload_n 0, 1, 0, 0) := rfl
theorem i218_1 : mm_cd 218 1 = some (.getfield 87, 3, ((11 : Nat) : Int), 10) := rfl
theorem i218_4 : mm_cd 218 4 = some (.aload_n 0, 1, 0, 0) := rfl
theorem i218_5 : mm_cd 218 5 = some (.getfield 96, 3, ((11 : Nat) : Int), 12) := rfl
theorem i218_8 : mm_cd 218 8 = some (.isub, 1, 0, 0) := rfl
theorem i218_9 : mm_cd 218 9 = some (.aload_n 1, 1, 0, 0) := rfl
theorem i218_10 : mm_cd 218 10 = some (.invokevirtual 102, 3, 1, 0) := rfl
theorem i218_13 : mm_cd 218 13 = some (.if_icmp .ne 7, 3, 0, 0) := rfl
theorem i218_16 : mm_cd 218 16 = some (.iconst 1, 1, 0, 0) := rfl
theorem i218_17 : mm_cd 218 17 = some (.goto 4, 3, 0, 0) := rfl
theorem i218_20 : mm_cd 218 20 = some (.iconst 0, 1, 0, 0) := rfl
theorem i218_21 : mm_cd 218 21 = some (.istore_n 2, 1, 0, 0) := rfl
theorem i218_22 : mm_cd 218 22 = some (.iconst 0, 1, 0, 0) := rfl
theorem i218_23 : mm_cd 218 23 = some (.istore_n 3, 1, 0, 0) := rfl
theorem i218_24 : mm_cd 218 24 = some (.iload_n 2, 1, 0, 0) := rfl
theorem i218_25 : mm_cd 218 25 = some (.ifCond .eq 42, 3, 0, 0) := rfl
theorem i218_28 : mm_cd 218 28 = some (.iload_n 3, 1, 0, 0) := rfl
theorem i218_29 : mm_cd 218 29 = some (.aload_n 1, 1, 0, 0) := rfl
theorem i218_30 : mm_cd 218 30 = some (.invokevirtual 102, 3, 1, 0) := rfl
theorem i218_33 : mm_cd 218 33 = some (.if_icmp .ge 34, 3, 0, 0) := rfl
theorem i218_36 : mm_cd 218 36 = some (.aload_n 0, 1, 0, 0) := rfl
theorem i218_37 : mm_cd 218 37 = some (.getfield 29, 3, ((11 : Nat) : Int), 8) := rfl
theorem i218_40 : mm_cd 218 40 = some (.aload_n 0, 1, 0, 0) := rfl
theorem i218_41 : mm_cd 218 41 = some (.getfield 96, 3, ((11 : Nat) : Int), 12) := rfl
theorem i218_44 : mm_cd 218 44 = some (.iload_n 3, 1, 0, 0) := rfl
theorem i218_45 : mm_cd 218 45 = some (.iadd, 1, 0, 0) := rfl
theorem i218_46 : mm_cd 218 46 = some (.baload, 1, 0, 0) := rfl
theorem i218_47 : mm_cd 218 47 = some (.aload_n 1, 1, 0, 0) := rfl
theorem i218_48 : mm_cd 218 48 = some (.iload_n 3, 1, 0, 0) := rfl
theorem i218_49 : mm_cd 218 49 = some (.invokevirtual 108, 3, 2, 0) := rfl
theorem i218_52 : mm_cd 218 52 = some (.if_icmp .ne 7, 3, 0, 0) := rfl
theorem i218_55 : mm_cd 218 55 = some (.iconst 1, 1, 0, 0) := rfl
theorem i218_56 : mm_cd 218 56 = some (.goto 4, 3, 0, 0) := rfl
theorem i218_59 : mm_cd 218 59 = some (.iconst 0, 1, 0, 0) := rfl
theorem i218_60 : mm_cd 218 60 = some (.istore_n 2, 1, 0, 0) := rfl
theorem i218_61 : mm_cd 218 61 = some (.iinc 3 1, 3, 0, 0) := rfl
theorem i218_64 : mm_cd 218 64 = some (.goto (-40), 3, 0, 0) := rfl
theorem i218_67 : mm_cd 218 67 = some (.iload_n 2, 1, 0, 0) := rfl
theorem i218_68 : mm_cd 218 68 = some (.ireturn, 1, 0, 0) := rfl
def q218_60 (k24 : Int32 → Int32 → mS → Option mQ) (tx : Nat) (v3 : Int32) (y0 : Int32) (s : mS) : Option mQ := bx (v3 + (1 : Int32)) fun x1 => k24 y0 x1 s
theorem t218_60 {L : Nat} {xs : Nat → Int32} {d : Nat} {k24 : Int32 → Int32 → mS → Option mQ} {tx : Nat} (hk24 : ∀ (v2 : Int32) (v3 : Int32) (s : mS) (r : mQ), k24 v2 v3 s = some r → Ev L xs d 218 24 [(0, .ref 512), (1, .retAddr tx), (2, .int v2), (3, .int v3)] [] (hp s) (hr r)) (mtx : tx < 36) (hd : 0 ≤ d) {v3 : Int32} {y0 : Int32} {s : mS} {r : mQ} (h : q218_60 k24 tx v3 y0 s = some r) : Ev L xs d 218 60 [(0, .ref 512), (1, .retAddr tx), (3, .int v3)] [.int y0] (hp s) (hr r) := by
  unfold q218_60 at h
  refine Ev.istore_n H218 i218_60 (Nat.le_of_ble_eq_true rfl) (lv2 := [(2, .int y0), (0, .ref 512), (1, .retAddr tx), (3, .int v3)]) rfl ?_
  refine Rd.iinc H218 i218_61 (Nat.le_of_ble_eq_true rfl) rfl kI_1 (lv2 := fun x1 => [(3, .int x1), (2, .int y0), (0, .ref 512), (1, .retAddr tx)]) (fun _ => rfl) h (fun x1 h => ?_)
  refine Ev.goto H218 i218_64 (t := 24) (by decide) ?_
  exact Ev.sub (l := [(0, .ref 512), (1, .retAddr tx), (2, .int y0), (3, .int x1)]) rfl rfl (mm_sub_c rfl (mm_sub_c rfl (mm_sub_c rfl (mm_sub_c rfl mm_sub_n)))) (hk24 _ _ _ _ h)
def q218_24 (tx : Nat) : Nat → Int32 → Int32 → mS → Option mQ
  | 0, _, _, _ => none
  | n + 1, v2, v3, s => if v2 = 0 then (gB v2 <| rv v2 s) else (if (Int32.ofNat (mm_txt tx).length) ≤ v3 then (gB v2 <| rv v2 s) else (gA 400 ((s.1 512 12) + v3) <| gA (mm_txt tx).length v3 <| if ¬ (s.1 518 ((s.1 512 12) + v3).toNatClampNeg) = ((mm_txt tx).getD v3.toNatClampNeg 0) then (q218_60 (q218_24 tx n) tx v3 (0 : Int32) s) else (q218_60 (q218_24 tx n) tx v3 (1 : Int32) s)))
theorem t218_24 {L : Nat} {xs : Nat → Int32} {d : Nat} {tx : Nat} (mtx : tx < 36) (hd : 0 ≤ d) : ∀ (n : Nat) (v2 : Int32) (v3 : Int32) (s : mS) (r : mQ), q218_24 tx n v2 v3 s = some r → Ev L xs d 218 24 [(0, .ref 512), (1, .retAddr tx), (2, .int v2), (3, .int v3)] [] (hp s) (hr r) := by
  intro n
  induction n with
  | zero => intro v2 v3 s r h; rw [q218_24] at h; cases h
  | succ n ih =>
    intro v2 v3 s r h
    rw [q218_24] at h
    refine Ev.iload_n H218 i218_24 rfl ?_
    refine Rd.if_eq H218 i218_25 (t := 67) (by decide) h (fun hc h => ?_) (fun hc h => ?_)
    · refine Ev.iload_n H218 i218_67 rfl ?_
      exact Rd.ireturnZ H218 i218_68 rfl h
    · refine Ev.iload_n H218 i218_28 rfl ?_
      refine Ev.aload_nT H218 i218_29 rfl ?_
      refine Rd.slen H218 i218_30 (Nat.le_of_ble_eq_true rfl) mtx ?_
      refine Rd.ic_ge H218 i218_33 (t := 67) (by decide) h (fun hc h => ?_) (fun hc h => ?_)
      · refine Ev.iload_n H218 i218_67 rfl ?_
        exact Rd.ireturnZ H218 i218_68 rfl h
      · refine Ev.aload_n H218 i218_36 rfl ?_
        refine Rd.getR H218 i218_37 ob11 rfl ?_
        refine Ev.aload_n H218 i218_40 rfl ?_
        refine Rd.getI H218 i218_41 ob11 rfl ?_
        refine Ev.iload_n H218 i218_44 rfl ?_
        refine Ev.iadd H218 i218_45 ?_
        refine Rd.baload H218 i218_46 ar_518 h (fun h => ?_)
        refine Ev.aload_nT H218 i218_47 rfl ?_
        refine Ev.iload_n H218 i218_48 rfl ?_
        refine Rd.schr H218 i218_49 (Nat.le_of_ble_eq_true rfl) mtx h (fun h => ?_)
        refine Rd.ic_ne H218 i218_52 (t := 59) (by decide) h (fun hc h => ?_) (fun hc h => ?_)
        · refine Ev.iconst H218 i218_59 kI_0 ?_
          exact Ev.sub (l := [(0, .ref 512), (1, .retAddr tx), (3, .int v3)]) rfl rfl (mm_sub_c rfl (mm_sub_c rfl (mm_sub_c rfl mm_sub_n))) (t218_60 (k24 := (q218_24 tx n)) (fun _ _ _ _ h => ih _ _ _ _ h) mtx hd h)
        · refine Ev.iconst H218 i218_55 kI_1 ?_
          refine Ev.goto H218 i218_56 (t := 60) (by decide) ?_
          exact Ev.sub (l := [(0, .ref 512), (1, .retAddr tx), (3, .int v3)]) rfl rfl (mm_sub_c rfl (mm_sub_c rfl (mm_sub_c rfl mm_sub_n))) (t218_60 (k24 := (q218_24 tx n)) (fun _ _ _ _ h => ih _ _ _ _ h) mtx hd h)
def q218_21 (tx : Nat) (y0 : Int32) (s : mS) : Option mQ := q218_24 tx 10000 y0 (0 : Int32) s
theorem t218_21 {L : Nat} {xs : Nat → Int32} {d : Nat} {tx : Nat} (mtx : tx < 36) (hd : 0 ≤ d) {y0 : Int32} {s : mS} {r : mQ} (h : q218_21 tx y0 s = some r) : Ev L xs d 218 21 [(0, .ref 512), (1, .retAddr tx)] [.int y0] (hp s) (hr r) := by
  unfold q218_21 at h
  refine Ev.istore_n H218 i218_21 (Nat.le_of_ble_eq_true rfl) (lv2 := [(2, .int y0), (0, .ref 512), (1, .retAddr tx)]) rfl ?_
  refine Ev.iconst H218 i218_22 kI_0 ?_
  refine Ev.istore_n H218 i218_23 (Nat.le_of_ble_eq_true rfl) (lv2 := [(3, .int (0 : Int32)), (2, .int y0), (0, .ref 512), (1, .retAddr tx)]) rfl ?_
  exact Ev.sub (l := [(0, .ref 512), (1, .retAddr tx), (2, .int y0), (3, .int (0 : Int32))]) rfl rfl (mm_sub_c rfl (mm_sub_c rfl (mm_sub_c rfl (mm_sub_c rfl mm_sub_n)))) (t218_24 mtx hd 10000 _ _ _ _ h)
/-- SerialGateModel.isWord(Ljava/lang/String;)Z -/
def q218 (tx : Nat) (s : mS) : Option mQ := if ¬ ((s.1 512 10) - (s.1 512 12)) = (Int32.ofNat (mm_txt tx).length) then (q218_21 tx (0 : Int32) s) else (q218_21 tx (1 : Int32) s)
theorem c218 {L : Nat} {xs : Nat → Int32} {tx : Nat} (mtx : tx < 36) {s : mS} {r : mQ} (h : q218 tx s = some r) : ∀ d, 0 ≤ d → Cl L xs d 218 [.ref 512, .retAddr tx] (hp s) (hr r) := by
  intro d hd
  show Ev L xs d 218 0 [(0, .ref 512), (1, .retAddr tx)] [] (hp s) (hr r)
  unfold q218 at h
  refine Ev.aload_n H218 i218_0 rfl ?_
  refine Rd.getI H218 i218_1 ob11 rfl ?_
  refine Ev.aload_n H218 i218_4 rfl ?_
  refine Rd.getI H218 i218_5 ob11 rfl ?_
  refine Ev.isub H218 i218_8 ?_
  refine Ev.aload_nT H218 i218_9 rfl ?_
  refine Rd.slen H218 i218_10 (Nat.le_of_ble_eq_true rfl) mtx ?_
  refine Rd.ic_ne H218 i218_13 (t := 20) (by decide) h (fun hc h => ?_) (fun hc h => ?_)
  · refine Ev.iconst H218 i218_20 kI_0 ?_
    exact Ev.sub (l := [(0, .ref 512), (1, .retAddr tx)]) rfl rfl (mm_sub_c rfl (mm_sub_c rfl mm_sub_n)) (t218_21 mtx hd h)
  · refine Ev.iconst H218 i218_16 kI_1 ?_
    refine Ev.goto H218 i218_17 (t := 21) (by decide) ?_
    exact Ev.sub (l := [(0, .ref 512), (1, .retAddr tx)]) rfl rfl (mm_sub_c rfl (mm_sub_c rfl mm_sub_n)) (t218_21 mtx hd h)
theorem i219_0 : mm_cd 219 0 = some (.aload_n 0, 1, 0, 0) := rfl
theorem i219_1 : mm_cd 219 1 = some (.invokevirtual 112, 3, 0, 217) := rfl
theorem i219_4 : mm_cd 219 4 = some (.aload_n 0, 1, 0, 0) := rfl
theorem i219_5 : mm_cd 219 5 = some (.aload_n 1, 1, 0, 0) := rfl
theorem i219_6 : mm_cd 219 6 = some (.invokevirtual 115, 3, 0, 218) := rfl
theorem i219_9 : mm_cd 219 9 = some (.ifCond .eq 5, 3, 0, 0) := rfl
theorem i219_12 : mm_cd 219 12 = some (.iconst 1, 1, 0, 0) := rfl
theorem i219_13 : mm_cd 219 13 = some (.ireturn, 1, 0, 0) := rfl
theorem i219_14 : mm_cd 219 14 = some (.aload_n 0, 1, 0, 0) := rfl
theorem i219_15 : mm_cd 219 15 = some (.aload_n 0, 1, 0, 0) := rfl
theorem i219_16 : mm_cd 219 16 = some (.getfield 96, 3, ((11 : Nat) : Int), 12) := rfl
theorem i219_19 : mm_cd 219 19 = some (.putfield 87, 3, ((11 : Nat) : Int), 10) := rfl
theorem i219_22 : mm_cd 219 22 = some (.iconst 0, 1, 0, 0) := rfl
theorem i219_23 : mm_cd 219 23 = some (.ireturn, 1, 0, 0) := rfl
/-- SerialGateModel.passes(Ljava/lang/String;)Z -/
def q219 (tx : Nat) (s : mS) : Option mQ := bM (q217 s) fun s1 => bN (q218 tx s1) fun x3 s2 => if x3 = 0 then (sp (sI s2 512 10 (s2.1 512 12)) fun s4 => rv (0 : Int32) s4) else (rv (1 : Int32) s2)
theorem c219 {L : Nat} {xs : Nat → Int32} {tx : Nat} (mtx : tx < 36) {s : mS} {r : mQ} (h : q219 tx s = some r) : ∀ d, 3 ≤ d → Cl L xs d 219 [.ref 512, .retAddr tx] (hp s) (hr r) := by
  intro d hd
  show Ev L xs d 219 0 [(0, .ref 512), (1, .retAddr tx)] [] (hp s) (hr r)
  unfold q219 at h
  refine Ev.aload_n H219 i219_0 rfl ?_
  refine Rd.cV0uN H219 i219_1 cal217 ob11 (Nat.le_of_ble_eq_true rfl) (Nat.le_of_ble_eq_true rfl) (Nat.lt_of_lt_of_le (by decide) hd) (fun q hq => c217 hq) h (fun s1 h => ?_)
  refine Ev.aload_n H219 i219_4 rfl ?_
  refine Ev.aload_nT H219 i219_5 rfl ?_
  refine Rd.cV1vN H219 i219_6 cal218 ob11 (Nat.le_of_ble_eq_true rfl) (Nat.le_of_ble_eq_true rfl) (Nat.lt_of_lt_of_le (by decide) hd) (fun q hq => c218 mtx hq) h (fun x3 s2 h => ?_)
  refine Rd.if_eq H219 i219_9 (t := 14) (by decide) h (fun hc h => ?_) (fun hc h => ?_)
  · refine Ev.aload_n H219 i219_14 rfl ?_
    refine Ev.aload_n H219 i219_15 rfl ?_
    refine Rd.getI H219 i219_16 ob11 rfl ?_
    refine Rd.putI H219 i219_19 ob11 rfl ty11_10.1 ty11_10.2 h (fun s4 h => ?_)
    refine Ev.iconst H219 i219_22 kI_0 ?_
    exact Rd.ireturnK H219 i219_23 rfl (Or.inl rfl) h
  · refine Ev.iconst H219 i219_12 kI_1 ?_
    exact Rd.ireturnK H219 i219_13 rfl (Or.inr rfl) h
theorem i220_0 : mm_cd 220 0 = some (.aload_n 0, 1, 0, 0) := rfl
theorem i220_1 : mm_cd 220 1 = some (.invokevirtual 99, 3, 0, 216) := rfl
theorem i220_4 : mm_cd 220 4 = some (.aload_n 0, 1, 0, 0) := rfl
theorem i220_5 : mm_cd 220 5 = some (.iload_n 1, 1, 0, 0) := rfl
theorem i220_6 : mm_cd 220 6 = some (.iload_n 1, 1, 0, 0) := rfl
theorem i220_7 : mm_cd 220 7 = some (.invokevirtual 93, 3, 0, 215) := rfl
theorem i220_10 : mm_cd 220 10 = some (.ifCond .ne 5, 3, 0, 0) := rfl
theorem i220_13 : mm_cd 220 13 = some (.iconst 0, 1, 0, 0) := rfl
theorem i220_14 : mm_cd 220 14 = some (.ireturn, 1, 0, 0) := rfl
theorem i220_15 : mm_cd 220 15 = some (.aload_n 0, 1, 0, 0) := rfl
theorem i220_16 : mm_cd 220 16 = some (.dup, 1, 0, 0) := rfl
theorem i220_17 : mm_cd 220 17 = some (.getfield 87, 3, ((11 : Nat) : Int), 10) := rfl
theorem i220_20 : mm_cd 220 20 = some (.iconst 1, 1, 0, 0) := rfl
theorem i220_21 : mm_cd 220 21 = some (.iadd, 1, 0, 0) := rfl
theorem i220_22 : mm_cd 220 22 = some (.putfield 87, 3, ((11 : Nat) : Int), 10) := rfl
theorem i220_25 : mm_cd 220 25 = some (.iconst 1, 1, 0, 0) := rfl
theorem i220_26 : mm_cd 220 26 = some (.ireturn, 1, 0, 0) := rfl
/-- SerialGateModel.sign(I)Z -/
def q220 (v1 : Int32) (s : mS) : Option mQ := bM (q216 s) fun s1 => bN (q215 v1 v1 s1) fun x3 s2 => if ¬ x3 = 0 then (sp (sI s2 512 10 ((s2.1 512 10) + (1 : Int32))) fun s4 => rv (1 : Int32) s4) else (rv (0 : Int32) s2)
theorem c220 {L : Nat} {xs : Nat → Int32} {v1 : Int32} {s : mS} {r : mQ} (h : q220 v1 s = some r) : ∀ d, 2 ≤ d → Cl L xs d 220 [.ref 512, .int v1] (hp s) (hr r) := by
  intro d hd
  show Ev L xs d 220 0 [(0, .ref 512), (1, .int v1)] [] (hp s) (hr r)
  unfold q220 at h
  refine Ev.aload_n H220 i220_0 rfl ?_
  refine Rd.cV0uN H220 i220_1 cal216 ob11 (Nat.le_of_ble_eq_true rfl) (Nat.le_of_ble_eq_true rfl) (Nat.lt_of_lt_of_le (by decide) hd) (fun q hq => c216 hq) h (fun s1 h => ?_)
  refine Ev.aload_n H220 i220_4 rfl ?_
  refine Ev.iload_n H220 i220_5 rfl ?_
  refine Ev.iload_n H220 i220_6 rfl ?_
  refine Rd.cV2vN H220 i220_7 cal215 ob11 (Nat.le_of_ble_eq_true rfl) (Nat.le_of_ble_eq_true rfl) (Nat.lt_of_lt_of_le (by decide) hd) (fun q hq => c215 hq) h (fun x3 s2 h => ?_)
  refine Rd.if_ne H220 i220_10 (t := 15) (by decide) h (fun hc h => ?_) (fun hc h => ?_)
  · refine Ev.aload_n H220 i220_15 rfl ?_
    refine Ev.dup H220 i220_16 rfl ?_
    refine Rd.getI H220 i220_17 ob11 rfl ?_
    refine Ev.iconst H220 i220_20 kI_1 ?_
    refine Ev.iadd H220 i220_21 ?_
    refine Rd.putI H220 i220_22 ob11 rfl ty11_10.1 ty11_10.2 h (fun s4 h => ?_)
    refine Ev.iconst H220 i220_25 kI_1 ?_
    exact Rd.ireturnK H220 i220_26 rfl (Or.inr rfl) h
  · refine Ev.iconst H220 i220_13 kI_0 ?_
    exact Rd.ireturnK H220 i220_14 rfl (Or.inl rfl) h
theorem i221_0 : mm_cd 221 0 = some (.aload_n 0, 1, 0, 0) := rfl
theorem i221_1 : mm_cd 221 1 = some (.invokevirtual 99, 3, 0, 216) := rfl
theorem i221_4 : mm_cd 221 4 = some (.iconst 0, 1, 0, 0) := rfl
theorem i221_5 : mm_cd 221 5 = some (.istore_n 3, 1, 0, 0) := rfl
theorem i221_6 : mm_cd 221 6 = some (.aload_n 0, 1, 0, 0) := rfl
theorem i221_7 : mm_cd 221 7 = some (.bipush 48, 2, 0, 0) := rfl
theorem i221_9 : mm_cd 221 9 = some (.bipush 57, 2, 0, 0) := rfl
theorem i221_11 : mm_cd 221 11 = some (.invokevirtual 93, 3, 0, 215) := rfl
theorem i221_14 : mm_cd 221 14 = some (.ifCond .eq 51, 3, 0, 0) := rfl
theorem i221_17 : mm_cd 221 17 = some (.aload_n 0, 1, 0, 0) := rfl
theorem i221_18 : mm_cd 221 18 = some (.getfield 87, 3, ((11 : Nat) : Int), 10) := rfl
theorem i221_21 : mm_cd 221 21 = some (.aload_n 0, 1, 0, 0) := rfl
theorem i221_22 : mm_cd 221 22 = some (.getfield 96, 3, ((11 : Nat) : Int), 12) := rfl
theorem i221_25 : mm_cd 221 25 = some (.isub, 1, 0, 0) := rfl
theorem i221_26 : mm_cd 221 26 = some (.iconst 3, 1, 0, 0) := rfl
theorem i221_27 : mm_cd 221 27 = some (.if_icmp .ge 23, 3, 0, 0) := rfl
theorem i221_30 : mm_cd 221 30 = some (.bipush 10, 2, 0, 0) := rfl
theorem i221_32 : mm_cd 221 32 = some (.iload_n 3, 1, 0, 0) := rfl
theorem i221_33 : mm_cd 221 33 = some (.imul, 1, 0, 0) := rfl
theorem i221_34 : mm_cd 221 34 = some (.aload_n 0, 1, 0, 0) := rfl
theorem i221_35 : mm_cd 221 35 = some (.getfield 29, 3, ((11 : Nat) : Int), 8) := rfl
theorem i221_38 : mm_cd 221 38 = some (.aload_n 0, 1, 0, 0) := rfl
theorem i221_39 : mm_cd 221 39 = some (.getfield 87, 3, ((11 : Nat) : Int), 10) := rfl
theorem i221_42 : mm_cd 221 42 = some (.baload, 1, 0, 0) := rfl
theorem i221_43 : mm_cd 221 43 = some (.iadd, 1, 0, 0) := rfl
theorem i221_44 : mm_cd 221 44 = some (.bipush 48, 2, 0, 0) := rfl
theorem i221_46 : mm_cd 221 46 = some (.isub, 1, 0, 0) := rfl
theorem i221_47 : mm_cd 221 47 = some (.goto 4, 3, 0, 0) := rfl
theorem i221_50 : mm_cd 221 50 = some (.iload_n 3, 1, 0, 0) := rfl
theorem i221_51 : mm_cd 221 51 = some (.istore_n 3, 1, 0, 0) := rfl
theorem i221_52 : mm_cd 221 52 = some (.aload_n 0, 1, 0, 0) := rfl
theorem i221_53 : mm_cd 221 53 = some (.dup, 1, 0, 0) := rfl
theorem i221_54 : mm_cd 221 54 = some (.getfield 87, 3, ((11 : Nat) : Int), 10) := rfl
theorem i221_57 : mm_cd 221 57 = some (.iconst 1, 1, 0, 0) := rfl
theorem i221_58 : mm_cd 221 58 = some (.iadd, 1, 0, 0) := rfl
theorem i221_59 : mm_cd 221 59 = some (.putfield 87, 3, ((11 : Nat) : Int), 10) := rfl
theorem i221_62 : mm_cd 221 62 = some (.goto (-56), 3, 0, 0) := rfl
theorem i221_65 : mm_cd 221 65 = some (.aload_n 0, 1, 0, 0) := rfl
theorem i221_66 : mm_cd 221 66 = some (.getfield 87, 3, ((11 : Nat) : Int), 10) := rfl
theorem i221_69 : mm_cd 221 69 = some (.aload_n 0, 1, 0, 0) := rfl
theorem i221_70 : mm_cd 221 70 = some (.getfield 96, 3, ((11 : Nat) : Int), 12) := rfl
theorem i221_73 : mm_cd 221 73 = some (.if_icmp .eq 26, 3, 0, 0) := rfl
theorem i221_76 : mm_cd 221 76 = some (.aload_n 0, 1, 0, 0) := rfl
theorem i221_77 : mm_cd 221 77 = some (.getfield 87, 3, ((11 : Nat) : Int), 10) := rfl
theorem i221_80 : mm_cd 221 80 = some (.aload_n 0, 1, 0, 0) := rfl
theorem i221_81 : mm_cd 221 81 = some (.getfield 96, 3, ((11 : Nat) : Int), 12) := rfl
theorem i221_84 : mm_cd 221 84 = some (.isub, 1, 0, 0) := rfl
theorem i221_85 : mm_cd 221 85 = some (.iconst 3, 1, 0, 0) := rfl
theorem i221_86 : mm_cd 221 86 = some (.if_icmp .gt 13, 3, 0, 0) := rfl
theorem i221_89 : mm_cd 221 89 = some (.iload_n 3, 1, 0, 0) := rfl
theorem i221_90 : mm_cd 221 90 = some (.iload_n 1, 1, 0, 0) := rfl
theorem i221_91 : mm_cd 221 91 = some (.if_icmp .lt 8, 3, 0, 0) := rfl
theorem i221_94 : mm_cd 221 94 = some (.iload_n 3, 1, 0, 0) := rfl
theorem i221_95 : mm_cd 221 95 = some (.iload_n 2, 1, 0, 0) := rfl
theorem i221_96 : mm_cd 221 96 = some (.if_icmp .le 7, 3, 0, 0) := rfl
theorem i221_99 : mm_cd 221 99 = some (.iconst (-1), 1, 0, 0) := rfl
theorem i221_100 : mm_cd 221 100 = some (.goto 4, 3, 0, 0) := rfl
theorem i221_103 : mm_cd 221 103 = some (.iload_n 3, 1, 0, 0) := rfl
theorem i221_104 : mm_cd 221 104 = some (.ireturn, 1, 0, 0) := rfl
def q221_51 (k6 : Int32 → Int32 → Int32 → mS → Option mQ) (v1 : Int32) (v2 : Int32) (y0 : Int32) (s : mS) : Option mQ := sp (sI s 512 10 ((s.1 512 10) + (1 : Int32))) fun s1 => k6 v1 v2 y0 s1
theorem t221_51 {L : Nat} {xs : Nat → Int32} {d : Nat} {k6 : Int32 → Int32 → Int32 → mS → Option mQ} (hk6 : ∀ (v1 : Int32) (v2 : Int32) (v3 : Int32) (s : mS) (r : mQ), k6 v1 v2 v3 s = some r → Ev L xs d 221 6 [(0, .ref 512), (1, .int v1), (2, .int v2), (3, .int v3)] [] (hp s) (hr r)) (hd : 2 ≤ d) {v1 : Int32} {v2 : Int32} {y0 : Int32} {s : mS} {r : mQ} (h : q221_51 k6 v1 v2 y0 s = some r) : Ev L xs d 221 51 [(0, .ref 512), (1, .int v1), (2, .int v2)] [.int y0] (hp s) (hr r) := by
  unfold q221_51 at h
  refine Ev.istore_n H221 i221_51 (Nat.le_of_ble_eq_true rfl) (lv2 := [(3, .int y0), (0, .ref 512), (1, .int v1), (2, .int v2)]) rfl ?_
  refine Ev.aload_n H221 i221_52 rfl ?_
  refine Ev.dup H221 i221_53 rfl ?_
  refine Rd.getI H221 i221_54 ob11 rfl ?_
  refine Ev.iconst H221 i221_57 kI_1 ?_
  refine Ev.iadd H221 i221_58 ?_
  refine Rd.putI H221 i221_59 ob11 rfl ty11_10.1 ty11_10.2 h (fun s1 h => ?_)
  refine Ev.goto H221 i221_62 (t := 6) (by decide) ?_
  exact Ev.sub (l := [(0, .ref 512), (1, .int v1), (2, .int v2), (3, .int y0)]) rfl rfl (mm_sub_c rfl (mm_sub_c rfl (mm_sub_c rfl (mm_sub_c rfl mm_sub_n)))) (hk6 _ _ _ _ _ h)
def q221_6 (k65 : Int32 → Int32 → Int32 → mS → Option mQ) : Nat → Int32 → Int32 → Int32 → mS → Option mQ
  | 0, _, _, _, _ => none
  | n + 1, v1, v2, v3, s => bN (q215 (48 : Int32) (57 : Int32) s) fun x3 s2 => if x3 = 0 then (k65 v1 v2 v3 s2) else (if (3 : Int32) ≤ ((s2.1 512 10) - (s2.1 512 12)) then (q221_51 (q221_6 k65 n) v1 v2 v3 s2) else (gA 400 (s2.1 512 10) <| q221_51 (q221_6 k65 n) v1 v2 ((((10 : Int32) * v3) + (s2.1 518 (s2.1 512 10).toNatClampNeg)) - (48 : Int32)) s2))
theorem t221_6 {L : Nat} {xs : Nat → Int32} {d : Nat} {k65 : Int32 → Int32 → Int32 → mS → Option mQ} (hk65 : ∀ (v1 : Int32) (v2 : Int32) (v3 : Int32) (s : mS) (r : mQ), k65 v1 v2 v3 s = some r → Ev L xs d 221 65 [(0, .ref 512), (1, .int v1), (2, .int v2), (3, .int v3)] [] (hp s) (hr r)) (hd : 2 ≤ d) : ∀ (n : Nat) (v1 : Int32) (v2 : Int32) (v3 : Int32) (s : mS) (r : mQ), q221_6 k65 n v1 v2 v3 s = some r → Ev L xs d 221 6 [(0, .ref 512), (1, .int v1), (2, .int v2), (3, .int v3)] [] (hp s) (hr r) := by
  intro n
  induction n with
  | zero => intro v1 v2 v3 s r h; rw [q221_6] at h; cases h
  | succ n ih =>
    intro v1 v2 v3 s r h
    rw [q221_6] at h
    refine Ev.aload_n H221 i221_6 rfl ?_
    refine Ev.bipush H221 i221_7 kB_48 ?_
    refine Ev.bipush H221 i221_9 kB_57 ?_
    refine Rd.cV2vN H221 i221_11 cal215 ob11 (Nat.le_of_ble_eq_true rfl) (Nat.le_of_ble_eq_true rfl) (Nat.lt_of_lt_of_le (by decide) hd) (fun q hq => c215 hq) h (fun x3 s2 h => ?_)
    refine Rd.if_eq H221 i221_14 (t := 65) (by decide) h (fun hc h => ?_) (fun hc h => ?_)
    · exact Ev.sub (l := [(0, .ref 512), (1, .int v1), (2, .int v2), (3, .int v3)]) rfl rfl (mm_sub_c rfl (mm_sub_c rfl (mm_sub_c rfl (mm_sub_c rfl mm_sub_n)))) (hk65 _ _ _ _ _ h)
    · refine Ev.aload_n H221 i221_17 rfl ?_
      refine Rd.getI H221 i221_18 ob11 rfl ?_
      refine Ev.aload_n H221 i221_21 rfl ?_
      refine Rd.getI H221 i221_22 ob11 rfl ?_
      refine Ev.isub H221 i221_25 ?_
      refine Ev.iconst H221 i221_26 kI_3 ?_
      refine Rd.ic_ge H221 i221_27 (t := 50) (by decide) h (fun hc h => ?_) (fun hc h => ?_)
      · refine Ev.iload_n H221 i221_50 rfl ?_
        exact Ev.sub (l := [(0, .ref 512), (1, .int v1), (2, .int v2)]) rfl rfl (mm_sub_c rfl (mm_sub_c rfl (mm_sub_c rfl mm_sub_n))) (t221_51 (k6 := (q221_6 k65 n)) (fun _ _ _ _ _ h => ih _ _ _ _ _ h) hd h)
      · refine Ev.bipush H221 i221_30 kB_10 ?_
        refine Ev.iload_n H221 i221_32 rfl ?_
        refine Ev.imul H221 i221_33 ?_
        refine Ev.aload_n H221 i221_34 rfl ?_
        refine Rd.getR H221 i221_35 ob11 rfl ?_
        refine Ev.aload_n H221 i221_38 rfl ?_
        refine Rd.getI H221 i221_39 ob11 rfl ?_
        refine Rd.baload H221 i221_42 ar_518 h (fun h => ?_)
        refine Ev.iadd H221 i221_43 ?_
        refine Ev.bipush H221 i221_44 kB_48 ?_
        refine Ev.isub H221 i221_46 ?_
        refine Ev.goto H221 i221_47 (t := 51) (by decide) ?_
        exact Ev.sub (l := [(0, .ref 512), (1, .int v1), (2, .int v2)]) rfl rfl (mm_sub_c rfl (mm_sub_c rfl (mm_sub_c rfl mm_sub_n))) (t221_51 (k6 := (q221_6 k65 n)) (fun _ _ _ _ _ h => ih _ _ _ _ _ h) hd h)
def q221_99 (s : mS) : Option mQ := rv (-1 : Int32) s
theorem t221_99 {L : Nat} {xs : Nat → Int32} {d : Nat} (hd : 2 ≤ d) {s : mS} {r : mQ} (h : q221_99 s = some r) : Ev L xs d 221 99 [] [] (hp s) (hr r) := by
  unfold q221_99 at h
  refine Ev.iconst H221 i221_99 kI_m1 ?_
  refine Ev.goto H221 i221_100 (t := 104) (by decide) ?_
  exact Rd.ireturn H221 i221_104 rfl h
def q221_65 (v1 : Int32) (v2 : Int32) (v3 : Int32) (s : mS) : Option mQ := if (s.1 512 10) = (s.1 512 12) then (q221_99 s) else (if (3 : Int32) < ((s.1 512 10) - (s.1 512 12)) then (q221_99 s) else (if v3 < v1 then (q221_99 s) else (if v3 ≤ v2 then (rv v3 s) else (q221_99 s))))
theorem t221_65 {L : Nat} {xs : Nat → Int32} {d : Nat} (hd : 2 ≤ d) {v1 : Int32} {v2 : Int32} {v3 : Int32} {s : mS} {r : mQ} (h : q221_65 v1 v2 v3 s = some r) : Ev L xs d 221 65 [(0, .ref 512), (1, .int v1), (2, .int v2), (3, .int v3)] [] (hp s) (hr r) := by
  unfold q221_65 at h
  refine Ev.aload_n H221 i221_65 rfl ?_
  refine Rd.getI H221 i221_66 ob11 rfl ?_
  refine Ev.aload_n H221 i221_69 rfl ?_
  refine Rd.getI H221 i221_70 ob11 rfl ?_
  refine Rd.ic_eq H221 i221_73 (t := 99) (by decide) h (fun hc h => ?_) (fun hc h => ?_)
  · exact Ev.sub (l := []) rfl rfl mm_sub_n (t221_99 hd h)
  · refine Ev.aload_n H221 i221_76 rfl ?_
    refine Rd.getI H221 i221_77 ob11 rfl ?_
    refine Ev.aload_n H221 i221_80 rfl ?_
    refine Rd.getI H221 i221_81 ob11 rfl ?_
    refine Ev.isub H221 i221_84 ?_
    refine Ev.iconst H221 i221_85 kI_3 ?_
    refine Rd.ic_gt H221 i221_86 (t := 99) (by decide) h (fun hc h => ?_) (fun hc h => ?_)
    · exact Ev.sub (l := []) rfl rfl mm_sub_n (t221_99 hd h)
    · refine Ev.iload_n H221 i221_89 rfl ?_
      refine Ev.iload_n H221 i221_90 rfl ?_
      refine Rd.ic_lt H221 i221_91 (t := 99) (by decide) h (fun hc h => ?_) (fun hc h => ?_)
      · exact Ev.sub (l := []) rfl rfl mm_sub_n (t221_99 hd h)
      · refine Ev.iload_n H221 i221_94 rfl ?_
        refine Ev.iload_n H221 i221_95 rfl ?_
        refine Rd.ic_le H221 i221_96 (t := 103) (by decide) h (fun hc h => ?_) (fun hc h => ?_)
        · refine Ev.iload_n H221 i221_103 rfl ?_
          exact Rd.ireturn H221 i221_104 rfl h
        · exact Ev.sub (l := []) rfl rfl mm_sub_n (t221_99 hd h)
/-- SerialGateModel.number(II)I -/
def q221 (v1 : Int32) (v2 : Int32) (s : mS) : Option mQ := bM (q216 s) fun s4 => q221_6 (q221_65) 10000 v1 v2 (0 : Int32) s4
theorem c221 {L : Nat} {xs : Nat → Int32} {v1 : Int32} {v2 : Int32} {s : mS} {r : mQ} (h : q221 v1 v2 s = some r) : ∀ d, 2 ≤ d → Cl L xs d 221 [.ref 512, .int v1, .int v2] (hp s) (hr r) := by
  intro d hd
  show Ev L xs d 221 0 [(0, .ref 512), (1, .int v1), (2, .int v2)] [] (hp s) (hr r)
  unfold q221 at h
  refine Ev.aload_n H221 i221_0 rfl ?_
  refine Rd.cV0uN H221 i221_1 cal216 ob11 (Nat.le_of_ble_eq_true rfl) (Nat.le_of_ble_eq_true rfl) (Nat.lt_of_lt_of_le (by decide) hd) (fun q hq => c216 hq) h (fun s4 h => ?_)
  refine Ev.iconst H221 i221_4 kI_0 ?_
  refine Ev.istore_n H221 i221_5 (Nat.le_of_ble_eq_true rfl) (lv2 := [(3, .int (0 : Int32)), (0, .ref 512), (1, .int v1), (2, .int v2)]) rfl ?_
  exact Ev.sub (l := [(0, .ref 512), (1, .int v1), (2, .int v2), (3, .int (0 : Int32))]) rfl rfl (mm_sub_c rfl (mm_sub_c rfl (mm_sub_c rfl (mm_sub_c rfl mm_sub_n)))) (t221_6 (k65 := (q221_65)) (fun _ _ _ _ _ h => t221_65 hd h) hd 10000 _ _ _ _ _ h)
theorem i222_0 : mm_cd 222 0 = some (.aload_n 0, 1, 0, 0) := rfl
theorem i222_1 : mm_cd 222 1 = some (.invokevirtual 99, 3, 0, 216) := rfl
theorem i222_4 : mm_cd 222 4 = some (.aload_n 0, 1, 0, 0) := rfl
theorem i222_5 : mm_cd 222 5 = some (.bipush 48, 2, 0, 0) := rfl
theorem i222_7 : mm_cd 222 7 = some (.bipush 57, 2, 0, 0) := rfl
theorem i222_9 : mm_cd 222 9 = some (.invokevirtual 93, 3, 0, 215) := rfl
theorem i222_12 : mm_cd 222 12 = some (.ireturn, 1, 0, 0) := rfl
/-- SerialGateModel.isNumberNext()Z -/
def q222 (s : mS) : Option mQ := bM (q216 s) fun s1 => bN (q215 (48 : Int32) (57 : Int32) s1) fun x3 s2 => gB x3 <| rv x3 s2
theorem c222 {L : Nat} {xs : Nat → Int32} {s : mS} {r : mQ} (h : q222 s = some r) : ∀ d, 2 ≤ d → Cl L xs d 222 [.ref 512] (hp s) (hr r) := by
  intro d hd
  show Ev L xs d 222 0 [(0, .ref 512)] [] (hp s) (hr r)
  unfold q222 at h
  refine Ev.aload_n H222 i222_0 rfl ?_
  refine Rd.cV0uN H222 i222_1 cal216 ob11 (Nat.le_of_ble_eq_true rfl) (Nat.le_of_ble_eq_true rfl) (Nat.lt_of_lt_of_le (by decide) hd) (fun q hq => c216 hq) h (fun s1 h => ?_)
  refine Ev.aload_n H222 i222_4 rfl ?_
  refine Ev.bipush H222 i222_5 kB_48 ?_
  refine Ev.bipush H222 i222_7 kB_57 ?_
  refine Rd.cV2vN H222 i222_9 cal215 ob11 (Nat.le_of_ble_eq_true rfl) (Nat.le_of_ble_eq_true rfl) (Nat.lt_of_lt_of_le (by decide) hd) (fun q hq => c215 hq) h (fun x3 s2 h => ?_)
  exact Rd.ireturnZ H222 i222_12 rfl h
theorem i223_0 : mm_cd 223 0 = some (.aload_n 0, 1, 0, 0) := rfl
theorem i223_1 : mm_cd 223 1 = some (.iconst 0, 1, 0, 0) := rfl
theorem i223_2 : mm_cd 223 2 = some (.putfield 3, 3, ((11 : Nat) : Int), 0) := rfl
theorem i223_5 : mm_cd 223 5 = some (.aload_n 0, 1, 0, 0) := rfl
theorem i223_6 : mm_cd 223 6 = some (.getfield 33, 3, ((11 : Nat) : Int), 14) := rfl
theorem i223_9 : mm_cd 223 9 = some (.ireturn, 1, 0, 0) := rfl
/-- SerialGateModel.fault()I -/
def q223 (s : mS) : Option mQ := sp (sI s 512 0 (0 : Int32)) fun s1 => rv (s1.1 512 14) s1
theorem c223 {L : Nat} {xs : Nat → Int32} {s : mS} {r : mQ} (h : q223 s = some r) : ∀ d, 0 ≤ d → Cl L xs d 223 [.ref 512] (hp s) (hr r) := by
  intro d hd
  show Ev L xs d 223 0 [(0, .ref 512)] [] (hp s) (hr r)
  unfold q223 at h
  refine Ev.aload_n H223 i223_0 rfl ?_
  refine Ev.iconst H223 i223_1 kI_0 ?_
  refine Rd.putI H223 i223_2 ob11 rfl ty11_0.1 ty11_0.2 h (fun s1 h => ?_)
  refine Ev.aload_n H223 i223_5 rfl ?_
  refine Rd.getI H223 i223_6 ob11 rfl ?_
  exact Rd.ireturn H223 i223_9 rfl h
theorem i224_0 : mm_cd 224 0 = some (.aload_n 0, 1, 0, 0) := rfl
theorem i224_1 : mm_cd 224 1 = some (.iconst 0, 1, 0, 0) := rfl
theorem i224_2 : mm_cd 224 2 = some (.putfield 3, 3, ((11 : Nat) : Int), 0) := rfl
theorem i224_5 : mm_cd 224 5 = some (.aload_n 0, 1, 0, 0) := rfl
theorem i224_6 : mm_cd 224 6 = some (.aload_n 0, 1, 0, 0) := rfl
theorem i224_7 : mm_cd 224 7 = some (.getfield 84, 3, ((11 : Nat) : Int), 9) := rfl
theorem i224_10 : mm_cd 224 10 = some (.putfield 90, 3, ((11 : Nat) : Int), 11) := rfl
theorem i224_13 : mm_cd 224 13 = some (.aload_n 0, 1, 0, 0) := rfl
theorem i224_14 : mm_cd 224 14 = some (.iconst 0, 1, 0, 0) := rfl
theorem i224_15 : mm_cd 224 15 = some (.putfield 84, 3, ((11 : Nat) : Int), 9) := rfl
theorem i224_18 : mm_cd 224 18 = some (.aload_n 0, 1, 0, 0) := rfl
theorem i224_19 : mm_cd 224 19 = some (.iconst 0, 1, 0, 0) := rfl
theorem i224_20 : mm_cd 224 20 = some (.putfield 87, 3, ((11 : Nat) : Int), 10) := rfl
theorem i224_23 : mm_cd 224 23 = some (.return_, 1, 0, 0) := rfl
/-- SerialGateModel.uses()V -/
def q224 (s : mS) : Option mQ := sp (sI s 512 0 (0 : Int32)) fun s1 => sp (sI s1 512 11 (s1.1 512 9)) fun s2 => sp (sI s2 512 9 (0 : Int32)) fun s3 => sp (sI s3 512 10 (0 : Int32)) fun s4 => ru s4
theorem c224 {L : Nat} {xs : Nat → Int32} {s : mS} {r : mQ} (h : q224 s = some r) : ∀ d, 0 ≤ d → Cl L xs d 224 [.ref 512] (hp s) (hr r) := by
  intro d hd
  show Ev L xs d 224 0 [(0, .ref 512)] [] (hp s) (hr r)
  unfold q224 at h
  refine Ev.aload_n H224 i224_0 rfl ?_
  refine Ev.iconst H224 i224_1 kI_0 ?_
  refine Rd.putI H224 i224_2 ob11 rfl ty11_0.1 ty11_0.2 h (fun s1 h => ?_)
  refine Ev.aload_n H224 i224_5 rfl ?_
  refine Ev.aload_n H224 i224_6 rfl ?_
  refine Rd.getI H224 i224_7 ob11 rfl ?_
  refine Rd.putI H224 i224_10 ob11 rfl ty11_11.1 ty11_11.2 h (fun s2 h => ?_)
  refine Ev.aload_n H224 i224_13 rfl ?_
  refine Ev.iconst H224 i224_14 kI_0 ?_
  refine Rd.putI H224 i224_15 ob11 rfl ty11_9.1 ty11_9.2 h (fun s3 h => ?_)
  refine Ev.aload_n H224 i224_18 rfl ?_
  refine Ev.iconst H224 i224_19 kI_0 ?_
  refine Rd.putI H224 i224_20 ob11 rfl ty11_10.1 ty11_10.2 h (fun s4 h => ?_)
  exact Rd.return_ H224 i224_23 rfl h
theorem i225_0 : mm_cd 225 0 = some (.aload_n 0, 1, 0, 0) := rfl
theorem i225_1 : mm_cd 225 1 = some (.iload_n 2, 1, 0, 0) := rfl
theorem i225_2 : mm_cd 225 2 = some (.iload_n 3, 1, 0, 0) := rfl
theorem i225_3 : mm_cd 225 3 = some (.invokevirtual 119, 3, 0, 221) := rfl
theorem i225_6 : mm_cd 225 6 = some (.istore 4, 2, 0, 0) := rfl
theorem i225_8 : mm_cd 225 8 = some (.aload_n 0, 1, 0, 0) := rfl
theorem i225_9 : mm_cd 225 9 = some (.getfield 13, 3, ((11 : Nat) : Int), 1) := rfl
theorem i225_12 : mm_cd 225 12 = some (.iload_n 1, 1, 0, 0) := rfl
theorem i225_13 : mm_cd 225 13 = some (.iload 4, 2, 0, 0) := rfl
theorem i225_15 : mm_cd 225 15 = some (.ifCond .ge 12, 3, 0, 0) := rfl
theorem i225_18 : mm_cd 225 18 = some (.aload_n 0, 1, 0, 0) := rfl
theorem i225_19 : mm_cd 225 19 = some (.getfield 13, 3, ((11 : Nat) : Int), 1) := rfl
theorem i225_22 : mm_cd 225 22 = some (.iload_n 1, 1, 0, 0) := rfl
theorem i225_23 : mm_cd 225 23 = some (.iaload, 1, 0, 0) := rfl
theorem i225_24 : mm_cd 225 24 = some (.goto 5, 3, 0, 0) := rfl
theorem i225_27 : mm_cd 225 27 = some (.iload 4, 2, 0, 0) := rfl
theorem i225_29 : mm_cd 225 29 = some (.iastore, 1, 0, 0) := rfl
theorem i225_30 : mm_cd 225 30 = some (.iload 4, 2, 0, 0) := rfl
theorem i225_32 : mm_cd 225 32 = some (.ifCond .lt 7, 3, 0, 0) := rfl
theorem i225_35 : mm_cd 225 35 = some (.iconst 1, 1, 0, 0) := rfl
theorem i225_36 : mm_cd 225 36 = some (.goto 4, 3, 0, 0) := rfl
theorem i225_39 : mm_cd 225 39 = some (.iconst 0, 1, 0, 0) := rfl
theorem i225_40 : mm_cd 225 40 = some (.ireturn, 1, 0, 0) := rfl
def q225_29 (v4 : Int32) (y1 : Int32) (y2 : Int32) (s : mS) : Option mQ := gA 2468 y1 <| sp (sI s 513 y1.toNatClampNeg y2) fun s1 => if v4 < 0 then (rv (0 : Int32) s1) else (rv (1 : Int32) s1)
theorem t225_29 {L : Nat} {xs : Nat → Int32} {d : Nat} (hd : 3 ≤ d) {v4 : Int32} {y1 : Int32} {y2 : Int32} {s : mS} {r : mQ} (h : q225_29 v4 y1 y2 s = some r) : Ev L xs d 225 29 [(4, .int v4)] [.int y2, .int y1, .ref 513] (hp s) (hr r) := by
  unfold q225_29 at h
  refine Rd.iastore H225 i225_29 ar_513 h (fun s1 h => ?_)
  refine Ev.iload H225 i225_30 rfl ?_
  refine Rd.if_lt H225 i225_32 (t := 39) (by decide) h (fun hc h => ?_) (fun hc h => ?_)
  · refine Ev.iconst H225 i225_39 kI_0 ?_
    exact Rd.ireturnK H225 i225_40 rfl (Or.inl rfl) h
  · refine Ev.iconst H225 i225_35 kI_1 ?_
    refine Ev.goto H225 i225_36 (t := 40) (by decide) ?_
    exact Rd.ireturnK H225 i225_40 rfl (Or.inr rfl) h
/-- SerialGateModel.readNumber(III)Z -/
def q225 (v1 : Int32) (v2 : Int32) (v3 : Int32) (s : mS) : Option mQ := bN (q221 v2 v3 s) fun x3 s2 => if 0 ≤ x3 then (q225_29 x3 v1 x3 s2) else (gA 2468 v1 <| q225_29 x3 v1 (s2.1 513 v1.toNatClampNeg) s2)
theorem c225 {L : Nat} {xs : Nat → Int32} {v1 : Int32} {v2 : Int32} {v3 : Int32} {s : mS} {r : mQ} (h : q225 v1 v2 v3 s = some r) : ∀ d, 3 ≤ d → Cl L xs d 225 [.ref 512, .int v1, .int v2, .int v3] (hp s) (hr r) := by
  intro d hd
  show Ev L xs d 225 0 [(0, .ref 512), (1, .int v1), (2, .int v2), (3, .int v3)] [] (hp s) (hr r)
  unfold q225 at h
  refine Ev.aload_n H225 i225_0 rfl ?_
  refine Ev.iload_n H225 i225_1 rfl ?_
  refine Ev.iload_n H225 i225_2 rfl ?_
  refine Rd.cV2vN H225 i225_3 cal221 ob11 (Nat.le_of_ble_eq_true rfl) (Nat.le_of_ble_eq_true rfl) (Nat.lt_of_lt_of_le (by decide) hd) (fun q hq => c221 hq) h (fun x3 s2 h => ?_)
  refine Ev.istore H225 i225_6 (Nat.le_of_ble_eq_true rfl) (lv2 := [(4, .int x3), (0, .ref 512), (1, .int v1), (2, .int v2), (3, .int v3)]) rfl ?_
  refine Ev.aload_n H225 i225_8 rfl ?_
  refine Rd.getR H225 i225_9 ob11 rfl ?_
  refine Ev.iload_n H225 i225_12 rfl ?_
  refine Ev.iload H225 i225_13 rfl ?_
  refine Rd.if_ge H225 i225_15 (t := 27) (by decide) h (fun hc h => ?_) (fun hc h => ?_)
  · refine Ev.iload H225 i225_27 rfl ?_
    exact Ev.sub (l := [(4, .int x3)]) rfl rfl (mm_sub_c rfl mm_sub_n) (t225_29 hd h)
  · refine Ev.aload_n H225 i225_18 rfl ?_
    refine Rd.getR H225 i225_19 ob11 rfl ?_
    refine Ev.iload_n H225 i225_22 rfl ?_
    refine Rd.iaload H225 i225_23 ar_513 h (fun h => ?_)
    refine Ev.goto H225 i225_24 (t := 29) (by decide) ?_
    exact Ev.sub (l := [(4, .int x3)]) rfl rfl (mm_sub_c rfl mm_sub_n) (t225_29 hd h)
theorem i226_0 : mm_cd 226 0 = some (.aload_n 0, 1, 0, 0) := rfl
theorem i226_1 : mm_cd 226 1 = some (.aload_n 1, 1, 0, 0) := rfl
theorem i226_2 : mm_cd 226 2 = some (.invokevirtual 122, 3, 0, 219) := rfl
theorem i226_5 : mm_cd 226 5 = some (.ifCond .ne 5, 3, 0, 0) := rfl
theorem i226_8 : mm_cd 226 8 = some (.iconst 0, 1, 0, 0) := rfl
theorem i226_9 : mm_cd 226 9 = some (.ireturn, 1, 0, 0) := rfl
theorem i226_10 : mm_cd 226 10 = some (.iconst 0, 1, 0, 0) := rfl
theorem i226_11 : mm_cd 226 11 = some (.istore_n 2, 1, 0, 0) := rfl
theorem i226_12 : mm_cd 226 12 = some (.iconst 0, 1, 0, 0) := rfl
theorem i226_13 : mm_cd 226 13 = some (.istore_n 3, 1, 0, 0) := rfl
theorem i226_14 : mm_cd 226 14 = some (.iconst 1, 1, 0, 0) := rfl
theorem i226_15 : mm_cd 226 15 = some (.istore 4, 2, 0, 0) := rfl
theorem i226_17 : mm_cd 226 17 = some (.iconst 1, 1, 0, 0) := rfl
theorem i226_18 : mm_cd 226 18 = some (.istore 5, 2, 0, 0) := rfl
theorem i226_20 : mm_cd 226 20 = some (.iload 5, 2, 0, 0) := rfl
theorem i226_22 : mm_cd 226 22 = some (.ifCond .eq 71, 3, 0, 0) := rfl
theorem i226_25 : mm_cd 226 25 = some (.aload_n 0, 1, 0, 0) := rfl
theorem i226_26 : mm_cd 226 26 = some (.iconst 0, 1, 0, 0) := rfl
theorem i226_27 : mm_cd 226 27 = some (.bipush 9, 2, 0, 0) := rfl
theorem i226_29 : mm_cd 226 29 = some (.invokevirtual 119, 3, 0, 221) := rfl
theorem i226_32 : mm_cd 226 32 = some (.istore 6, 2, 0, 0) := rfl
theorem i226_34 : mm_cd 226 34 = some (.iload 6, 2, 0, 0) := rfl
theorem i226_36 : mm_cd 226 36 = some (.ifCond .lt 13, 3, 0, 0) := rfl
theorem i226_39 : mm_cd 226 39 = some (.iload_n 3, 1, 0, 0) := rfl
theorem i226_40 : mm_cd 226 40 = some (.bipush 10, 2, 0, 0) := rfl
theorem i226_42 : mm_cd 226 42 = some (.if_icmp .ge 7, 3, 0, 0) := rfl
theorem i226_45 : mm_cd 226 45 = some (.iconst 1, 1, 0, 0) := rfl
theorem i226_46 : mm_cd 226 46 = some (.goto 4, 3, 0, 0) := rfl
theorem i226_49 : mm_cd 226 49 = some (.iconst 0, 1, 0, 0) := rfl
theorem i226_50 : mm_cd 226 50 = some (.istore 4, 2, 0, 0) := rfl
theorem i226_52 : mm_cd 226 52 = some (.iload_n 2, 1, 0, 0) := rfl
theorem i226_53 : mm_cd 226 53 = some (.iload 4, 2, 0, 0) := rfl
theorem i226_55 : mm_cd 226 55 = some (.ifCond .eq 10, 3, 0, 0) := rfl
theorem i226_58 : mm_cd 226 58 = some (.iconst 1, 1, 0, 0) := rfl
theorem i226_59 : mm_cd 226 59 = some (.iload 6, 2, 0, 0) := rfl
theorem i226_61 : mm_cd 226 61 = some (.ishl, 1, 0, 0) := rfl
theorem i226_62 : mm_cd 226 62 = some (.goto 4, 3, 0, 0) := rfl
theorem i226_65 : mm_cd 226 65 = some (.iconst 0, 1, 0, 0) := rfl
theorem i226_66 : mm_cd 226 66 = some (.ior, 1, 0, 0) := rfl
theorem i226_67 : mm_cd 226 67 = some (.istore_n 2, 1, 0, 0) := rfl
theorem i226_68 : mm_cd 226 68 = some (.iinc 3 1, 3, 0, 0) := rfl
theorem i226_71 : mm_cd 226 71 = some (.iload 4, 2, 0, 0) := rfl
theorem i226_73 : mm_cd 226 73 = some (.ifCond .eq 14, 3, 0, 0) := rfl
theorem i226_76 : mm_cd 226 76 = some (.aload_n 0, 1, 0, 0) := rfl
theorem i226_77 : mm_cd 226 77 = some (.invokevirtual 125, 3, 0, 222) := rfl
theorem i226_80 : mm_cd 226 80 = some (.ifCond .eq 7, 3, 0, 0) := rfl
theorem i226_83 : mm_cd 226 83 = some (.iconst 1, 1, 0, 0) := rfl
theorem i226_84 : mm_cd 226 84 = some (.goto 4, 3, 0, 0) := rfl
theorem i226_87 : mm_cd 226 87 = some (.iconst 0, 1, 0, 0) := rfl
theorem i226_88 : mm_cd 226 88 = some (.istore 5, 2, 0, 0) := rfl
theorem i226_90 : mm_cd 226 90 = some (.goto (-70), 3, 0, 0) := rfl
theorem i226_93 : mm_cd 226 93 = some (.iload 4, 2, 0, 0) := rfl
theorem i226_95 : mm_cd 226 95 = some (.ifCond .eq 7, 3, 0, 0) := rfl
theorem i226_98 : mm_cd 226 98 = some (.iload_n 2, 1, 0, 0) := rfl
theorem i226_99 : mm_cd 226 99 = some (.goto 4, 3, 0, 0) := rfl
theorem i226_102 : mm_cd 226 102 = some (.iconst (-1), 1, 0, 0) := rfl
theorem i226_103 : mm_cd 226 103 = some (.ireturn, 1, 0, 0) := rfl
def q226_88 (k20 : Int32 → Int32 → Int32 → Int32 → mS → Option mQ) (tx : Nat) (v2 : Int32) (v3 : Int32) (v4 : Int32) (y0 : Int32) (s : mS) : Option mQ := k20 v2 v3 v4 y0 s
theorem t226_88 {L : Nat} {xs : Nat → Int32} {d : Nat} {k20 : Int32 → Int32 → Int32 → Int32 → mS → Option mQ} {tx : Nat} (hk20 : ∀ (v2 : Int32) (v3 : Int32) (v4 : Int32) (v5 : Int32) (s : mS) (r : mQ), k20 v2 v3 v4 v5 s = some r → Ev L xs d 226 20 [(0, .ref 512), (2, .int v2), (3, .int v3), (4, .int v4), (5, .int v5)] [] (hp s) (hr r)) (mtx : tx < 36) (hd : 4 ≤ d) {v2 : Int32} {v3 : Int32} {v4 : Int32} {y0 : Int32} {s : mS} {r : mQ} (h : q226_88 k20 tx v2 v3 v4 y0 s = some r) : Ev L xs d 226 88 [(0, .ref 512), (2, .int v2), (3, .int v3), (4, .int v4)] [.int y0] (hp s) (hr r) := by
  unfold q226_88 at h
  refine Ev.istore H226 i226_88 (Nat.le_of_ble_eq_true rfl) (lv2 := [(5, .int y0), (0, .ref 512), (2, .int v2), (3, .int v3), (4, .int v4)]) rfl ?_
  refine Ev.goto H226 i226_90 (t := 20) (by decide) ?_
  exact Ev.sub (l := [(0, .ref 512), (2, .int v2), (3, .int v3), (4, .int v4), (5, .int y0)]) rfl rfl (mm_sub_c rfl (mm_sub_c rfl (mm_sub_c rfl (mm_sub_c rfl (mm_sub_c rfl mm_sub_n))))) (hk20 _ _ _ _ _ _ h)
def q226_87 (k20 : Int32 → Int32 → Int32 → Int32 → mS → Option mQ) (tx : Nat) (v2 : Int32) (v3 : Int32) (v4 : Int32) (s : mS) : Option mQ := q226_88 k20 tx v2 v3 v4 (0 : Int32) s
theorem t226_87 {L : Nat} {xs : Nat → Int32} {d : Nat} {k20 : Int32 → Int32 → Int32 → Int32 → mS → Option mQ} {tx : Nat} (hk20 : ∀ (v2 : Int32) (v3 : Int32) (v4 : Int32) (v5 : Int32) (s : mS) (r : mQ), k20 v2 v3 v4 v5 s = some r → Ev L xs d 226 20 [(0, .ref 512), (2, .int v2), (3, .int v3), (4, .int v4), (5, .int v5)] [] (hp s) (hr r)) (mtx : tx < 36) (hd : 4 ≤ d) {v2 : Int32} {v3 : Int32} {v4 : Int32} {s : mS} {r : mQ} (h : q226_87 k20 tx v2 v3 v4 s = some r) : Ev L xs d 226 87 [(0, .ref 512), (2, .int v2), (3, .int v3), (4, .int v4)] [] (hp s) (hr r) := by
  unfold q226_87 at h
  refine Ev.iconst H226 i226_87 kI_0 ?_
  exact Ev.sub (l := [(0, .ref 512), (2, .int v2), (3, .int v3), (4, .int v4)]) rfl rfl (mm_sub_c rfl (mm_sub_c rfl (mm_sub_c rfl (mm_sub_c rfl mm_sub_n)))) (t226_88 (k20 := k20) hk20 mtx hd h)
def q226_66 (k20 : Int32 → Int32 → Int32 → Int32 → mS → Option mQ) (tx : Nat) (v3 : Int32) (v4 : Int32) (y0 : Int32) (y1 : Int32) (s : mS) : Option mQ := bx (y0 ||| y1) fun x1 => bx (v3 + (1 : Int32)) fun x2 => if v4 = 0 then (q226_87 k20 tx x1 x2 v4 s) else (bN (q222 s) fun x4 s3 => if x4 = 0 then (q226_87 k20 tx x1 x2 v4 s3) else (q226_88 k20 tx x1 x2 v4 (1 : Int32) s3))
theorem t226_66 {L : Nat} {xs : Nat → Int32} {d : Nat} {k20 : Int32 → Int32 → Int32 → Int32 → mS → Option mQ} {tx : Nat} (hk20 : ∀ (v2 : Int32) (v3 : Int32) (v4 : Int32) (v5 : Int32) (s : mS) (r : mQ), k20 v2 v3 v4 v5 s = some r → Ev L xs d 226 20 [(0, .ref 512), (2, .int v2), (3, .int v3), (4, .int v4), (5, .int v5)] [] (hp s) (hr r)) (mtx : tx < 36) (hd : 4 ≤ d) {v3 : Int32} {v4 : Int32} {y0 : Int32} {y1 : Int32} {s : mS} {r : mQ} (h : q226_66 k20 tx v3 v4 y0 y1 s = some r) : Ev L xs d 226 66 [(0, .ref 512), (3, .int v3), (4, .int v4)] [.int y1, .int y0] (hp s) (hr r) := by
  unfold q226_66 at h
  refine Ev.ior H226 i226_66 ?_
  refine Rd.istore_n H226 i226_67 (Nat.le_of_ble_eq_true rfl) (lv2 := fun x1 => [(2, .int x1), (0, .ref 512), (3, .int v3), (4, .int v4)]) (fun _ => rfl) h (fun x1 h => ?_)
  refine Rd.iinc H226 i226_68 (Nat.le_of_ble_eq_true rfl) rfl kI_1 (lv2 := fun x2 => [(3, .int x2), (2, .int x1), (0, .ref 512), (4, .int v4)]) (fun _ => rfl) h (fun x2 h => ?_)
  refine Ev.iload H226 i226_71 rfl ?_
  refine Rd.if_eq H226 i226_73 (t := 87) (by decide) h (fun hc h => ?_) (fun hc h => ?_)
  · exact Ev.sub (l := [(0, .ref 512), (2, .int x1), (3, .int x2), (4, .int v4)]) rfl rfl (mm_sub_c rfl (mm_sub_c rfl (mm_sub_c rfl (mm_sub_c rfl mm_sub_n)))) (t226_87 (k20 := k20) hk20 mtx hd h)
  · refine Ev.aload_n H226 i226_76 rfl ?_
    refine Rd.cV0vN H226 i226_77 cal222 ob11 (Nat.le_of_ble_eq_true rfl) (Nat.le_of_ble_eq_true rfl) (Nat.lt_of_lt_of_le (by decide) hd) (fun q hq => c222 hq) h (fun x4 s3 h => ?_)
    refine Rd.if_eq H226 i226_80 (t := 87) (by decide) h (fun hc h => ?_) (fun hc h => ?_)
    · exact Ev.sub (l := [(0, .ref 512), (2, .int x1), (3, .int x2), (4, .int v4)]) rfl rfl (mm_sub_c rfl (mm_sub_c rfl (mm_sub_c rfl (mm_sub_c rfl mm_sub_n)))) (t226_87 (k20 := k20) hk20 mtx hd h)
    · refine Ev.iconst H226 i226_83 kI_1 ?_
      refine Ev.goto H226 i226_84 (t := 88) (by decide) ?_
      exact Ev.sub (l := [(0, .ref 512), (2, .int x1), (3, .int x2), (4, .int v4)]) rfl rfl (mm_sub_c rfl (mm_sub_c rfl (mm_sub_c rfl (mm_sub_c rfl mm_sub_n)))) (t226_88 (k20 := k20) hk20 mtx hd h)
def q226_50 (k20 : Int32 → Int32 → Int32 → Int32 → mS → Option mQ) (tx : Nat) (v2 : Int32) (v3 : Int32) (v6 : Int32) (y0 : Int32) (s : mS) : Option mQ := if y0 = 0 then (q226_66 k20 tx v3 y0 v2 (0 : Int32) s) else (q226_66 k20 tx v3 y0 v2 (shlI (1 : Int32) v6) s)
theorem t226_50 {L : Nat} {xs : Nat → Int32} {d : Nat} {k20 : Int32 → Int32 → Int32 → Int32 → mS → Option mQ} {tx : Nat} (hk20 : ∀ (v2 : Int32) (v3 : Int32) (v4 : Int32) (v5 : Int32) (s : mS) (r : mQ), k20 v2 v3 v4 v5 s = some r → Ev L xs d 226 20 [(0, .ref 512), (2, .int v2), (3, .int v3), (4, .int v4), (5, .int v5)] [] (hp s) (hr r)) (mtx : tx < 36) (hd : 4 ≤ d) {v2 : Int32} {v3 : Int32} {v6 : Int32} {y0 : Int32} {s : mS} {r : mQ} (h : q226_50 k20 tx v2 v3 v6 y0 s = some r) : Ev L xs d 226 50 [(0, .ref 512), (2, .int v2), (3, .int v3), (6, .int v6)] [.int y0] (hp s) (hr r) := by
  unfold q226_50 at h
  refine Ev.istore H226 i226_50 (Nat.le_of_ble_eq_true rfl) (lv2 := [(4, .int y0), (0, .ref 512), (2, .int v2), (3, .int v3), (6, .int v6)]) rfl ?_
  refine Ev.iload_n H226 i226_52 rfl ?_
  refine Ev.iload H226 i226_53 rfl ?_
  refine Rd.if_eq H226 i226_55 (t := 65) (by decide) h (fun hc h => ?_) (fun hc h => ?_)
  · refine Ev.iconst H226 i226_65 kI_0 ?_
    exact Ev.sub (l := [(0, .ref 512), (3, .int v3), (4, .int y0)]) rfl rfl (mm_sub_c rfl (mm_sub_c rfl (mm_sub_c rfl mm_sub_n))) (t226_66 (k20 := k20) hk20 mtx hd h)
  · refine Ev.iconst H226 i226_58 kI_1 ?_
    refine Ev.iload H226 i226_59 rfl ?_
    refine Rd.ishl H226 i226_61 ?_
    refine Ev.goto H226 i226_62 (t := 66) (by decide) ?_
    exact Ev.sub (l := [(0, .ref 512), (3, .int v3), (4, .int y0)]) rfl rfl (mm_sub_c rfl (mm_sub_c rfl (mm_sub_c rfl mm_sub_n))) (t226_66 (k20 := k20) hk20 mtx hd h)
def q226_49 (k20 : Int32 → Int32 → Int32 → Int32 → mS → Option mQ) (tx : Nat) (v2 : Int32) (v3 : Int32) (v6 : Int32) (s : mS) : Option mQ := q226_50 k20 tx v2 v3 v6 (0 : Int32) s
theorem t226_49 {L : Nat} {xs : Nat → Int32} {d : Nat} {k20 : Int32 → Int32 → Int32 → Int32 → mS → Option mQ} {tx : Nat} (hk20 : ∀ (v2 : Int32) (v3 : Int32) (v4 : Int32) (v5 : Int32) (s : mS) (r : mQ), k20 v2 v3 v4 v5 s = some r → Ev L xs d 226 20 [(0, .ref 512), (2, .int v2), (3, .int v3), (4, .int v4), (5, .int v5)] [] (hp s) (hr r)) (mtx : tx < 36) (hd : 4 ≤ d) {v2 : Int32} {v3 : Int32} {v6 : Int32} {s : mS} {r : mQ} (h : q226_49 k20 tx v2 v3 v6 s = some r) : Ev L xs d 226 49 [(0, .ref 512), (2, .int v2), (3, .int v3), (6, .int v6)] [] (hp s) (hr r) := by
  unfold q226_49 at h
  refine Ev.iconst H226 i226_49 kI_0 ?_
  exact Ev.sub (l := [(0, .ref 512), (2, .int v2), (3, .int v3), (6, .int v6)]) rfl rfl (mm_sub_c rfl (mm_sub_c rfl (mm_sub_c rfl (mm_sub_c rfl mm_sub_n)))) (t226_50 (k20 := k20) hk20 mtx hd h)
def q226_20 (k93 : Int32 → Int32 → mS → Option mQ) (tx : Nat) : Nat → Int32 → Int32 → Int32 → Int32 → mS → Option mQ
  | 0, _, _, _, _, _ => none
  | n + 1, v2, v3, v4, v5, s => if v5 = 0 then (k93 v2 v4 s) else (bN (q221 (0 : Int32) (9 : Int32) s) fun x6 s5 => if x6 < 0 then (q226_49 (q226_20 k93 tx n) tx v2 v3 x6 s5) else (if (10 : Int32) ≤ v3 then (q226_49 (q226_20 k93 tx n) tx v2 v3 x6 s5) else (q226_50 (q226_20 k93 tx n) tx v2 v3 x6 (1 : Int32) s5)))
theorem t226_20 {L : Nat} {xs : Nat → Int32} {d : Nat} {k93 : Int32 → Int32 → mS → Option mQ} {tx : Nat} (hk93 : ∀ (v2 : Int32) (v4 : Int32) (s : mS) (r : mQ), k93 v2 v4 s = some r → Ev L xs d 226 93 [(2, .int v2), (4, .int v4)] [] (hp s) (hr r)) (mtx : tx < 36) (hd : 4 ≤ d) : ∀ (n : Nat) (v2 : Int32) (v3 : Int32) (v4 : Int32) (v5 : Int32) (s : mS) (r : mQ), q226_20 k93 tx n v2 v3 v4 v5 s = some r → Ev L xs d 226 20 [(0, .ref 512), (2, .int v2), (3, .int v3), (4, .int v4), (5, .int v5)] [] (hp s) (hr r) := by
  intro n
  induction n with
  | zero => intro v2 v3 v4 v5 s r h; rw [q226_20] at h; cases h
  | succ n ih =>
    intro v2 v3 v4 v5 s r h
    rw [q226_20] at h
    refine Ev.iload H226 i226_20 rfl ?_
    refine Rd.if_eq H226 i226_22 (t := 93) (by decide) h (fun hc h => ?_) (fun hc h => ?_)
    · exact Ev.sub (l := [(2, .int v2), (4, .int v4)]) rfl rfl (mm_sub_c rfl (mm_sub_c rfl mm_sub_n)) (hk93 _ _ _ _ h)
    · refine Ev.aload_n H226 i226_25 rfl ?_
      refine Ev.iconst H226 i226_26 kI_0 ?_
      refine Ev.bipush H226 i226_27 kB_9 ?_
      refine Rd.cV2vN H226 i226_29 cal221 ob11 (Nat.le_of_ble_eq_true rfl) (Nat.le_of_ble_eq_true rfl) (Nat.lt_of_lt_of_le (by decide) hd) (fun q hq => c221 hq) h (fun x6 s5 h => ?_)
      refine Ev.istore H226 i226_32 (Nat.le_of_ble_eq_true rfl) (lv2 := [(6, .int x6), (0, .ref 512), (2, .int v2), (3, .int v3), (4, .int v4), (5, .int v5)]) rfl ?_
      refine Ev.iload H226 i226_34 rfl ?_
      refine Rd.if_lt H226 i226_36 (t := 49) (by decide) h (fun hc h => ?_) (fun hc h => ?_)
      · exact Ev.sub (l := [(0, .ref 512), (2, .int v2), (3, .int v3), (6, .int x6)]) rfl rfl (mm_sub_c rfl (mm_sub_c rfl (mm_sub_c rfl (mm_sub_c rfl mm_sub_n)))) (t226_49 (k20 := (q226_20 k93 tx n)) (fun _ _ _ _ _ _ h => ih _ _ _ _ _ _ h) mtx hd h)
      · refine Ev.iload_n H226 i226_39 rfl ?_
        refine Ev.bipush H226 i226_40 kB_10 ?_
        refine Rd.ic_ge H226 i226_42 (t := 49) (by decide) h (fun hc h => ?_) (fun hc h => ?_)
        · exact Ev.sub (l := [(0, .ref 512), (2, .int v2), (3, .int v3), (6, .int x6)]) rfl rfl (mm_sub_c rfl (mm_sub_c rfl (mm_sub_c rfl (mm_sub_c rfl mm_sub_n)))) (t226_49 (k20 := (q226_20 k93 tx n)) (fun _ _ _ _ _ _ h => ih _ _ _ _ _ _ h) mtx hd h)
        · refine Ev.iconst H226 i226_45 kI_1 ?_
          refine Ev.goto H226 i226_46 (t := 50) (by decide) ?_
          exact Ev.sub (l := [(0, .ref 512), (2, .int v2), (3, .int v3), (6, .int x6)]) rfl rfl (mm_sub_c rfl (mm_sub_c rfl (mm_sub_c rfl (mm_sub_c rfl mm_sub_n)))) (t226_50 (k20 := (q226_20 k93 tx n)) (fun _ _ _ _ _ _ h => ih _ _ _ _ _ _ h) mtx hd h)
def q226_93 (tx : Nat) (v2 : Int32) (v4 : Int32) (s : mS) : Option mQ := if v4 = 0 then (rv (-1 : Int32) s) else (rv v2 s)
theorem t226_93 {L : Nat} {xs : Nat → Int32} {d : Nat} {tx : Nat} (mtx : tx < 36) (hd : 4 ≤ d) {v2 : Int32} {v4 : Int32} {s : mS} {r : mQ} (h : q226_93 tx v2 v4 s = some r) : Ev L xs d 226 93 [(2, .int v2), (4, .int v4)] [] (hp s) (hr r) := by
  unfold q226_93 at h
  refine Ev.iload H226 i226_93 rfl ?_
  refine Rd.if_eq H226 i226_95 (t := 102) (by decide) h (fun hc h => ?_) (fun hc h => ?_)
  · refine Ev.iconst H226 i226_102 kI_m1 ?_
    exact Rd.ireturn H226 i226_103 rfl h
  · refine Ev.iload_n H226 i226_98 rfl ?_
    refine Ev.goto H226 i226_99 (t := 103) (by decide) ?_
    exact Rd.ireturn H226 i226_103 rfl h
/-- SerialGateModel.keysTold(Ljava/lang/String;)I -/
def q226 (tx : Nat) (s : mS) : Option mQ := bN (q219 tx s) fun x8 s7 => if ¬ x8 = 0 then (q226_20 (q226_93 tx) tx 10000 (0 : Int32) (0 : Int32) (1 : Int32) (1 : Int32) s7) else (rv (0 : Int32) s7)
theorem c226 {L : Nat} {xs : Nat → Int32} {tx : Nat} (mtx : tx < 36) {s : mS} {r : mQ} (h : q226 tx s = some r) : ∀ d, 4 ≤ d → Cl L xs d 226 [.ref 512, .retAddr tx] (hp s) (hr r) := by
  intro d hd
  show Ev L xs d 226 0 [(0, .ref 512), (1, .retAddr tx)] [] (hp s) (hr r)
  unfold q226 at h
  refine Ev.aload_n H226 i226_0 rfl ?_
  refine Ev.aload_nT H226 i226_1 rfl ?_
  refine Rd.cV1vN H226 i226_2 cal219 ob11 (Nat.le_of_ble_eq_true rfl) (Nat.le_of_ble_eq_true rfl) (Nat.lt_of_lt_of_le (by decide) hd) (fun q hq => c219 mtx hq) h (fun x8 s7 h => ?_)
  refine Rd.if_ne H226 i226_5 (t := 10) (by decide) h (fun hc h => ?_) (fun hc h => ?_)
  · refine Ev.iconst H226 i226_10 kI_0 ?_
    refine Ev.istore_n H226 i226_11 (Nat.le_of_ble_eq_true rfl) (lv2 := [(2, .int (0 : Int32)), (0, .ref 512), (1, .retAddr tx)]) rfl ?_
    refine Ev.iconst H226 i226_12 kI_0 ?_
    refine Ev.istore_n H226 i226_13 (Nat.le_of_ble_eq_true rfl) (lv2 := [(3, .int (0 : Int32)), (2, .int (0 : Int32)), (0, .ref 512), (1, .retAddr tx)]) rfl ?_
    refine Ev.iconst H226 i226_14 kI_1 ?_
    refine Ev.istore H226 i226_15 (Nat.le_of_ble_eq_true rfl) (lv2 := [(4, .int (1 : Int32)), (3, .int (0 : Int32)), (2, .int (0 : Int32)), (0, .ref 512), (1, .retAddr tx)]) rfl ?_
    refine Ev.iconst H226 i226_17 kI_1 ?_
    refine Ev.istore H226 i226_18 (Nat.le_of_ble_eq_true rfl) (lv2 := [(5, .int (1 : Int32)), (4, .int (1 : Int32)), (3, .int (0 : Int32)), (2, .int (0 : Int32)), (0, .ref 512), (1, .retAddr tx)]) rfl ?_
    exact Ev.sub (l := [(0, .ref 512), (2, .int (0 : Int32)), (3, .int (0 : Int32)), (4, .int (1 : Int32)), (5, .int (1 : Int32))]) rfl rfl (mm_sub_c rfl (mm_sub_c rfl (mm_sub_c rfl (mm_sub_c rfl (mm_sub_c rfl mm_sub_n))))) (t226_20 (k93 := (q226_93 tx)) (fun _ _ _ _ h => t226_93 mtx hd h) mtx hd 10000 _ _ _ _ _ _ h)
  · refine Ev.iconst H226 i226_8 kI_0 ?_
    exact Rd.ireturn H226 i226_9 rfl h
theorem i227_0 : mm_cd 227 0 = some (.aload_n 0, 1, 0, 0) := rfl
theorem i227_1 : mm_cd 227 1 = some (.invokevirtual 129, 3, 0, 198) := rfl
theorem i227_4 : mm_cd 227 4 = some (.istore_n 1, 1, 0, 0) := rfl
theorem i227_5 : mm_cd 227 5 = some (.iload_n 1, 1, 0, 0) := rfl
theorem i227_6 : mm_cd 227 6 = some (.iconst 5, 1, 0, 0) := rfl
theorem i227_7 : mm_cd 227 7 = some (.if_icmp .ne 5, 3, 0, 0) := rfl
theorem i227_10 : mm_cd 227 10 = some (.iconst 0, 1, 0, 0) := rfl
theorem i227_11 : mm_cd 227 11 = some (.ireturn, 1, 0, 0) := rfl
theorem i227_12 : mm_cd 227 12 = some (.aload_n 0, 1, 0, 0) := rfl
theorem i227_13 : mm_cd 227 13 = some (.ldc 132, 2, 0, 2) := rfl
theorem i227_15 : mm_cd 227 15 = some (.invokevirtual 134, 3, 0, 226) := rfl
theorem i227_18 : mm_cd 227 18 = some (.istore_n 2, 1, 0, 0) := rfl
theorem i227_19 : mm_cd 227 19 = some (.iload_n 2, 1, 0, 0) := rfl
theorem i227_20 : mm_cd 227 20 = some (.ifCond .ge 7, 3, 0, 0) := rfl
theorem i227_23 : mm_cd 227 23 = some (.iconst (-1), 1, 0, 0) := rfl
theorem i227_24 : mm_cd 227 24 = some (.goto 9, 3, 0, 0) := rfl
theorem i227_27 : mm_cd 227 27 = some (.aload_n 0, 1, 0, 0) := rfl
theorem i227_28 : mm_cd 227 28 = some (.ldc 138, 2, 0, 3) := rfl
theorem i227_30 : mm_cd 227 30 = some (.invokevirtual 134, 3, 0, 226) := rfl
theorem i227_33 : mm_cd 227 33 = some (.istore_n 3, 1, 0, 0) := rfl
theorem i227_34 : mm_cd 227 34 = some (.iload_n 3, 1, 0, 0) := rfl
theorem i227_35 : mm_cd 227 35 = some (.ifCond .ge 5, 3, 0, 0) := rfl
theorem i227_38 : mm_cd 227 38 = some (.iconst 0, 1, 0, 0) := rfl
theorem i227_39 : mm_cd 227 39 = some (.ireturn, 1, 0, 0) := rfl
theorem i227_40 : mm_cd 227 40 = some (.aload_n 0, 1, 0, 0) := rfl
theorem i227_41 : mm_cd 227 41 = some (.ldc 140, 2, 0, 4) := rfl
theorem i227_43 : mm_cd 227 43 = some (.invokevirtual 122, 3, 0, 219) := rfl
theorem i227_46 : mm_cd 227 46 = some (.istore 4, 2, 0, 0) := rfl
theorem i227_48 : mm_cd 227 48 = some (.iload 4, 2, 0, 0) := rfl
theorem i227_50 : mm_cd 227 50 = some (.ifCond .eq 21, 3, 0, 0) := rfl
theorem i227_53 : mm_cd 227 53 = some (.iload_n 3, 1, 0, 0) := rfl
theorem i227_54 : mm_cd 227 54 = some (.ifCond .eq 17, 3, 0, 0) := rfl
theorem i227_57 : mm_cd 227 57 = some (.aload_n 0, 1, 0, 0) := rfl
theorem i227_58 : mm_cd 227 58 = some (.aload_n 0, 1, 0, 0) := rfl
theorem i227_59 : mm_cd 227 59 = some (.getfield 96, 3, ((11 : Nat) : Int), 12) := rfl
theorem i227_62 : mm_cd 227 62 = some (.putfield 87, 3, ((11 : Nat) : Int), 10) := rfl
theorem i227_65 : mm_cd 227 65 = some (.aload_n 0, 1, 0, 0) := rfl
theorem i227_66 : mm_cd 227 66 = some (.invokevirtual 112, 3, 0, 217) := rfl
theorem i227_69 : mm_cd 227 69 = some (.iconst 0, 1, 0, 0) := rfl
theorem i227_70 : mm_cd 227 70 = some (.ireturn, 1, 0, 0) := rfl
theorem i227_71 : mm_cd 227 71 = some (.aload_n 0, 1, 0, 0) := rfl
theorem i227_72 : mm_cd 227 72 = some (.getfield 13, 3, ((11 : Nat) : Int), 1) := rfl
theorem i227_75 : mm_cd 227 75 = some (.iload_n 1, 1, 0, 0) := rfl
theorem i227_76 : mm_cd 227 76 = some (.iconst 0, 1, 0, 0) := rfl
theorem i227_77 : mm_cd 227 77 = some (.invokestatic 63, 3, 0, 201) := rfl
theorem i227_80 : mm_cd 227 80 = some (.iload_n 2, 1, 0, 0) := rfl
theorem i227_81 : mm_cd 227 81 = some (.iastore, 1, 0, 0) := rfl
theorem i227_82 : mm_cd 227 82 = some (.aload_n 0, 1, 0, 0) := rfl
theorem i227_83 : mm_cd 227 83 = some (.getfield 13, 3, ((11 : Nat) : Int), 1) := rfl
theorem i227_86 : mm_cd 227 86 = some (.iload_n 1, 1, 0, 0) := rfl
theorem i227_87 : mm_cd 227 87 = some (.iconst 1, 1, 0, 0) := rfl
theorem i227_88 : mm_cd 227 88 = some (.invokestatic 63, 3, 0, 201) := rfl
theorem i227_91 : mm_cd 227 91 = some (.iload_n 3, 1, 0, 0) := rfl
theorem i227_92 : mm_cd 227 92 = some (.iastore, 1, 0, 0) := rfl
theorem i227_93 : mm_cd 227 93 = some (.aload_n 0, 1, 0, 0) := rfl
theorem i227_94 : mm_cd 227 94 = some (.getfield 13, 3, ((11 : Nat) : Int), 1) := rfl
theorem i227_97 : mm_cd 227 97 = some (.iload_n 1, 1, 0, 0) := rfl
theorem i227_98 : mm_cd 227 98 = some (.iconst 2, 1, 0, 0) := rfl
theorem i227_99 : mm_cd 227 99 = some (.invokestatic 63, 3, 0, 201) := rfl
theorem i227_102 : mm_cd 227 102 = some (.iload 4, 2, 0, 0) := rfl
theorem i227_104 : mm_cd 227 104 = some (.ifCond .eq 7, 3, 0, 0) := rfl
theorem i227_107 : mm_cd 227 107 = some (.iconst 1, 1, 0, 0) := rfl
theorem i227_108 : mm_cd 227 108 = some (.goto 4, 3, 0, 0) := rfl
theorem i227_111 : mm_cd 227 111 = some (.iconst 0, 1, 0, 0) := rfl
theorem i227_112 : mm_cd 227 112 = some (.iastore, 1, 0, 0) := rfl
theorem i227_113 : mm_cd 227 113 = some (.aload_n 0, 1, 0, 0) := rfl
theorem i227_114 : mm_cd 227 114 = some (.getfield 13, 3, ((11 : Nat) : Int), 1) := rfl
theorem i227_117 : mm_cd 227 117 = some (.iload_n 1, 1, 0, 0) := rfl
theorem i227_118 : mm_cd 227 118 = some (.iconst 3, 1, 0, 0) := rfl
theorem i227_119 : mm_cd 227 119 = some (.invokestatic 63, 3, 0, 201) := rfl
theorem i227_122 : mm_cd 227 122 = some (.iconst 0, 1, 0, 0) := rfl
theorem i227_123 : mm_cd 227 123 = some (.iastore, 1, 0, 0) := rfl
theorem i227_124 : mm_cd 227 124 = some (.aload_n 0, 1, 0, 0) := rfl
theorem i227_125 : mm_cd 227 125 = some (.getfield 13, 3, ((11 : Nat) : Int), 1) := rfl
theorem i227_128 : mm_cd 227 128 = some (.iload_n 1, 1, 0, 0) := rfl
theorem i227_129 : mm_cd 227 129 = some (.iconst 4, 1, 0, 0) := rfl
theorem i227_130 : mm_cd 227 130 = some (.invokestatic 63, 3, 0, 201) := rfl
theorem i227_133 : mm_cd 227 133 = some (.iconst 0, 1, 0, 0) := rfl
theorem i227_134 : mm_cd 227 134 = some (.iastore, 1, 0, 0) := rfl
theorem i227_135 : mm_cd 227 135 = some (.aload_n 0, 1, 0, 0) := rfl
theorem i227_136 : mm_cd 227 136 = some (.getfield 13, 3, ((11 : Nat) : Int), 1) := rfl
theorem i227_139 : mm_cd 227 139 = some (.iconst 0, 1, 0, 0) := rfl
theorem i227_140 : mm_cd 227 140 = some (.dup2, 1, 0, 0) := rfl
theorem i227_141 : mm_cd 227 141 = some (.iaload, 1, 0, 0) := rfl
theorem i227_142 : mm_cd 227 142 = some (.iconst 1, 1, 0, 0) := rfl
theorem i227_143 : mm_cd 227 143 = some (.iadd, 1, 0, 0) := rfl
theorem i227_144 : mm_cd 227 144 = some (.iastore, 1, 0, 0) := rfl
theorem i227_145 : mm_cd 227 145 = some (.iconst 1, 1, 0, 0) := rfl
theorem i227_146 : mm_cd 227 146 = some (.ireturn, 1, 0, 0) := rfl
def q227_112 (v1 : Int32) (y1 : Int32) (y2 : Int32) (s : mS) : Option mQ := gA 2468 y1 <| sp (sI s 513 y1.toNatClampNeg y2) fun s1 => bN (q201 v1 (3 : Int32) s1) fun x3 s2 => gA 2468 x3 <| sp (sI s2 513 x3.toNatClampNeg (0 : Int32)) fun s4 => bN (q201 v1 (4 : Int32) s4) fun x6 s5 => gA 2468 x6 <| sp (sI s5 513 x6.toNatClampNeg (0 : Int32)) fun s7 => gA 2468 (0 : Int32) <| gA 2468 (0 : Int32) <| sp (sI s7 513 (0 : Int32).toNatClampNeg ((s7.1 513 (0 : Int32).toNatClampNeg) + (1 : Int32))) fun s8 => rv (1 : Int32) s8
theorem t227_112 {L : Nat} {xs : Nat → Int32} {d : Nat} (hd : 5 ≤ d) {v1 : Int32} {y1 : Int32} {y2 : Int32} {s : mS} {r : mQ} (h : q227_112 v1 y1 y2 s = some r) : Ev L xs d 227 112 [(0, .ref 512), (1, .int v1)] [.int y2, .int y1, .ref 513] (hp s) (hr r) := by
  unfold q227_112 at h
  refine Rd.iastore H227 i227_112 ar_513 h (fun s1 h => ?_)
  refine Ev.aload_n H227 i227_113 rfl ?_
  refine Rd.getR H227 i227_114 ob11 rfl ?_
  refine Ev.iload_n H227 i227_117 rfl ?_
  refine Ev.iconst H227 i227_118 kI_3 ?_
  refine Rd.cS2vN H227 i227_119 cal201 (Nat.le_of_ble_eq_true rfl) (Nat.le_of_ble_eq_true rfl) (Nat.lt_of_lt_of_le (by decide) hd) (fun q hq => c201 hq) h (fun x3 s2 h => ?_)
  refine Ev.iconst H227 i227_122 kI_0 ?_
  refine Rd.iastore H227 i227_123 ar_513 h (fun s4 h => ?_)
  refine Ev.aload_n H227 i227_124 rfl ?_
  refine Rd.getR H227 i227_125 ob11 rfl ?_
  refine Ev.iload_n H227 i227_128 rfl ?_
  refine Ev.iconst H227 i227_129 kI_4 ?_
  refine Rd.cS2vN H227 i227_130 cal201 (Nat.le_of_ble_eq_true rfl) (Nat.le_of_ble_eq_true rfl) (Nat.lt_of_lt_of_le (by decide) hd) (fun q hq => c201 hq) h (fun x6 s5 h => ?_)
  refine Ev.iconst H227 i227_133 kI_0 ?_
  refine Rd.iastore H227 i227_134 ar_513 h (fun s7 h => ?_)
  refine Ev.aload_n H227 i227_135 rfl ?_
  refine Rd.getR H227 i227_136 ob11 rfl ?_
  refine Ev.iconst H227 i227_139 kI_0 ?_
  refine Ev.dup2 H227 i227_140 ⟨rfl, rfl⟩ ?_
  refine Rd.iaload H227 i227_141 ar_513 h (fun h => ?_)
  refine Ev.iconst H227 i227_142 kI_1 ?_
  refine Ev.iadd H227 i227_143 ?_
  refine Rd.iastore H227 i227_144 ar_513 h (fun s8 h => ?_)
  refine Ev.iconst H227 i227_145 kI_1 ?_
  exact Rd.ireturnK H227 i227_146 rfl (Or.inr rfl) h
def q227_71 (v1 : Int32) (v2 : Int32) (v3 : Int32) (v4 : Int32) (s : mS) : Option mQ := bN (q201 v1 (0 : Int32) s) fun x10 s9 => gA 2468 x10 <| sp (sI s9 513 x10.toNatClampNeg v2) fun s11 => bN (q201 v1 (1 : Int32) s11) fun x13 s12 => gA 2468 x13 <| sp (sI s12 513 x13.toNatClampNeg v3) fun s14 => bN (q201 v1 (2 : Int32) s14) fun x16 s15 => if v4 = 0 then (q227_112 v1 x16 (0 : Int32) s15) else (q227_112 v1 x16 (1 : Int32) s15)
theorem t227_71 {L : Nat} {xs : Nat → Int32} {d : Nat} (hd : 5 ≤ d) {v1 : Int32} {v2 : Int32} {v3 : Int32} {v4 : Int32} {s : mS} {r : mQ} (h : q227_71 v1 v2 v3 v4 s = some r) : Ev L xs d 227 71 [(0, .ref 512), (1, .int v1), (2, .int v2), (3, .int v3), (4, .int v4)] [] (hp s) (hr r) := by
  unfold q227_71 at h
  refine Ev.aload_n H227 i227_71 rfl ?_
  refine Rd.getR H227 i227_72 ob11 rfl ?_
  refine Ev.iload_n H227 i227_75 rfl ?_
  refine Ev.iconst H227 i227_76 kI_0 ?_
  refine Rd.cS2vN H227 i227_77 cal201 (Nat.le_of_ble_eq_true rfl) (Nat.le_of_ble_eq_true rfl) (Nat.lt_of_lt_of_le (by decide) hd) (fun q hq => c201 hq) h (fun x10 s9 h => ?_)
  refine Ev.iload_n H227 i227_80 rfl ?_
  refine Rd.iastore H227 i227_81 ar_513 h (fun s11 h => ?_)
  refine Ev.aload_n H227 i227_82 rfl ?_
  refine Rd.getR H227 i227_83 ob11 rfl ?_
  refine Ev.iload_n H227 i227_86 rfl ?_
  refine Ev.iconst H227 i227_87 kI_1 ?_
  refine Rd.cS2vN H227 i227_88 cal201 (Nat.le_of_ble_eq_true rfl) (Nat.le_of_ble_eq_true rfl) (Nat.lt_of_lt_of_le (by decide) hd) (fun q hq => c201 hq) h (fun x13 s12 h => ?_)
  refine Ev.iload_n H227 i227_91 rfl ?_
  refine Rd.iastore H227 i227_92 ar_513 h (fun s14 h => ?_)
  refine Ev.aload_n H227 i227_93 rfl ?_
  refine Rd.getR H227 i227_94 ob11 rfl ?_
  refine Ev.iload_n H227 i227_97 rfl ?_
  refine Ev.iconst H227 i227_98 kI_2 ?_
  refine Rd.cS2vN H227 i227_99 cal201 (Nat.le_of_ble_eq_true rfl) (Nat.le_of_ble_eq_true rfl) (Nat.lt_of_lt_of_le (by decide) hd) (fun q hq => c201 hq) h (fun x16 s15 h => ?_)
  refine Ev.iload H227 i227_102 rfl ?_
  refine Rd.if_eq H227 i227_104 (t := 111) (by decide) h (fun hc h => ?_) (fun hc h => ?_)
  · refine Ev.iconst H227 i227_111 kI_0 ?_
    exact Ev.sub (l := [(0, .ref 512), (1, .int v1)]) rfl rfl (mm_sub_c rfl (mm_sub_c rfl mm_sub_n)) (t227_112 hd h)
  · refine Ev.iconst H227 i227_107 kI_1 ?_
    refine Ev.goto H227 i227_108 (t := 112) (by decide) ?_
    exact Ev.sub (l := [(0, .ref 512), (1, .int v1)]) rfl rfl (mm_sub_c rfl (mm_sub_c rfl mm_sub_n)) (t227_112 hd h)
def q227_33 (v1 : Int32) (v2 : Int32) (y0 : Int32) (s : mS) : Option mQ := if 0 ≤ y0 then (bN (q219 3 s) fun x18 s17 => if x18 = 0 then (q227_71 v1 v2 y0 x18 s17) else (if y0 = 0 then (q227_71 v1 v2 y0 x18 s17) else (sp (sI s17 512 10 (s17.1 512 12)) fun s19 => bM (q217 s19) fun s20 => rv (0 : Int32) s20))) else (rv (0 : Int32) s)
theorem t227_33 {L : Nat} {xs : Nat → Int32} {d : Nat} (hd : 5 ≤ d) {v1 : Int32} {v2 : Int32} {y0 : Int32} {s : mS} {r : mQ} (h : q227_33 v1 v2 y0 s = some r) : Ev L xs d 227 33 [(0, .ref 512), (1, .int v1), (2, .int v2)] [.int y0] (hp s) (hr r) := by
  unfold q227_33 at h
  refine Ev.istore_n H227 i227_33 (Nat.le_of_ble_eq_true rfl) (lv2 := [(3, .int y0), (0, .ref 512), (1, .int v1), (2, .int v2)]) rfl ?_
  refine Ev.iload_n H227 i227_34 rfl ?_
  refine Rd.if_ge H227 i227_35 (t := 40) (by decide) h (fun hc h => ?_) (fun hc h => ?_)
  · refine Ev.aload_n H227 i227_40 rfl ?_
    refine Ev.ldcT H227 i227_41 ?_
    refine Rd.cV1vN H227 i227_43 cal219 ob11 (Nat.le_of_ble_eq_true rfl) (Nat.le_of_ble_eq_true rfl) (Nat.lt_of_lt_of_le (by decide) hd) (fun q hq => c219 (by decide) hq) h (fun x18 s17 h => ?_)
    refine Ev.istore H227 i227_46 (Nat.le_of_ble_eq_true rfl) (lv2 := [(4, .int x18), (3, .int y0), (0, .ref 512), (1, .int v1), (2, .int v2)]) rfl ?_
    refine Ev.iload H227 i227_48 rfl ?_
    refine Rd.if_eq H227 i227_50 (t := 71) (by decide) h (fun hc h => ?_) (fun hc h => ?_)
    · exact Ev.sub (l := [(0, .ref 512), (1, .int v1), (2, .int v2), (3, .int y0), (4, .int x18)]) rfl rfl (mm_sub_c rfl (mm_sub_c rfl (mm_sub_c rfl (mm_sub_c rfl (mm_sub_c rfl mm_sub_n))))) (t227_71 hd h)
    · refine Ev.iload_n H227 i227_53 rfl ?_
      refine Rd.if_eq H227 i227_54 (t := 71) (by decide) h (fun hc h => ?_) (fun hc h => ?_)
      · exact Ev.sub (l := [(0, .ref 512), (1, .int v1), (2, .int v2), (3, .int y0), (4, .int x18)]) rfl rfl (mm_sub_c rfl (mm_sub_c rfl (mm_sub_c rfl (mm_sub_c rfl (mm_sub_c rfl mm_sub_n))))) (t227_71 hd h)
      · refine Ev.aload_n H227 i227_57 rfl ?_
        refine Ev.aload_n H227 i227_58 rfl ?_
        refine Rd.getI H227 i227_59 ob11 rfl ?_
        refine Rd.putI H227 i227_62 ob11 rfl ty11_10.1 ty11_10.2 h (fun s19 h => ?_)
        refine Ev.aload_n H227 i227_65 rfl ?_
        refine Rd.cV0uN H227 i227_66 cal217 ob11 (Nat.le_of_ble_eq_true rfl) (Nat.le_of_ble_eq_true rfl) (Nat.lt_of_lt_of_le (by decide) hd) (fun q hq => c217 hq) h (fun s20 h => ?_)
        refine Ev.iconst H227 i227_69 kI_0 ?_
        exact Rd.ireturnK H227 i227_70 rfl (Or.inl rfl) h
  · refine Ev.iconst H227 i227_38 kI_0 ?_
    exact Rd.ireturnK H227 i227_39 rfl (Or.inl rfl) h
/-- SerialGateModel.readClient()Z -/
def q227 (s : mS) : Option mQ := bN (q198 s) fun x22 s21 => if ¬ x22 = (5 : Int32) then (bN (q226 1 s21) fun x24 s23 => if 0 ≤ x24 then (bN (q226 2 s23) fun x26 s25 => q227_33 x22 x24 x26 s25) else (q227_33 x22 x24 (-1 : Int32) s23)) else (rv (0 : Int32) s21)
theorem c227 {L : Nat} {xs : Nat → Int32} {s : mS} {r : mQ} (h : q227 s = some r) : ∀ d, 5 ≤ d → Cl L xs d 227 [.ref 512] (hp s) (hr r) := by
  intro d hd
  show Ev L xs d 227 0 [(0, .ref 512)] [] (hp s) (hr r)
  unfold q227 at h
  refine Ev.aload_n H227 i227_0 rfl ?_
  refine Rd.cV0vN H227 i227_1 cal198 ob11 (Nat.le_of_ble_eq_true rfl) (Nat.le_of_ble_eq_true rfl) (Nat.lt_of_lt_of_le (by decide) hd) (fun q hq => c198 hq) h (fun x22 s21 h => ?_)
  refine Ev.istore_n H227 i227_4 (Nat.le_of_ble_eq_true rfl) (lv2 := [(1, .int x22), (0, .ref 512)]) rfl ?_
  refine Ev.iload_n H227 i227_5 rfl ?_
  refine Ev.iconst H227 i227_6 kI_5 ?_
  refine Rd.ic_ne H227 i227_7 (t := 12) (by decide) h (fun hc h => ?_) (fun hc h => ?_)
  · refine Ev.aload_n H227 i227_12 rfl ?_
    refine Ev.ldcT H227 i227_13 ?_
    refine Rd.cV1vN H227 i227_15 cal226 ob11 (Nat.le_of_ble_eq_true rfl) (Nat.le_of_ble_eq_true rfl) (Nat.lt_of_lt_of_le (by decide) hd) (fun q hq => c226 (by decide) hq) h (fun x24 s23 h => ?_)
    refine Ev.istore_n H227 i227_18 (Nat.le_of_ble_eq_true rfl) (lv2 := [(2, .int x24), (1, .int x22), (0, .ref 512)]) rfl ?_
    refine Ev.iload_n H227 i227_19 rfl ?_
    refine Rd.if_ge H227 i227_20 (t := 27) (by decide) h (fun hc h => ?_) (fun hc h => ?_)
    · refine Ev.aload_n H227 i227_27 rfl ?_
      refine Ev.ldcT H227 i227_28 ?_
      refine Rd.cV1vN H227 i227_30 cal226 ob11 (Nat.le_of_ble_eq_true rfl) (Nat.le_of_ble_eq_true rfl) (Nat.lt_of_lt_of_le (by decide) hd) (fun q hq => c226 (by decide) hq) h (fun x26 s25 h => ?_)
      exact Ev.sub (l := [(0, .ref 512), (1, .int x22), (2, .int x24)]) rfl rfl (mm_sub_c rfl (mm_sub_c rfl (mm_sub_c rfl mm_sub_n))) (t227_33 hd h)
    · refine Ev.iconst H227 i227_23 kI_m1 ?_
      refine Ev.goto H227 i227_24 (t := 33) (by decide) ?_
      exact Ev.sub (l := [(0, .ref 512), (1, .int x22), (2, .int x24)]) rfl rfl (mm_sub_c rfl (mm_sub_c rfl (mm_sub_c rfl mm_sub_n))) (t227_33 hd h)
  · refine Ev.iconst H227 i227_10 kI_0 ?_
    exact Rd.ireturnK H227 i227_11 rfl (Or.inl rfl) h
theorem i228_0 : mm_cd 228 0 = some (.aload_n 0, 1, 0, 0) := rfl
theorem i228_1 : mm_cd 228 1 = some (.iconst 0, 1, 0, 0) := rfl
theorem i228_2 : mm_cd 228 2 = some (.bipush 9, 2, 0, 0) := rfl
theorem i228_4 : mm_cd 228 4 = some (.invokevirtual 119, 3, 0, 221) := rfl
theorem i228_7 : mm_cd 228 7 = some (.istore_n 1, 1, 0, 0) := rfl
theorem i228_8 : mm_cd 228 8 = some (.iload_n 1, 1, 0, 0) := rfl
theorem i228_9 : mm_cd 228 9 = some (.ifCond .lt 12, 3, 0, 0) := rfl
theorem i228_12 : mm_cd 228 12 = some (.aload_n 0, 1, 0, 0) := rfl
theorem i228_13 : mm_cd 228 13 = some (.iload_n 1, 1, 0, 0) := rfl
theorem i228_14 : mm_cd 228 14 = some (.invokevirtual 142, 3, 0, 210) := rfl
theorem i228_17 : mm_cd 228 17 = some (.iconst (-1), 1, 0, 0) := rfl
theorem i228_18 : mm_cd 228 18 = some (.if_icmp .eq 5, 3, 0, 0) := rfl
theorem i228_21 : mm_cd 228 21 = some (.iconst 0, 1, 0, 0) := rfl
theorem i228_22 : mm_cd 228 22 = some (.ireturn, 1, 0, 0) := rfl
theorem i228_23 : mm_cd 228 23 = some (.aload_n 0, 1, 0, 0) := rfl
theorem i228_24 : mm_cd 228 24 = some (.iconst 0, 1, 0, 0) := rfl
theorem i228_25 : mm_cd 228 25 = some (.sipush 999, 3, 0, 0) := rfl
theorem i228_28 : mm_cd 228 28 = some (.invokevirtual 119, 3, 0, 221) := rfl
theorem i228_31 : mm_cd 228 31 = some (.istore_n 2, 1, 0, 0) := rfl
theorem i228_32 : mm_cd 228 32 = some (.iload_n 2, 1, 0, 0) := rfl
theorem i228_33 : mm_cd 228 33 = some (.ifCond .ge 5, 3, 0, 0) := rfl
theorem i228_36 : mm_cd 228 36 = some (.iconst 0, 1, 0, 0) := rfl
theorem i228_37 : mm_cd 228 37 = some (.ireturn, 1, 0, 0) := rfl
theorem i228_38 : mm_cd 228 38 = some (.aload_n 0, 1, 0, 0) := rfl
theorem i228_39 : mm_cd 228 39 = some (.getfield 13, 3, ((11 : Nat) : Int), 1) := rfl
theorem i228_42 : mm_cd 228 42 = some (.iload_n 1, 1, 0, 0) := rfl
theorem i228_43 : mm_cd 228 43 = some (.iconst 0, 1, 0, 0) := rfl
theorem i228_44 : mm_cd 228 44 = some (.invokestatic 59, 3, 0, 199) := rfl
theorem i228_47 : mm_cd 228 47 = some (.sipush 9999, 3, 0, 0) := rfl
theorem i228_50 : mm_cd 228 50 = some (.aload_n 0, 1, 0, 0) := rfl
theorem i228_51 : mm_cd 228 51 = some (.iload_n 1, 1, 0, 0) := rfl
theorem i228_52 : mm_cd 228 52 = some (.iconst 0, 1, 0, 0) := rfl
theorem i228_53 : mm_cd 228 53 = some (.invokevirtual 146, 3, 0, 200) := rfl
theorem i228_56 : mm_cd 228 56 = some (.iload_n 2, 1, 0, 0) := rfl
theorem i228_57 : mm_cd 228 57 = some (.iadd, 1, 0, 0) := rfl
theorem i228_58 : mm_cd 228 58 = some (.invokestatic 149, 3, 3, 0) := rfl
theorem i228_61 : mm_cd 228 61 = some (.iastore, 1, 0, 0) := rfl
theorem i228_62 : mm_cd 228 62 = some (.iconst 1, 1, 0, 0) := rfl
theorem i228_63 : mm_cd 228 63 = some (.ireturn, 1, 0, 0) := rfl
/-- SerialGateModel.readVersion()Z -/
def q228 (s : mS) : Option mQ := bN (q221 (0 : Int32) (9 : Int32) s) fun x2 s1 => if x2 < 0 then (rv (0 : Int32) s1) else (bN (q210 x2 s1) fun x4 s3 => if x4 = (-1 : Int32) then (bN (q221 (0 : Int32) (999 : Int32) s3) fun x6 s5 => if 0 ≤ x6 then (bN (q199 x2 (0 : Int32) s5) fun x8 s7 => bN (q200 x2 (0 : Int32) s7) fun x10 s9 => gA 2468 x8 <| sp (sI s9 513 x8.toNatClampNeg (mnI (9999 : Int32) (x10 + x6))) fun s11 => rv (1 : Int32) s11) else (rv (0 : Int32) s5)) else (rv (0 : Int32) s3))
theorem c228 {L : Nat} {xs : Nat → Int32} {s : mS} {r : mQ} (h : q228 s = some r) : ∀ d, 4 ≤ d → Cl L xs d 228 [.ref 512] (hp s) (hr r) := by
  intro d hd
  show Ev L xs d 228 0 [(0, .ref 512)] [] (hp s) (hr r)
  unfold q228 at h
  refine Ev.aload_n H228 i228_0 rfl ?_
  refine Ev.iconst H228 i228_1 kI_0 ?_
  refine Ev.bipush H228 i228_2 kB_9 ?_
  refine Rd.cV2vN H228 i228_4 cal221 ob11 (Nat.le_of_ble_eq_true rfl) (Nat.le_of_ble_eq_true rfl) (Nat.lt_of_lt_of_le (by decide) hd) (fun q hq => c221 hq) h (fun x2 s1 h => ?_)
  refine Ev.istore_n H228 i228_7 (Nat.le_of_ble_eq_true rfl) (lv2 := [(1, .int x2), (0, .ref 512)]) rfl ?_
  refine Ev.iload_n H228 i228_8 rfl ?_
  refine Rd.if_lt H228 i228_9 (t := 21) (by decide) h (fun hc h => ?_) (fun hc h => ?_)
  · refine Ev.iconst H228 i228_21 kI_0 ?_
    exact Rd.ireturnK H228 i228_22 rfl (Or.inl rfl) h
  · refine Ev.aload_n H228 i228_12 rfl ?_
    refine Ev.iload_n H228 i228_13 rfl ?_
    refine Rd.cV1vN H228 i228_14 cal210 ob11 (Nat.le_of_ble_eq_true rfl) (Nat.le_of_ble_eq_true rfl) (Nat.lt_of_lt_of_le (by decide) hd) (fun q hq => c210 hq) h (fun x4 s3 h => ?_)
    refine Ev.iconst H228 i228_17 kI_m1 ?_
    refine Rd.ic_eq H228 i228_18 (t := 23) (by decide) h (fun hc h => ?_) (fun hc h => ?_)
    · refine Ev.aload_n H228 i228_23 rfl ?_
      refine Ev.iconst H228 i228_24 kI_0 ?_
      refine Ev.sipush H228 i228_25 kS_999 ?_
      refine Rd.cV2vN H228 i228_28 cal221 ob11 (Nat.le_of_ble_eq_true rfl) (Nat.le_of_ble_eq_true rfl) (Nat.lt_of_lt_of_le (by decide) hd) (fun q hq => c221 hq) h (fun x6 s5 h => ?_)
      refine Ev.istore_n H228 i228_31 (Nat.le_of_ble_eq_true rfl) (lv2 := [(2, .int x6), (1, .int x2), (0, .ref 512)]) rfl ?_
      refine Ev.iload_n H228 i228_32 rfl ?_
      refine Rd.if_ge H228 i228_33 (t := 38) (by decide) h (fun hc h => ?_) (fun hc h => ?_)
      · refine Ev.aload_n H228 i228_38 rfl ?_
        refine Rd.getR H228 i228_39 ob11 rfl ?_
        refine Ev.iload_n H228 i228_42 rfl ?_
        refine Ev.iconst H228 i228_43 kI_0 ?_
        refine Rd.cS2vN H228 i228_44 cal199 (Nat.le_of_ble_eq_true rfl) (Nat.le_of_ble_eq_true rfl) (Nat.lt_of_lt_of_le (by decide) hd) (fun q hq => c199 hq) h (fun x8 s7 h => ?_)
        refine Ev.sipush H228 i228_47 kS_9999 ?_
        refine Ev.aload_n H228 i228_50 rfl ?_
        refine Ev.iload_n H228 i228_51 rfl ?_
        refine Ev.iconst H228 i228_52 kI_0 ?_
        refine Rd.cV2vN H228 i228_53 cal200 ob11 (Nat.le_of_ble_eq_true rfl) (Nat.le_of_ble_eq_true rfl) (Nat.lt_of_lt_of_le (by decide) hd) (fun q hq => c200 hq) h (fun x10 s9 h => ?_)
        refine Ev.iload_n H228 i228_56 rfl ?_
        refine Ev.iadd H228 i228_57 ?_
        refine Rd.min H228 i228_58 (Nat.le_of_ble_eq_true rfl) ?_
        refine Rd.iastore H228 i228_61 ar_513 h (fun s11 h => ?_)
        refine Ev.iconst H228 i228_62 kI_1 ?_
        exact Rd.ireturnK H228 i228_63 rfl (Or.inr rfl) h
      · refine Ev.iconst H228 i228_36 kI_0 ?_
        exact Rd.ireturnK H228 i228_37 rfl (Or.inl rfl) h
    · refine Ev.iconst H228 i228_21 kI_0 ?_
      exact Rd.ireturnK H228 i228_22 rfl (Or.inl rfl) h
theorem i229_0 : mm_cd 229 0 = some (.aload_n 0, 1, 0, 0) := rfl
theorem i229_1 : mm_cd 229 1 = some (.ldc 154, 2, 0, 1) := rfl
theorem i229_3 : mm_cd 229 3 = some (.invokevirtual 115, 3, 0, 218) := rfl
theorem i229_6 : mm_cd 229 6 = some (.ifCond .eq 8, 3, 0, 0) := rfl
theorem i229_9 : mm_cd 229 9 = some (.aload_n 0, 1, 0, 0) := rfl
theorem i229_10 : mm_cd 229 10 = some (.invokevirtual 156, 3, 0, 227) := rfl
theorem i229_13 : mm_cd 229 13 = some (.ireturn, 1, 0, 0) := rfl
theorem i229_14 : mm_cd 229 14 = some (.aload_n 0, 1, 0, 0) := rfl
theorem i229_15 : mm_cd 229 15 = some (.ldc 159, 2, 0, 5) := rfl
theorem i229_17 : mm_cd 229 17 = some (.invokevirtual 115, 3, 0, 218) := rfl
theorem i229_20 : mm_cd 229 20 = some (.ifCond .eq 8, 3, 0, 0) := rfl
theorem i229_23 : mm_cd 229 23 = some (.aload_n 0, 1, 0, 0) := rfl
theorem i229_24 : mm_cd 229 24 = some (.invokevirtual 161, 3, 0, 228) := rfl
theorem i229_27 : mm_cd 229 27 = some (.ireturn, 1, 0, 0) := rfl
theorem i229_28 : mm_cd 229 28 = some (.aload_n 0, 1, 0, 0) := rfl
theorem i229_29 : mm_cd 229 29 = some (.ldc 164, 2, 0, 6) := rfl
theorem i229_31 : mm_cd 229 31 = some (.invokevirtual 115, 3, 0, 218) := rfl
theorem i229_34 : mm_cd 229 34 = some (.ifCond .eq 12, 3, 0, 0) := rfl
theorem i229_37 : mm_cd 229 37 = some (.aload_n 0, 1, 0, 0) := rfl
theorem i229_38 : mm_cd 229 38 = some (.iconst 4, 1, 0, 0) := rfl
theorem i229_39 : mm_cd 229 39 = some (.iconst 0, 1, 0, 0) := rfl
theorem i229_40 : mm_cd 229 40 = some (.bipush 6, 2, 0, 0) := rfl
theorem i229_42 : mm_cd 229 42 = some (.invokevirtual 166, 3, 0, 225) := rfl
theorem i229_45 : mm_cd 229 45 = some (.ireturn, 1, 0, 0) := rfl
theorem i229_46 : mm_cd 229 46 = some (.aload_n 0, 1, 0, 0) := rfl
theorem i229_47 : mm_cd 229 47 = some (.ldc 170, 2, 0, 7) := rfl
theorem i229_49 : mm_cd 229 49 = some (.invokevirtual 115, 3, 0, 218) := rfl
theorem i229_52 : mm_cd 229 52 = some (.ifCond .eq 19, 3, 0, 0) := rfl
theorem i229_55 : mm_cd 229 55 = some (.aload_n 0, 1, 0, 0) := rfl
theorem i229_56 : mm_cd 229 56 = some (.iconst 5, 1, 0, 0) := rfl
theorem i229_57 : mm_cd 229 57 = some (.iconst 0, 1, 0, 0) := rfl
theorem i229_58 : mm_cd 229 58 = some (.sipush 999, 3, 0, 0) := rfl
theorem i229_61 : mm_cd 229 61 = some (.invokevirtual 166, 3, 0, 225) := rfl
theorem i229_64 : mm_cd 229 64 = some (.ifCond .eq 7, 3, 0, 0) := rfl
theorem i229_67 : mm_cd 229 67 = some (.iconst 1, 1, 0, 0) := rfl
theorem i229_68 : mm_cd 229 68 = some (.goto 4, 3, 0, 0) := rfl
theorem i229_71 : mm_cd 229 71 = some (.iconst 0, 1, 0, 0) := rfl
theorem i229_72 : mm_cd 229 72 = some (.ireturn, 1, 0, 0) := rfl
/-- SerialGateModel.readStoreLine()Z -/
def q229 (s : mS) : Option mQ := bN (q218 0 s) fun x2 s1 => if x2 = 0 then (bN (q218 4 s1) fun x4 s3 => if x4 = 0 then (bN (q218 5 s3) fun x6 s5 => if x6 = 0 then (bN (q218 6 s5) fun x8 s7 => if x8 = 0 then (rv (0 : Int32) s7) else (bN (q225 (5 : Int32) (0 : Int32) (999 : Int32) s7) fun x10 s9 => if x10 = 0 then (rv (0 : Int32) s9) else (rv (1 : Int32) s9))) else (bN (q225 (4 : Int32) (0 : Int32) (6 : Int32) s5) fun x12 s11 => gB x12 <| rv x12 s11)) else (bN (q228 s3) fun x14 s13 => gB x14 <| rv x14 s13)) else (bN (q227 s1) fun x16 s15 => gB x16 <| rv x16 s15)
theorem c229 {L : Nat} {xs : Nat → Int32} {s : mS} {r : mQ} (h : q229 s = some r) : ∀ d, 6 ≤ d → Cl L xs d 229 [.ref 512] (hp s) (hr r) := by
  intro d hd
  show Ev L xs d 229 0 [(0, .ref 512)] [] (hp s) (hr r)
  unfold q229 at h
  refine Ev.aload_n H229 i229_0 rfl ?_
  refine Ev.ldcT H229 i229_1 ?_
  refine Rd.cV1vN H229 i229_3 cal218 ob11 (Nat.le_of_ble_eq_true rfl) (Nat.le_of_ble_eq_true rfl) (Nat.lt_of_lt_of_le (by decide) hd) (fun q hq => c218 (by decide) hq) h (fun x2 s1 h => ?_)
  refine Rd.if_eq H229 i229_6 (t := 14) (by decide) h (fun hc h => ?_) (fun hc h => ?_)
  · refine Ev.aload_n H229 i229_14 rfl ?_
    refine Ev.ldcT H229 i229_15 ?_
    refine Rd.cV1vN H229 i229_17 cal218 ob11 (Nat.le_of_ble_eq_true rfl) (Nat.le_of_ble_eq_true rfl) (Nat.lt_of_lt_of_le (by decide) hd) (fun q hq => c218 (by decide) hq) h (fun x4 s3 h => ?_)
    refine Rd.if_eq H229 i229_20 (t := 28) (by decide) h (fun hc h => ?_) (fun hc h => ?_)
    · refine Ev.aload_n H229 i229_28 rfl ?_
      refine Ev.ldcT H229 i229_29 ?_
      refine Rd.cV1vN H229 i229_31 cal218 ob11 (Nat.le_of_ble_eq_true rfl) (Nat.le_of_ble_eq_true rfl) (Nat.lt_of_lt_of_le (by decide) hd) (fun q hq => c218 (by decide) hq) h (fun x6 s5 h => ?_)
      refine Rd.if_eq H229 i229_34 (t := 46) (by decide) h (fun hc h => ?_) (fun hc h => ?_)
      · refine Ev.aload_n H229 i229_46 rfl ?_
        refine Ev.ldcT H229 i229_47 ?_
        refine Rd.cV1vN H229 i229_49 cal218 ob11 (Nat.le_of_ble_eq_true rfl) (Nat.le_of_ble_eq_true rfl) (Nat.lt_of_lt_of_le (by decide) hd) (fun q hq => c218 (by decide) hq) h (fun x8 s7 h => ?_)
        refine Rd.if_eq H229 i229_52 (t := 71) (by decide) h (fun hc h => ?_) (fun hc h => ?_)
        · refine Ev.iconst H229 i229_71 kI_0 ?_
          exact Rd.ireturnK H229 i229_72 rfl (Or.inl rfl) h
        · refine Ev.aload_n H229 i229_55 rfl ?_
          refine Ev.iconst H229 i229_56 kI_5 ?_
          refine Ev.iconst H229 i229_57 kI_0 ?_
          refine Ev.sipush H229 i229_58 kS_999 ?_
          refine Rd.cV3vN H229 i229_61 cal225 ob11 (Nat.le_of_ble_eq_true rfl) (Nat.le_of_ble_eq_true rfl) (Nat.lt_of_lt_of_le (by decide) hd) (fun q hq => c225 hq) h (fun x10 s9 h => ?_)
          refine Rd.if_eq H229 i229_64 (t := 71) (by decide) h (fun hc h => ?_) (fun hc h => ?_)
          · refine Ev.iconst H229 i229_71 kI_0 ?_
            exact Rd.ireturnK H229 i229_72 rfl (Or.inl rfl) h
          · refine Ev.iconst H229 i229_67 kI_1 ?_
            refine Ev.goto H229 i229_68 (t := 72) (by decide) ?_
            exact Rd.ireturnK H229 i229_72 rfl (Or.inr rfl) h
      · refine Ev.aload_n H229 i229_37 rfl ?_
        refine Ev.iconst H229 i229_38 kI_4 ?_
        refine Ev.iconst H229 i229_39 kI_0 ?_
        refine Ev.bipush H229 i229_40 kB_6 ?_
        refine Rd.cV3vN H229 i229_42 cal225 ob11 (Nat.le_of_ble_eq_true rfl) (Nat.le_of_ble_eq_true rfl) (Nat.lt_of_lt_of_le (by decide) hd) (fun q hq => c225 hq) h (fun x12 s11 h => ?_)
        exact Rd.ireturnZ H229 i229_45 rfl h
    · refine Ev.aload_n H229 i229_23 rfl ?_
      refine Rd.cV0vN H229 i229_24 cal228 ob11 (Nat.le_of_ble_eq_true rfl) (Nat.le_of_ble_eq_true rfl) (Nat.lt_of_lt_of_le (by decide) hd) (fun q hq => c228 hq) h (fun x14 s13 h => ?_)
      exact Rd.ireturnZ H229 i229_27 rfl h
  · refine Ev.aload_n H229 i229_9 rfl ?_
    refine Rd.cV0vN H229 i229_10 cal227 ob11 (Nat.le_of_ble_eq_true rfl) (Nat.le_of_ble_eq_true rfl) (Nat.lt_of_lt_of_le (by decide) hd) (fun q hq => c227 hq) h (fun x16 s15 h => ?_)
    exact Rd.ireturnZ H229 i229_13 rfl h
theorem i230_0 : mm_cd 230 0 = some (.aload_n 0, 1, 0, 0) := rfl
theorem i230_1 : mm_cd 230 1 = some (.getfield 13, 3, ((11 : Nat) : Int), 1) := rfl
theorem i230_4 : mm_cd 230 4 = some (.sipush 1668, 3, 0, 0) := rfl
theorem i230_7 : mm_cd 230 7 = some (.iconst 2, 1, 0, 0) := rfl
theorem i230_8 : mm_cd 230 8 = some (.aload_n 0, 1, 0, 0) := rfl
theorem i230_9 : mm_cd 230 9 = some (.getfield 172, 3, ((11 : Nat) : Int), 16) := rfl
theorem i230_12 : mm_cd 230 12 = some (.imul, 1, 0, 0) := rfl
theorem i230_13 : mm_cd 230 13 = some (.iadd, 1, 0, 0) := rfl
theorem i230_14 : mm_cd 230 14 = some (.iload_n 1, 1, 0, 0) := rfl
theorem i230_15 : mm_cd 230 15 = some (.iastore, 1, 0, 0) := rfl
theorem i230_16 : mm_cd 230 16 = some (.aload_n 0, 1, 0, 0) := rfl
theorem i230_17 : mm_cd 230 17 = some (.getfield 13, 3, ((11 : Nat) : Int), 1) := rfl
theorem i230_20 : mm_cd 230 20 = some (.sipush 1668, 3, 0, 0) := rfl
theorem i230_23 : mm_cd 230 23 = some (.iconst 2, 1, 0, 0) := rfl
theorem i230_24 : mm_cd 230 24 = some (.aload_n 0, 1, 0, 0) := rfl
theorem i230_25 : mm_cd 230 25 = some (.getfield 172, 3, ((11 : Nat) : Int), 16) := rfl
theorem i230_28 : mm_cd 230 28 = some (.imul, 1, 0, 0) := rfl
theorem i230_29 : mm_cd 230 29 = some (.iadd, 1, 0, 0) := rfl
theorem i230_30 : mm_cd 230 30 = some (.iconst 1, 1, 0, 0) := rfl
theorem i230_31 : mm_cd 230 31 = some (.iadd, 1, 0, 0) := rfl
theorem i230_32 : mm_cd 230 32 = some (.iload_n 2, 1, 0, 0) := rfl
theorem i230_33 : mm_cd 230 33 = some (.iastore, 1, 0, 0) := rfl
theorem i230_34 : mm_cd 230 34 = some (.aload_n 0, 1, 0, 0) := rfl
theorem i230_35 : mm_cd 230 35 = some (.dup, 1, 0, 0) := rfl
theorem i230_36 : mm_cd 230 36 = some (.getfield 172, 3, ((11 : Nat) : Int), 16) := rfl
theorem i230_39 : mm_cd 230 39 = some (.iconst 1, 1, 0, 0) := rfl
theorem i230_40 : mm_cd 230 40 = some (.iadd, 1, 0, 0) := rfl
theorem i230_41 : mm_cd 230 41 = some (.putfield 172, 3, ((11 : Nat) : Int), 16) := rfl
theorem i230_44 : mm_cd 230 44 = some (.return_, 1, 0, 0) := rfl
/-- SerialGateModel.emits(II)V -/
def q230 (v1 : Int32) (v2 : Int32) (s : mS) : Option mQ := gA 2468 ((1668 : Int32) + ((2 : Int32) * (s.1 512 16))) <| sp (sI s 513 ((1668 : Int32) + ((2 : Int32) * (s.1 512 16))).toNatClampNeg v1) fun s1 => gA 2468 (((1668 : Int32) + ((2 : Int32) * (s1.1 512 16))) + (1 : Int32)) <| sp (sI s1 513 (((1668 : Int32) + ((2 : Int32) * (s1.1 512 16))) + (1 : Int32)).toNatClampNeg v2) fun s2 => sp (sI s2 512 16 ((s2.1 512 16) + (1 : Int32))) fun s3 => ru s3
theorem c230 {L : Nat} {xs : Nat → Int32} {v1 : Int32} {v2 : Int32} {s : mS} {r : mQ} (h : q230 v1 v2 s = some r) : ∀ d, 0 ≤ d → Cl L xs d 230 [.ref 512, .int v1, .int v2] (hp s) (hr r) := by
  intro d hd
  show Ev L xs d 230 0 [(0, .ref 512), (1, .int v1), (2, .int v2)] [] (hp s) (hr r)
  unfold q230 at h
  refine Ev.aload_n H230 i230_0 rfl ?_
  refine Rd.getR H230 i230_1 ob11 rfl ?_
  refine Ev.sipush H230 i230_4 kS_1668 ?_
  refine Ev.iconst H230 i230_7 kI_2 ?_
  refine Ev.aload_n H230 i230_8 rfl ?_
  refine Rd.getI H230 i230_9 ob11 rfl ?_
  refine Ev.imul H230 i230_12 ?_
  refine Ev.iadd H230 i230_13 ?_
  refine Ev.iload_n H230 i230_14 rfl ?_
  refine Rd.iastore H230 i230_15 ar_513 h (fun s1 h => ?_)
  refine Ev.aload_n H230 i230_16 rfl ?_
  refine Rd.getR H230 i230_17 ob11 rfl ?_
  refine Ev.sipush H230 i230_20 kS_1668 ?_
  refine Ev.iconst H230 i230_23 kI_2 ?_
  refine Ev.aload_n H230 i230_24 rfl ?_
  refine Rd.getI H230 i230_25 ob11 rfl ?_
  refine Ev.imul H230 i230_28 ?_
  refine Ev.iadd H230 i230_29 ?_
  refine Ev.iconst H230 i230_30 kI_1 ?_
  refine Ev.iadd H230 i230_31 ?_
  refine Ev.iload_n H230 i230_32 rfl ?_
  refine Rd.iastore H230 i230_33 ar_513 h (fun s2 h => ?_)
  refine Ev.aload_n H230 i230_34 rfl ?_
  refine Ev.dup H230 i230_35 rfl ?_
  refine Rd.getI H230 i230_36 ob11 rfl ?_
  refine Ev.iconst H230 i230_39 kI_1 ?_
  refine Ev.iadd H230 i230_40 ?_
  refine Rd.putI H230 i230_41 ob11 rfl ty11_16.1 ty11_16.2 h (fun s3 h => ?_)
  exact Rd.return_ H230 i230_44 rfl h
theorem i231_0 : mm_cd 231 0 = some (.aload_n 0, 1, 0, 0) := rfl
theorem i231_1 : mm_cd 231 1 = some (.ldc 175, 2, 0, 17) := rfl
theorem i231_3 : mm_cd 231 3 = some (.invokevirtual 115, 3, 0, 218) := rfl
theorem i231_6 : mm_cd 231 6 = some (.ifCond .eq 5, 3, 0, 0) := rfl
theorem i231_9 : mm_cd 231 9 = some (.iconst 0, 1, 0, 0) := rfl
theorem i231_10 : mm_cd 231 10 = some (.ireturn, 1, 0, 0) := rfl
theorem i231_11 : mm_cd 231 11 = some (.aload_n 0, 1, 0, 0) := rfl
theorem i231_12 : mm_cd 231 12 = some (.ldc 154, 2, 0, 1) := rfl
theorem i231_14 : mm_cd 231 14 = some (.invokevirtual 115, 3, 0, 218) := rfl
theorem i231_17 : mm_cd 231 17 = some (.ifCond .eq 5, 3, 0, 0) := rfl
theorem i231_20 : mm_cd 231 20 = some (.iconst 1, 1, 0, 0) := rfl
theorem i231_21 : mm_cd 231 21 = some (.ireturn, 1, 0, 0) := rfl
theorem i231_22 : mm_cd 231 22 = some (.aload_n 0, 1, 0, 0) := rfl
theorem i231_23 : mm_cd 231 23 = some (.ldc 177, 2, 0, 18) := rfl
theorem i231_25 : mm_cd 231 25 = some (.invokevirtual 115, 3, 0, 218) := rfl
theorem i231_28 : mm_cd 231 28 = some (.ifCond .eq 5, 3, 0, 0) := rfl
theorem i231_31 : mm_cd 231 31 = some (.iconst 2, 1, 0, 0) := rfl
theorem i231_32 : mm_cd 231 32 = some (.ireturn, 1, 0, 0) := rfl
theorem i231_33 : mm_cd 231 33 = some (.aload_n 0, 1, 0, 0) := rfl
theorem i231_34 : mm_cd 231 34 = some (.ldc 132, 2, 0, 2) := rfl
theorem i231_36 : mm_cd 231 36 = some (.invokevirtual 115, 3, 0, 218) := rfl
theorem i231_39 : mm_cd 231 39 = some (.ifCond .eq 5, 3, 0, 0) := rfl
theorem i231_42 : mm_cd 231 42 = some (.iconst 3, 1, 0, 0) := rfl
theorem i231_43 : mm_cd 231 43 = some (.ireturn, 1, 0, 0) := rfl
theorem i231_44 : mm_cd 231 44 = some (.aload_n 0, 1, 0, 0) := rfl
theorem i231_45 : mm_cd 231 45 = some (.ldc 138, 2, 0, 3) := rfl
theorem i231_47 : mm_cd 231 47 = some (.invokevirtual 115, 3, 0, 218) := rfl
theorem i231_50 : mm_cd 231 50 = some (.ifCond .eq 5, 3, 0, 0) := rfl
theorem i231_53 : mm_cd 231 53 = some (.iconst 4, 1, 0, 0) := rfl
theorem i231_54 : mm_cd 231 54 = some (.ireturn, 1, 0, 0) := rfl
theorem i231_55 : mm_cd 231 55 = some (.aload_n 0, 1, 0, 0) := rfl
theorem i231_56 : mm_cd 231 56 = some (.ldc 179, 2, 0, 19) := rfl
theorem i231_58 : mm_cd 231 58 = some (.invokevirtual 115, 3, 0, 218) := rfl
theorem i231_61 : mm_cd 231 61 = some (.ifCond .eq 5, 3, 0, 0) := rfl
theorem i231_64 : mm_cd 231 64 = some (.iconst 5, 1, 0, 0) := rfl
theorem i231_65 : mm_cd 231 65 = some (.ireturn, 1, 0, 0) := rfl
theorem i231_66 : mm_cd 231 66 = some (.aload_n 0, 1, 0, 0) := rfl
theorem i231_67 : mm_cd 231 67 = some (.ldc 181, 2, 0, 20) := rfl
theorem i231_69 : mm_cd 231 69 = some (.invokevirtual 115, 3, 0, 218) := rfl
theorem i231_72 : mm_cd 231 72 = some (.ifCond .eq 8, 3, 0, 0) := rfl
theorem i231_75 : mm_cd 231 75 = some (.bipush 6, 2, 0, 0) := rfl
theorem i231_77 : mm_cd 231 77 = some (.goto 4, 3, 0, 0) := rfl
theorem i231_80 : mm_cd 231 80 = some (.iconst (-1), 1, 0, 0) := rfl
theorem i231_81 : mm_cd 231 81 = some (.ireturn, 1, 0, 0) := rfl
/-- SerialGateModel.wordOfPart()I -/
def q231 (s : mS) : Option mQ := bN (q218 16 s) fun x2 s1 => if x2 = 0 then (bN (q218 0 s1) fun x4 s3 => if x4 = 0 then (bN (q218 17 s3) fun x6 s5 => if x6 = 0 then (bN (q218 1 s5) fun x8 s7 => if x8 = 0 then (bN (q218 2 s7) fun x10 s9 => if x10 = 0 then (bN (q218 18 s9) fun x12 s11 => if x12 = 0 then (bN (q218 19 s11) fun x14 s13 => if x14 = 0 then (rv (-1 : Int32) s13) else (rv (6 : Int32) s13)) else (rv (5 : Int32) s11)) else (rv (4 : Int32) s9)) else (rv (3 : Int32) s7)) else (rv (2 : Int32) s5)) else (rv (1 : Int32) s3)) else (rv (0 : Int32) s1)
theorem c231 {L : Nat} {xs : Nat → Int32} {s : mS} {r : mQ} (h : q231 s = some r) : ∀ d, 1 ≤ d → Cl L xs d 231 [.ref 512] (hp s) (hr r) := by
  intro d hd
  show Ev L xs d 231 0 [(0, .ref 512)] [] (hp s) (hr r)
  unfold q231 at h
  refine Ev.aload_n H231 i231_0 rfl ?_
  refine Ev.ldcT H231 i231_1 ?_
  refine Rd.cV1vN H231 i231_3 cal218 ob11 (Nat.le_of_ble_eq_true rfl) (Nat.le_of_ble_eq_true rfl) (Nat.lt_of_lt_of_le (by decide) hd) (fun q hq => c218 (by decide) hq) h (fun x2 s1 h => ?_)
  refine Rd.if_eq H231 i231_6 (t := 11) (by decide) h (fun hc h => ?_) (fun hc h => ?_)
  · refine Ev.aload_n H231 i231_11 rfl ?_
    refine Ev.ldcT H231 i231_12 ?_
    refine Rd.cV1vN H231 i231_14 cal218 ob11 (Nat.le_of_ble_eq_true rfl) (Nat.le_of_ble_eq_true rfl) (Nat.lt_of_lt_of_le (by decide) hd) (fun q hq => c218 (by decide) hq) h (fun x4 s3 h => ?_)
    refine Rd.if_eq H231 i231_17 (t := 22) (by decide) h (fun hc h => ?_) (fun hc h => ?_)
    · refine Ev.aload_n H231 i231_22 rfl ?_
      refine Ev.ldcT H231 i231_23 ?_
      refine Rd.cV1vN H231 i231_25 cal218 ob11 (Nat.le_of_ble_eq_true rfl) (Nat.le_of_ble_eq_true rfl) (Nat.lt_of_lt_of_le (by decide) hd) (fun q hq => c218 (by decide) hq) h (fun x6 s5 h => ?_)
      refine Rd.if_eq H231 i231_28 (t := 33) (by decide) h (fun hc h => ?_) (fun hc h => ?_)
      · refine Ev.aload_n H231 i231_33 rfl ?_
        refine Ev.ldcT H231 i231_34 ?_
        refine Rd.cV1vN H231 i231_36 cal218 ob11 (Nat.le_of_ble_eq_true rfl) (Nat.le_of_ble_eq_true rfl) (Nat.lt_of_lt_of_le (by decide) hd) (fun q hq => c218 (by decide) hq) h (fun x8 s7 h => ?_)
        refine Rd.if_eq H231 i231_39 (t := 44) (by decide) h (fun hc h => ?_) (fun hc h => ?_)
        · refine Ev.aload_n H231 i231_44 rfl ?_
          refine Ev.ldcT H231 i231_45 ?_
          refine Rd.cV1vN H231 i231_47 cal218 ob11 (Nat.le_of_ble_eq_true rfl) (Nat.le_of_ble_eq_true rfl) (Nat.lt_of_lt_of_le (by decide) hd) (fun q hq => c218 (by decide) hq) h (fun x10 s9 h => ?_)
          refine Rd.if_eq H231 i231_50 (t := 55) (by decide) h (fun hc h => ?_) (fun hc h => ?_)
          · refine Ev.aload_n H231 i231_55 rfl ?_
            refine Ev.ldcT H231 i231_56 ?_
            refine Rd.cV1vN H231 i231_58 cal218 ob11 (Nat.le_of_ble_eq_true rfl) (Nat.le_of_ble_eq_true rfl) (Nat.lt_of_lt_of_le (by decide) hd) (fun q hq => c218 (by decide) hq) h (fun x12 s11 h => ?_)
            refine Rd.if_eq H231 i231_61 (t := 66) (by decide) h (fun hc h => ?_) (fun hc h => ?_)
            · refine Ev.aload_n H231 i231_66 rfl ?_
              refine Ev.ldcT H231 i231_67 ?_
              refine Rd.cV1vN H231 i231_69 cal218 ob11 (Nat.le_of_ble_eq_true rfl) (Nat.le_of_ble_eq_true rfl) (Nat.lt_of_lt_of_le (by decide) hd) (fun q hq => c218 (by decide) hq) h (fun x14 s13 h => ?_)
              refine Rd.if_eq H231 i231_72 (t := 80) (by decide) h (fun hc h => ?_) (fun hc h => ?_)
              · refine Ev.iconst H231 i231_80 kI_m1 ?_
                exact Rd.ireturn H231 i231_81 rfl h
              · refine Ev.bipush H231 i231_75 kB_6 ?_
                refine Ev.goto H231 i231_77 (t := 81) (by decide) ?_
                exact Rd.ireturn H231 i231_81 rfl h
            · refine Ev.iconst H231 i231_64 kI_5 ?_
              exact Rd.ireturn H231 i231_65 rfl h
          · refine Ev.iconst H231 i231_53 kI_4 ?_
            exact Rd.ireturn H231 i231_54 rfl h
        · refine Ev.iconst H231 i231_42 kI_3 ?_
          exact Rd.ireturn H231 i231_43 rfl h
      · refine Ev.iconst H231 i231_31 kI_2 ?_
        exact Rd.ireturn H231 i231_32 rfl h
    · refine Ev.iconst H231 i231_20 kI_1 ?_
      exact Rd.ireturn H231 i231_21 rfl h
  · refine Ev.iconst H231 i231_9 kI_0 ?_
    exact Rd.ireturn H231 i231_10 rfl h
theorem i232_0 : mm_cd 232 0 = some (.aload_n 0, 1, 0, 0) := rfl
theorem i232_1 : mm_cd 232 1 = some (.invokevirtual 112, 3, 0, 217) := rfl
theorem i232_4 : mm_cd 232 4 = some (.aload_n 0, 1, 0, 0) := rfl
theorem i232_5 : mm_cd 232 5 = some (.getfield 87, 3, ((11 : Nat) : Int), 10) := rfl
theorem i232_8 : mm_cd 232 8 = some (.aload_n 0, 1, 0, 0) := rfl
theorem i232_9 : mm_cd 232 9 = some (.getfield 96, 3, ((11 : Nat) : Int), 12) := rfl
theorem i232_12 : mm_cd 232 12 = some (.if_icmp .ne 7, 3, 0, 0) := rfl
theorem i232_15 : mm_cd 232 15 = some (.iconst 1, 1, 0, 0) := rfl
theorem i232_16 : mm_cd 232 16 = some (.goto 4, 3, 0, 0) := rfl
theorem i232_19 : mm_cd 232 19 = some (.iconst 0, 1, 0, 0) := rfl
theorem i232_20 : mm_cd 232 20 = some (.istore_n 1, 1, 0, 0) := rfl
theorem i232_21 : mm_cd 232 21 = some (.iload_n 1, 1, 0, 0) := rfl
theorem i232_22 : mm_cd 232 22 = some (.ifCond .eq 14, 3, 0, 0) := rfl
theorem i232_25 : mm_cd 232 25 = some (.aload_n 0, 1, 0, 0) := rfl
theorem i232_26 : mm_cd 232 26 = some (.iconst 0, 1, 0, 0) := rfl
theorem i232_27 : mm_cd 232 27 = some (.sipush 999, 3, 0, 0) := rfl
theorem i232_30 : mm_cd 232 30 = some (.invokevirtual 119, 3, 0, 221) := rfl
theorem i232_33 : mm_cd 232 33 = some (.goto 7, 3, 0, 0) := rfl
theorem i232_36 : mm_cd 232 36 = some (.aload_n 0, 1, 0, 0) := rfl
theorem i232_37 : mm_cd 232 37 = some (.invokevirtual 183, 3, 0, 231) := rfl
theorem i232_40 : mm_cd 232 40 = some (.istore_n 2, 1, 0, 0) := rfl
theorem i232_41 : mm_cd 232 41 = some (.aload_n 0, 1, 0, 0) := rfl
theorem i232_42 : mm_cd 232 42 = some (.iload_n 1, 1, 0, 0) := rfl
theorem i232_43 : mm_cd 232 43 = some (.ifCond .eq 8, 3, 0, 0) := rfl
theorem i232_46 : mm_cd 232 46 = some (.bipush 10, 2, 0, 0) := rfl
theorem i232_48 : mm_cd 232 48 = some (.goto 4, 3, 0, 0) := rfl
theorem i232_51 : mm_cd 232 51 = some (.iload_n 2, 1, 0, 0) := rfl
theorem i232_52 : mm_cd 232 52 = some (.iload_n 1, 1, 0, 0) := rfl
theorem i232_53 : mm_cd 232 53 = some (.ifCond .eq 7, 3, 0, 0) := rfl
theorem i232_56 : mm_cd 232 56 = some (.iload_n 2, 1, 0, 0) := rfl
theorem i232_57 : mm_cd 232 57 = some (.goto 4, 3, 0, 0) := rfl
theorem i232_60 : mm_cd 232 60 = some (.iconst 0, 1, 0, 0) := rfl
theorem i232_61 : mm_cd 232 61 = some (.invokevirtual 186, 3, 0, 230) := rfl
theorem i232_64 : mm_cd 232 64 = some (.iload_n 2, 1, 0, 0) := rfl
theorem i232_65 : mm_cd 232 65 = some (.ifCond .lt 7, 3, 0, 0) := rfl
theorem i232_68 : mm_cd 232 68 = some (.iconst 1, 1, 0, 0) := rfl
theorem i232_69 : mm_cd 232 69 = some (.goto 4, 3, 0, 0) := rfl
theorem i232_72 : mm_cd 232 72 = some (.iconst 0, 1, 0, 0) := rfl
theorem i232_73 : mm_cd 232 73 = some (.ireturn, 1, 0, 0) := rfl
def q232_61 (v2 : Int32) (y1 : Int32) (y2 : Int32) (s : mS) : Option mQ := bM (q230 y1 y2 s) fun s1 => if v2 < 0 then (rv (0 : Int32) s1) else (rv (1 : Int32) s1)
theorem t232_61 {L : Nat} {xs : Nat → Int32} {d : Nat} (hd : 3 ≤ d) {v2 : Int32} {y1 : Int32} {y2 : Int32} {s : mS} {r : mQ} (h : q232_61 v2 y1 y2 s = some r) : Ev L xs d 232 61 [(2, .int v2)] [.int y2, .int y1, .ref 512] (hp s) (hr r) := by
  unfold q232_61 at h
  refine Rd.cV2uN H232 i232_61 cal230 ob11 (Nat.le_of_ble_eq_true rfl) (Nat.le_of_ble_eq_true rfl) (Nat.lt_of_lt_of_le (by decide) hd) (fun q hq => c230 hq) h (fun s1 h => ?_)
  refine Ev.iload_n H232 i232_64 rfl ?_
  refine Rd.if_lt H232 i232_65 (t := 72) (by decide) h (fun hc h => ?_) (fun hc h => ?_)
  · refine Ev.iconst H232 i232_72 kI_0 ?_
    exact Rd.ireturnK H232 i232_73 rfl (Or.inl rfl) h
  · refine Ev.iconst H232 i232_68 kI_1 ?_
    refine Ev.goto H232 i232_69 (t := 73) (by decide) ?_
    exact Rd.ireturnK H232 i232_73 rfl (Or.inr rfl) h
def q232_52 (v1 : Int32) (v2 : Int32) (y1 : Int32) (s : mS) : Option mQ := if v1 = 0 then (q232_61 v2 y1 (0 : Int32) s) else (q232_61 v2 y1 v2 s)
theorem t232_52 {L : Nat} {xs : Nat → Int32} {d : Nat} (hd : 3 ≤ d) {v1 : Int32} {v2 : Int32} {y1 : Int32} {s : mS} {r : mQ} (h : q232_52 v1 v2 y1 s = some r) : Ev L xs d 232 52 [(1, .int v1), (2, .int v2)] [.int y1, .ref 512] (hp s) (hr r) := by
  unfold q232_52 at h
  refine Ev.iload_n H232 i232_52 rfl ?_
  refine Rd.if_eq H232 i232_53 (t := 60) (by decide) h (fun hc h => ?_) (fun hc h => ?_)
  · refine Ev.iconst H232 i232_60 kI_0 ?_
    exact Ev.sub (l := [(2, .int v2)]) rfl rfl (mm_sub_c rfl mm_sub_n) (t232_61 hd h)
  · refine Ev.iload_n H232 i232_56 rfl ?_
    refine Ev.goto H232 i232_57 (t := 61) (by decide) ?_
    exact Ev.sub (l := [(2, .int v2)]) rfl rfl (mm_sub_c rfl mm_sub_n) (t232_61 hd h)
def q232_40 (v1 : Int32) (y0 : Int32) (s : mS) : Option mQ := if v1 = 0 then (q232_52 v1 y0 y0 s) else (q232_52 v1 y0 (10 : Int32) s)
theorem t232_40 {L : Nat} {xs : Nat → Int32} {d : Nat} (hd : 3 ≤ d) {v1 : Int32} {y0 : Int32} {s : mS} {r : mQ} (h : q232_40 v1 y0 s = some r) : Ev L xs d 232 40 [(0, .ref 512), (1, .int v1)] [.int y0] (hp s) (hr r) := by
  unfold q232_40 at h
  refine Ev.istore_n H232 i232_40 (Nat.le_of_ble_eq_true rfl) (lv2 := [(2, .int y0), (0, .ref 512), (1, .int v1)]) rfl ?_
  refine Ev.aload_n H232 i232_41 rfl ?_
  refine Ev.iload_n H232 i232_42 rfl ?_
  refine Rd.if_eq H232 i232_43 (t := 51) (by decide) h (fun hc h => ?_) (fun hc h => ?_)
  · refine Ev.iload_n H232 i232_51 rfl ?_
    exact Ev.sub (l := [(1, .int v1), (2, .int y0)]) rfl rfl (mm_sub_c rfl (mm_sub_c rfl mm_sub_n)) (t232_52 hd h)
  · refine Ev.bipush H232 i232_46 kB_10 ?_
    refine Ev.goto H232 i232_48 (t := 52) (by decide) ?_
    exact Ev.sub (l := [(1, .int v1), (2, .int y0)]) rfl rfl (mm_sub_c rfl (mm_sub_c rfl mm_sub_n)) (t232_52 hd h)
def q232_20 (y0 : Int32) (s : mS) : Option mQ := if y0 = 0 then (bN (q231 s) fun x3 s2 => q232_40 y0 x3 s2) else (bN (q221 (0 : Int32) (999 : Int32) s) fun x5 s4 => q232_40 y0 x5 s4)
theorem t232_20 {L : Nat} {xs : Nat → Int32} {d : Nat} (hd : 3 ≤ d) {y0 : Int32} {s : mS} {r : mQ} (h : q232_20 y0 s = some r) : Ev L xs d 232 20 [(0, .ref 512)] [.int y0] (hp s) (hr r) := by
  unfold q232_20 at h
  refine Ev.istore_n H232 i232_20 (Nat.le_of_ble_eq_true rfl) (lv2 := [(1, .int y0), (0, .ref 512)]) rfl ?_
  refine Ev.iload_n H232 i232_21 rfl ?_
  refine Rd.if_eq H232 i232_22 (t := 36) (by decide) h (fun hc h => ?_) (fun hc h => ?_)
  · refine Ev.aload_n H232 i232_36 rfl ?_
    refine Rd.cV0vN H232 i232_37 cal231 ob11 (Nat.le_of_ble_eq_true rfl) (Nat.le_of_ble_eq_true rfl) (Nat.lt_of_lt_of_le (by decide) hd) (fun q hq => c231 hq) h (fun x3 s2 h => ?_)
    exact Ev.sub (l := [(0, .ref 512), (1, .int y0)]) rfl rfl (mm_sub_c rfl (mm_sub_c rfl mm_sub_n)) (t232_40 hd h)
  · refine Ev.aload_n H232 i232_25 rfl ?_
    refine Ev.iconst H232 i232_26 kI_0 ?_
    refine Ev.sipush H232 i232_27 kS_999 ?_
    refine Rd.cV2vN H232 i232_30 cal221 ob11 (Nat.le_of_ble_eq_true rfl) (Nat.le_of_ble_eq_true rfl) (Nat.lt_of_lt_of_le (by decide) hd) (fun q hq => c221 hq) h (fun x5 s4 h => ?_)
    refine Ev.goto H232 i232_33 (t := 40) (by decide) ?_
    exact Ev.sub (l := [(0, .ref 512), (1, .int y0)]) rfl rfl (mm_sub_c rfl (mm_sub_c rfl mm_sub_n)) (t232_40 hd h)
/-- SerialGateModel.readPart()Z -/
def q232 (s : mS) : Option mQ := bM (q217 s) fun s6 => if ¬ (s6.1 512 10) = (s6.1 512 12) then (q232_20 (0 : Int32) s6) else (q232_20 (1 : Int32) s6)
theorem c232 {L : Nat} {xs : Nat → Int32} {s : mS} {r : mQ} (h : q232 s = some r) : ∀ d, 3 ≤ d → Cl L xs d 232 [.ref 512] (hp s) (hr r) := by
  intro d hd
  show Ev L xs d 232 0 [(0, .ref 512)] [] (hp s) (hr r)
  unfold q232 at h
  refine Ev.aload_n H232 i232_0 rfl ?_
  refine Rd.cV0uN H232 i232_1 cal217 ob11 (Nat.le_of_ble_eq_true rfl) (Nat.le_of_ble_eq_true rfl) (Nat.lt_of_lt_of_le (by decide) hd) (fun q hq => c217 hq) h (fun s6 h => ?_)
  refine Ev.aload_n H232 i232_4 rfl ?_
  refine Rd.getI H232 i232_5 ob11 rfl ?_
  refine Ev.aload_n H232 i232_8 rfl ?_
  refine Rd.getI H232 i232_9 ob11 rfl ?_
  refine Rd.ic_ne H232 i232_12 (t := 19) (by decide) h (fun hc h => ?_) (fun hc h => ?_)
  · refine Ev.iconst H232 i232_19 kI_0 ?_
    exact Ev.sub (l := [(0, .ref 512)]) rfl rfl (mm_sub_c rfl mm_sub_n) (t232_20 hd h)
  · refine Ev.iconst H232 i232_15 kI_1 ?_
    refine Ev.goto H232 i232_16 (t := 20) (by decide) ?_
    exact Ev.sub (l := [(0, .ref 512)]) rfl rfl (mm_sub_c rfl mm_sub_n) (t232_20 hd h)
theorem i233_0 : mm_cd 233 0 = some (.aload_n 0, 1, 0, 0) := rfl
theorem i233_1 : mm_cd 233 1 = some (.invokevirtual 190, 3, 0, 232) := rfl
theorem i233_4 : mm_cd 233 4 = some (.ifCond .ne 5, 3, 0, 0) := rfl
theorem i233_7 : mm_cd 233 7 = some (.iconst 0, 1, 0, 0) := rfl
theorem i233_8 : mm_cd 233 8 = some (.ireturn, 1, 0, 0) := rfl
theorem i233_9 : mm_cd 233 9 = some (.aload_n 0, 1, 0, 0) := rfl
theorem i233_10 : mm_cd 233 10 = some (.bipush 43, 2, 0, 0) := rfl
theorem i233_12 : mm_cd 233 12 = some (.invokevirtual 193, 3, 0, 220) := rfl
theorem i233_15 : mm_cd 233 15 = some (.ifCond .eq 22, 3, 0, 0) := rfl
theorem i233_18 : mm_cd 233 18 = some (.aload_n 0, 1, 0, 0) := rfl
theorem i233_19 : mm_cd 233 19 = some (.invokevirtual 190, 3, 0, 232) := rfl
theorem i233_22 : mm_cd 233 22 = some (.ifCond .ne 5, 3, 0, 0) := rfl
theorem i233_25 : mm_cd 233 25 = some (.iconst 0, 1, 0, 0) := rfl
theorem i233_26 : mm_cd 233 26 = some (.ireturn, 1, 0, 0) := rfl
theorem i233_27 : mm_cd 233 27 = some (.aload_n 0, 1, 0, 0) := rfl
theorem i233_28 : mm_cd 233 28 = some (.bipush 11, 2, 0, 0) := rfl
theorem i233_30 : mm_cd 233 30 = some (.iconst 0, 1, 0, 0) := rfl
theorem i233_31 : mm_cd 233 31 = some (.invokevirtual 186, 3, 0, 230) := rfl
theorem i233_34 : mm_cd 233 34 = some (.goto (-25), 3, 0, 0) := rfl
theorem i233_37 : mm_cd 233 37 = some (.iconst 1, 1, 0, 0) := rfl
theorem i233_38 : mm_cd 233 38 = some (.ireturn, 1, 0, 0) := rfl
def q233_9 : Nat → mS → Option mQ
  | 0, _ => none
  | n + 1, s => bN (q220 (43 : Int32) s) fun x2 s1 => if x2 = 0 then (rv (1 : Int32) s1) else (bN (q232 s1) fun x4 s3 => if ¬ x4 = 0 then (bM (q230 (11 : Int32) (0 : Int32) s3) fun s5 => q233_9 n s5) else (rv (0 : Int32) s3))
theorem t233_9 {L : Nat} {xs : Nat → Int32} {d : Nat} (hd : 4 ≤ d) : ∀ (n : Nat) (s : mS) (r : mQ), q233_9 n s = some r → Ev L xs d 233 9 [(0, .ref 512)] [] (hp s) (hr r) := by
  intro n
  induction n with
  | zero => intro s r h; rw [q233_9] at h; cases h
  | succ n ih =>
    intro s r h
    rw [q233_9] at h
    refine Ev.aload_n H233 i233_9 rfl ?_
    refine Ev.bipush H233 i233_10 kB_43 ?_
    refine Rd.cV1vN H233 i233_12 cal220 ob11 (Nat.le_of_ble_eq_true rfl) (Nat.le_of_ble_eq_true rfl) (Nat.lt_of_lt_of_le (by decide) hd) (fun q hq => c220 hq) h (fun x2 s1 h => ?_)
    refine Rd.if_eq H233 i233_15 (t := 37) (by decide) h (fun hc h => ?_) (fun hc h => ?_)
    · refine Ev.iconst H233 i233_37 kI_1 ?_
      exact Rd.ireturnK H233 i233_38 rfl (Or.inr rfl) h
    · refine Ev.aload_n H233 i233_18 rfl ?_
      refine Rd.cV0vN H233 i233_19 cal232 ob11 (Nat.le_of_ble_eq_true rfl) (Nat.le_of_ble_eq_true rfl) (Nat.lt_of_lt_of_le (by decide) hd) (fun q hq => c232 hq) h (fun x4 s3 h => ?_)
      refine Rd.if_ne H233 i233_22 (t := 27) (by decide) h (fun hc h => ?_) (fun hc h => ?_)
      · refine Ev.aload_n H233 i233_27 rfl ?_
        refine Ev.bipush H233 i233_28 kB_11 ?_
        refine Ev.iconst H233 i233_30 kI_0 ?_
        refine Rd.cV2uN H233 i233_31 cal230 ob11 (Nat.le_of_ble_eq_true rfl) (Nat.le_of_ble_eq_true rfl) (Nat.lt_of_lt_of_le (by decide) hd) (fun q hq => c230 hq) h (fun s5 h => ?_)
        refine Ev.goto H233 i233_34 (t := 9) (by decide) ?_
        exact Ev.sub (l := [(0, .ref 512)]) rfl rfl (mm_sub_c rfl mm_sub_n) (ih _ _ h)
      · refine Ev.iconst H233 i233_25 kI_0 ?_
        exact Rd.ireturnK H233 i233_26 rfl (Or.inl rfl) h
/-- SerialGateModel.readSum()Z -/
def q233 (s : mS) : Option mQ := bN (q232 s) fun x7 s6 => if ¬ x7 = 0 then (q233_9 10000 s6) else (rv (0 : Int32) s6)
theorem c233 {L : Nat} {xs : Nat → Int32} {s : mS} {r : mQ} (h : q233 s = some r) : ∀ d, 4 ≤ d → Cl L xs d 233 [.ref 512] (hp s) (hr r) := by
  intro d hd
  show Ev L xs d 233 0 [(0, .ref 512)] [] (hp s) (hr r)
  unfold q233 at h
  refine Ev.aload_n H233 i233_0 rfl ?_
  refine Rd.cV0vN H233 i233_1 cal232 ob11 (Nat.le_of_ble_eq_true rfl) (Nat.le_of_ble_eq_true rfl) (Nat.lt_of_lt_of_le (by decide) hd) (fun q hq => c232 hq) h (fun x7 s6 h => ?_)
  refine Rd.if_ne H233 i233_4 (t := 9) (by decide) h (fun hc h => ?_) (fun hc h => ?_)
  · exact Ev.sub (l := [(0, .ref 512)]) rfl rfl (mm_sub_c rfl mm_sub_n) (t233_9 hd 10000 _ _ h)
  · refine Ev.iconst H233 i233_7 kI_0 ?_
    exact Rd.ireturnK H233 i233_8 rfl (Or.inl rfl) h
theorem i234_0 : mm_cd 234 0 = some (.aload_n 0, 1, 0, 0) := rfl
theorem i234_1 : mm_cd 234 1 = some (.invokevirtual 112, 3, 0, 217) := rfl
theorem i234_4 : mm_cd 234 4 = some (.aload_n 0, 1, 0, 0) := rfl
theorem i234_5 : mm_cd 234 5 = some (.ldc 140, 2, 0, 4) := rfl
theorem i234_7 : mm_cd 234 7 = some (.invokevirtual 115, 3, 0, 218) := rfl
theorem i234_10 : mm_cd 234 10 = some (.ifCond .eq 8, 3, 0, 0) := rfl
theorem i234_13 : mm_cd 234 13 = some (.bipush 7, 2, 0, 0) := rfl
theorem i234_15 : mm_cd 234 15 = some (.goto 32, 3, 0, 0) := rfl
theorem i234_18 : mm_cd 234 18 = some (.aload_n 0, 1, 0, 0) := rfl
theorem i234_19 : mm_cd 234 19 = some (.ldc 196, 2, 0, 15) := rfl
theorem i234_21 : mm_cd 234 21 = some (.invokevirtual 115, 3, 0, 218) := rfl
theorem i234_24 : mm_cd 234 24 = some (.ifCond .eq 8, 3, 0, 0) := rfl
theorem i234_27 : mm_cd 234 27 = some (.bipush 8, 2, 0, 0) := rfl
theorem i234_29 : mm_cd 234 29 = some (.goto 18, 3, 0, 0) := rfl
theorem i234_32 : mm_cd 234 32 = some (.aload_n 0, 1, 0, 0) := rfl
theorem i234_33 : mm_cd 234 33 = some (.ldc 198, 2, 0, 16) := rfl
theorem i234_35 : mm_cd 234 35 = some (.invokevirtual 115, 3, 0, 218) := rfl
theorem i234_38 : mm_cd 234 38 = some (.ifCond .eq 8, 3, 0, 0) := rfl
theorem i234_41 : mm_cd 234 41 = some (.bipush 9, 2, 0, 0) := rfl
theorem i234_43 : mm_cd 234 43 = some (.goto 4, 3, 0, 0) := rfl
theorem i234_46 : mm_cd 234 46 = some (.iconst (-1), 1, 0, 0) := rfl
theorem i234_47 : mm_cd 234 47 = some (.istore_n 1, 1, 0, 0) := rfl
theorem i234_48 : mm_cd 234 48 = some (.iload_n 1, 1, 0, 0) := rfl
theorem i234_49 : mm_cd 234 49 = some (.ifCond .lt 12, 3, 0, 0) := rfl
theorem i234_52 : mm_cd 234 52 = some (.aload_n 0, 1, 0, 0) := rfl
theorem i234_53 : mm_cd 234 53 = some (.iload_n 1, 1, 0, 0) := rfl
theorem i234_54 : mm_cd 234 54 = some (.iconst 0, 1, 0, 0) := rfl
theorem i234_55 : mm_cd 234 55 = some (.invokevirtual 186, 3, 0, 230) := rfl
theorem i234_58 : mm_cd 234 58 = some (.goto 11, 3, 0, 0) := rfl
theorem i234_61 : mm_cd 234 61 = some (.aload_n 0, 1, 0, 0) := rfl
theorem i234_62 : mm_cd 234 62 = some (.aload_n 0, 1, 0, 0) := rfl
theorem i234_63 : mm_cd 234 63 = some (.getfield 96, 3, ((11 : Nat) : Int), 12) := rfl
theorem i234_66 : mm_cd 234 66 = some (.putfield 87, 3, ((11 : Nat) : Int), 10) := rfl
theorem i234_69 : mm_cd 234 69 = some (.iload_n 1, 1, 0, 0) := rfl
theorem i234_70 : mm_cd 234 70 = some (.ifCond .lt 7, 3, 0, 0) := rfl
theorem i234_73 : mm_cd 234 73 = some (.iconst 1, 1, 0, 0) := rfl
theorem i234_74 : mm_cd 234 74 = some (.goto 4, 3, 0, 0) := rfl
theorem i234_77 : mm_cd 234 77 = some (.iconst 0, 1, 0, 0) := rfl
theorem i234_78 : mm_cd 234 78 = some (.ireturn, 1, 0, 0) := rfl
def q234_69 (v1 : Int32) (s : mS) : Option mQ := if v1 < 0 then (rv (0 : Int32) s) else (rv (1 : Int32) s)
theorem t234_69 {L : Nat} {xs : Nat → Int32} {d : Nat} (hd : 3 ≤ d) {v1 : Int32} {s : mS} {r : mQ} (h : q234_69 v1 s = some r) : Ev L xs d 234 69 [(1, .int v1)] [] (hp s) (hr r) := by
  unfold q234_69 at h
  refine Ev.iload_n H234 i234_69 rfl ?_
  refine Rd.if_lt H234 i234_70 (t := 77) (by decide) h (fun hc h => ?_) (fun hc h => ?_)
  · refine Ev.iconst H234 i234_77 kI_0 ?_
    exact Rd.ireturnK H234 i234_78 rfl (Or.inl rfl) h
  · refine Ev.iconst H234 i234_73 kI_1 ?_
    refine Ev.goto H234 i234_74 (t := 78) (by decide) ?_
    exact Rd.ireturnK H234 i234_78 rfl (Or.inr rfl) h
def q234_47 (y0 : Int32) (s : mS) : Option mQ := if y0 < 0 then (sp (sI s 512 10 (s.1 512 12)) fun s1 => q234_69 y0 s1) else (bM (q230 y0 (0 : Int32) s) fun s2 => q234_69 y0 s2)
theorem t234_47 {L : Nat} {xs : Nat → Int32} {d : Nat} (hd : 3 ≤ d) {y0 : Int32} {s : mS} {r : mQ} (h : q234_47 y0 s = some r) : Ev L xs d 234 47 [(0, .ref 512)] [.int y0] (hp s) (hr r) := by
  unfold q234_47 at h
  refine Ev.istore_n H234 i234_47 (Nat.le_of_ble_eq_true rfl) (lv2 := [(1, .int y0), (0, .ref 512)]) rfl ?_
  refine Ev.iload_n H234 i234_48 rfl ?_
  refine Rd.if_lt H234 i234_49 (t := 61) (by decide) h (fun hc h => ?_) (fun hc h => ?_)
  · refine Ev.aload_n H234 i234_61 rfl ?_
    refine Ev.aload_n H234 i234_62 rfl ?_
    refine Rd.getI H234 i234_63 ob11 rfl ?_
    refine Rd.putI H234 i234_66 ob11 rfl ty11_10.1 ty11_10.2 h (fun s1 h => ?_)
    exact Ev.sub (l := [(1, .int y0)]) rfl rfl (mm_sub_c rfl mm_sub_n) (t234_69 hd h)
  · refine Ev.aload_n H234 i234_52 rfl ?_
    refine Ev.iload_n H234 i234_53 rfl ?_
    refine Ev.iconst H234 i234_54 kI_0 ?_
    refine Rd.cV2uN H234 i234_55 cal230 ob11 (Nat.le_of_ble_eq_true rfl) (Nat.le_of_ble_eq_true rfl) (Nat.lt_of_lt_of_le (by decide) hd) (fun q hq => c230 hq) h (fun s2 h => ?_)
    refine Ev.goto H234 i234_58 (t := 69) (by decide) ?_
    exact Ev.sub (l := [(1, .int y0)]) rfl rfl (mm_sub_c rfl mm_sub_n) (t234_69 hd h)
/-- SerialGateModel.readTag()Z -/
def q234 (s : mS) : Option mQ := bM (q217 s) fun s3 => bN (q218 3 s3) fun x5 s4 => if x5 = 0 then (bN (q218 14 s4) fun x7 s6 => if x7 = 0 then (bN (q218 15 s6) fun x9 s8 => if x9 = 0 then (q234_47 (-1 : Int32) s8) else (q234_47 (9 : Int32) s8)) else (q234_47 (8 : Int32) s6)) else (q234_47 (7 : Int32) s4)
theorem c234 {L : Nat} {xs : Nat → Int32} {s : mS} {r : mQ} (h : q234 s = some r) : ∀ d, 3 ≤ d → Cl L xs d 234 [.ref 512] (hp s) (hr r) := by
  intro d hd
  show Ev L xs d 234 0 [(0, .ref 512)] [] (hp s) (hr r)
  unfold q234 at h
  refine Ev.aload_n H234 i234_0 rfl ?_
  refine Rd.cV0uN H234 i234_1 cal217 ob11 (Nat.le_of_ble_eq_true rfl) (Nat.le_of_ble_eq_true rfl) (Nat.lt_of_lt_of_le (by decide) hd) (fun q hq => c217 hq) h (fun s3 h => ?_)
  refine Ev.aload_n H234 i234_4 rfl ?_
  refine Ev.ldcT H234 i234_5 ?_
  refine Rd.cV1vN H234 i234_7 cal218 ob11 (Nat.le_of_ble_eq_true rfl) (Nat.le_of_ble_eq_true rfl) (Nat.lt_of_lt_of_le (by decide) hd) (fun q hq => c218 (by decide) hq) h (fun x5 s4 h => ?_)
  refine Rd.if_eq H234 i234_10 (t := 18) (by decide) h (fun hc h => ?_) (fun hc h => ?_)
  · refine Ev.aload_n H234 i234_18 rfl ?_
    refine Ev.ldcT H234 i234_19 ?_
    refine Rd.cV1vN H234 i234_21 cal218 ob11 (Nat.le_of_ble_eq_true rfl) (Nat.le_of_ble_eq_true rfl) (Nat.lt_of_lt_of_le (by decide) hd) (fun q hq => c218 (by decide) hq) h (fun x7 s6 h => ?_)
    refine Rd.if_eq H234 i234_24 (t := 32) (by decide) h (fun hc h => ?_) (fun hc h => ?_)
    · refine Ev.aload_n H234 i234_32 rfl ?_
      refine Ev.ldcT H234 i234_33 ?_
      refine Rd.cV1vN H234 i234_35 cal218 ob11 (Nat.le_of_ble_eq_true rfl) (Nat.le_of_ble_eq_true rfl) (Nat.lt_of_lt_of_le (by decide) hd) (fun q hq => c218 (by decide) hq) h (fun x9 s8 h => ?_)
      refine Rd.if_eq H234 i234_38 (t := 46) (by decide) h (fun hc h => ?_) (fun hc h => ?_)
      · refine Ev.iconst H234 i234_46 kI_m1 ?_
        exact Ev.sub (l := [(0, .ref 512)]) rfl rfl (mm_sub_c rfl mm_sub_n) (t234_47 hd h)
      · refine Ev.bipush H234 i234_41 kB_9 ?_
        refine Ev.goto H234 i234_43 (t := 47) (by decide) ?_
        exact Ev.sub (l := [(0, .ref 512)]) rfl rfl (mm_sub_c rfl mm_sub_n) (t234_47 hd h)
    · refine Ev.bipush H234 i234_27 kB_8 ?_
      refine Ev.goto H234 i234_29 (t := 47) (by decide) ?_
      exact Ev.sub (l := [(0, .ref 512)]) rfl rfl (mm_sub_c rfl mm_sub_n) (t234_47 hd h)
  · refine Ev.bipush H234 i234_13 kB_7 ?_
    refine Ev.goto H234 i234_15 (t := 47) (by decide) ?_
    exact Ev.sub (l := [(0, .ref 512)]) rfl rfl (mm_sub_c rfl mm_sub_n) (t234_47 hd h)
theorem i235_0 : mm_cd 235 0 = some (.aload_n 0, 1, 0, 0) := rfl
theorem i235_1 : mm_cd 235 1 = some (.bipush 40, 2, 0, 0) := rfl
theorem i235_3 : mm_cd 235 3 = some (.invokevirtual 193, 3, 0, 220) := rfl
theorem i235_6 : mm_cd 235 6 = some (.ifCond .eq 50, 3, 0, 0) := rfl
theorem i235_9 : mm_cd 235 9 = some (.aload_n 0, 1, 0, 0) := rfl
theorem i235_10 : mm_cd 235 10 = some (.getfield 200, 3, ((11 : Nat) : Int), 13) := rfl
theorem i235_13 : mm_cd 235 13 = some (.bipush 6, 2, 0, 0) := rfl
theorem i235_15 : mm_cd 235 15 = some (.if_icmp .ne 5, 3, 0, 0) := rfl
theorem i235_18 : mm_cd 235 18 = some (.iconst 0, 1, 0, 0) := rfl
theorem i235_19 : mm_cd 235 19 = some (.ireturn, 1, 0, 0) := rfl
theorem i235_20 : mm_cd 235 20 = some (.aload_n 0, 1, 0, 0) := rfl
theorem i235_21 : mm_cd 235 21 = some (.dup, 1, 0, 0) := rfl
theorem i235_22 : mm_cd 235 22 = some (.getfield 200, 3, ((11 : Nat) : Int), 13) := rfl
theorem i235_25 : mm_cd 235 25 = some (.iconst 1, 1, 0, 0) := rfl
theorem i235_26 : mm_cd 235 26 = some (.iadd, 1, 0, 0) := rfl
theorem i235_27 : mm_cd 235 27 = some (.putfield 200, 3, ((11 : Nat) : Int), 13) := rfl
theorem i235_30 : mm_cd 235 30 = some (.aload_n 0, 1, 0, 0) := rfl
theorem i235_31 : mm_cd 235 31 = some (.invokevirtual 203, 3, 0, 237) := rfl
theorem i235_34 : mm_cd 235 34 = some (.ifCond .ne 5, 3, 0, 0) := rfl
theorem i235_37 : mm_cd 235 37 = some (.iconst 0, 1, 0, 0) := rfl
theorem i235_38 : mm_cd 235 38 = some (.ireturn, 1, 0, 0) := rfl
theorem i235_39 : mm_cd 235 39 = some (.aload_n 0, 1, 0, 0) := rfl
theorem i235_40 : mm_cd 235 40 = some (.dup, 1, 0, 0) := rfl
theorem i235_41 : mm_cd 235 41 = some (.getfield 200, 3, ((11 : Nat) : Int), 13) := rfl
theorem i235_44 : mm_cd 235 44 = some (.iconst 1, 1, 0, 0) := rfl
theorem i235_45 : mm_cd 235 45 = some (.isub, 1, 0, 0) := rfl
theorem i235_46 : mm_cd 235 46 = some (.putfield 200, 3, ((11 : Nat) : Int), 13) := rfl
theorem i235_49 : mm_cd 235 49 = some (.aload_n 0, 1, 0, 0) := rfl
theorem i235_50 : mm_cd 235 50 = some (.bipush 41, 2, 0, 0) := rfl
theorem i235_52 : mm_cd 235 52 = some (.invokevirtual 193, 3, 0, 220) := rfl
theorem i235_55 : mm_cd 235 55 = some (.ireturn, 1, 0, 0) := rfl
theorem i235_56 : mm_cd 235 56 = some (.aload_n 0, 1, 0, 0) := rfl
theorem i235_57 : mm_cd 235 57 = some (.ldc 206, 2, 0, 14) := rfl
theorem i235_59 : mm_cd 235 59 = some (.invokevirtual 122, 3, 0, 219) := rfl
theorem i235_62 : mm_cd 235 62 = some (.ifCond .eq 52, 3, 0, 0) := rfl
theorem i235_65 : mm_cd 235 65 = some (.aload_n 0, 1, 0, 0) := rfl
theorem i235_66 : mm_cd 235 66 = some (.getfield 200, 3, ((11 : Nat) : Int), 13) := rfl
theorem i235_69 : mm_cd 235 69 = some (.bipush 6, 2, 0, 0) := rfl
theorem i235_71 : mm_cd 235 71 = some (.if_icmp .ne 5, 3, 0, 0) := rfl
theorem i235_74 : mm_cd 235 74 = some (.iconst 0, 1, 0, 0) := rfl
theorem i235_75 : mm_cd 235 75 = some (.ireturn, 1, 0, 0) := rfl
theorem i235_76 : mm_cd 235 76 = some (.aload_n 0, 1, 0, 0) := rfl
theorem i235_77 : mm_cd 235 77 = some (.dup, 1, 0, 0) := rfl
theorem i235_78 : mm_cd 235 78 = some (.getfield 200, 3, ((11 : Nat) : Int), 13) := rfl
theorem i235_81 : mm_cd 235 81 = some (.iconst 1, 1, 0, 0) := rfl
theorem i235_82 : mm_cd 235 82 = some (.iadd, 1, 0, 0) := rfl
theorem i235_83 : mm_cd 235 83 = some (.putfield 200, 3, ((11 : Nat) : Int), 13) := rfl
theorem i235_86 : mm_cd 235 86 = some (.aload_n 0, 1, 0, 0) := rfl
theorem i235_87 : mm_cd 235 87 = some (.invokevirtual 208, 3, 0, 235) := rfl
theorem i235_90 : mm_cd 235 90 = some (.ifCond .ne 5, 3, 0, 0) := rfl
theorem i235_93 : mm_cd 235 93 = some (.iconst 0, 1, 0, 0) := rfl
theorem i235_94 : mm_cd 235 94 = some (.ireturn, 1, 0, 0) := rfl
theorem i235_95 : mm_cd 235 95 = some (.aload_n 0, 1, 0, 0) := rfl
theorem i235_96 : mm_cd 235 96 = some (.dup, 1, 0, 0) := rfl
theorem i235_97 : mm_cd 235 97 = some (.getfield 200, 3, ((11 : Nat) : Int), 13) := rfl
theorem i235_100 : mm_cd 235 100 = some (.iconst 1, 1, 0, 0) := rfl
theorem i235_101 : mm_cd 235 101 = some (.isub, 1, 0, 0) := rfl
theorem i235_102 : mm_cd 235 102 = some (.putfield 200, 3, ((11 : Nat) : Int), 13) := rfl
theorem i235_105 : mm_cd 235 105 = some (.aload_n 0, 1, 0, 0) := rfl
theorem i235_106 : mm_cd 235 106 = some (.bipush 14, 2, 0, 0) := rfl
theorem i235_108 : mm_cd 235 108 = some (.iconst 0, 1, 0, 0) := rfl
theorem i235_109 : mm_cd 235 109 = some (.invokevirtual 186, 3, 0, 230) := rfl
theorem i235_112 : mm_cd 235 112 = some (.iconst 1, 1, 0, 0) := rfl
theorem i235_113 : mm_cd 235 113 = some (.ireturn, 1, 0, 0) := rfl
theorem i235_114 : mm_cd 235 114 = some (.aload_n 0, 1, 0, 0) := rfl
theorem i235_115 : mm_cd 235 115 = some (.invokevirtual 211, 3, 0, 234) := rfl
theorem i235_118 : mm_cd 235 118 = some (.ifCond .eq 5, 3, 0, 0) := rfl
theorem i235_121 : mm_cd 235 121 = some (.iconst 1, 1, 0, 0) := rfl
theorem i235_122 : mm_cd 235 122 = some (.ireturn, 1, 0, 0) := rfl
theorem i235_123 : mm_cd 235 123 = some (.aload_n 0, 1, 0, 0) := rfl
theorem i235_124 : mm_cd 235 124 = some (.invokevirtual 214, 3, 0, 233) := rfl
theorem i235_127 : mm_cd 235 127 = some (.ifCond .ne 5, 3, 0, 0) := rfl
theorem i235_130 : mm_cd 235 130 = some (.iconst 0, 1, 0, 0) := rfl
theorem i235_131 : mm_cd 235 131 = some (.ireturn, 1, 0, 0) := rfl
theorem i235_132 : mm_cd 235 132 = some (.aload_n 0, 1, 0, 0) := rfl
theorem i235_133 : mm_cd 235 133 = some (.bipush 60, 2, 0, 0) := rfl
theorem i235_135 : mm_cd 235 135 = some (.invokevirtual 193, 3, 0, 220) := rfl
theorem i235_138 : mm_cd 235 138 = some (.istore_n 1, 1, 0, 0) := rfl
theorem i235_139 : mm_cd 235 139 = some (.iload_n 1, 1, 0, 0) := rfl
theorem i235_140 : mm_cd 235 140 = some (.ifCond .ne 12, 3, 0, 0) := rfl
theorem i235_143 : mm_cd 235 143 = some (.aload_n 0, 1, 0, 0) := rfl
theorem i235_144 : mm_cd 235 144 = some (.bipush 62, 2, 0, 0) := rfl
theorem i235_146 : mm_cd 235 146 = some (.invokevirtual 193, 3, 0, 220) := rfl
theorem i235_149 : mm_cd 235 149 = some (.ifCond .eq 10, 3, 0, 0) := rfl
theorem i235_152 : mm_cd 235 152 = some (.aload_n 0, 1, 0, 0) := rfl
theorem i235_153 : mm_cd 235 153 = some (.invokevirtual 214, 3, 0, 233) := rfl
theorem i235_156 : mm_cd 235 156 = some (.ifCond .ne 5, 3, 0, 0) := rfl
theorem i235_159 : mm_cd 235 159 = some (.iconst 0, 1, 0, 0) := rfl
theorem i235_160 : mm_cd 235 160 = some (.ireturn, 1, 0, 0) := rfl
theorem i235_161 : mm_cd 235 161 = some (.aload_n 0, 1, 0, 0) := rfl
theorem i235_162 : mm_cd 235 162 = some (.iload_n 1, 1, 0, 0) := rfl
theorem i235_163 : mm_cd 235 163 = some (.ifCond .eq 8, 3, 0, 0) := rfl
theorem i235_166 : mm_cd 235 166 = some (.bipush 12, 2, 0, 0) := rfl
theorem i235_168 : mm_cd 235 168 = some (.goto 5, 3, 0, 0) := rfl
theorem i235_171 : mm_cd 235 171 = some (.bipush 13, 2, 0, 0) := rfl
theorem i235_173 : mm_cd 235 173 = some (.iconst 0, 1, 0, 0) := rfl
theorem i235_174 : mm_cd 235 174 = some (.invokevirtual 186, 3, 0, 230) := rfl
theorem i235_177 : mm_cd 235 177 = some (.iconst 1, 1, 0, 0) := rfl
theorem i235_178 : mm_cd 235 178 = some (.ireturn, 1, 0, 0) := rfl
def q235_173 (R235 : mS → Option mQ) (R237 : mS → Option mQ) (y1 : Int32) (s : mS) : Option mQ := bM (q230 y1 (0 : Int32) s) fun s1 => rv (1 : Int32) s1
theorem t235_173 {L : Nat} {xs : Nat → Int32} {d dr : Nat} {R235 : mS → Option mQ} {R237 : mS → Option mQ} (hR235 : ∀ {s : mS} {q : mQ}, R235 s = some q → ∀ e, dr ≤ e → Cl L xs e 235 [.ref 512] (hp s) (hr q)) (hR237 : ∀ {s : mS} {q : mQ}, R237 s = some q → ∀ e, dr ≤ e → Cl L xs e 237 [.ref 512] (hp s) (hr q)) (hdr : dr < d) (hd : 5 ≤ d) {y1 : Int32} {s : mS} {r : mQ} (h : q235_173 R235 R237 y1 s = some r) : Ev L xs d 235 173 [] [.int y1, .ref 512] (hp s) (hr r) := by
  unfold q235_173 at h
  refine Ev.iconst H235 i235_173 kI_0 ?_
  refine Rd.cV2uN H235 i235_174 cal230 ob11 (Nat.le_of_ble_eq_true rfl) (Nat.le_of_ble_eq_true rfl) (Nat.lt_of_lt_of_le (by decide) hd) (fun q hq => c230 hq) h (fun s1 h => ?_)
  refine Ev.iconst H235 i235_177 kI_1 ?_
  exact Rd.ireturnK H235 i235_178 rfl (Or.inr rfl) h
def q235_152 (R235 : mS → Option mQ) (R237 : mS → Option mQ) (v1 : Int32) (s : mS) : Option mQ := bN (q233 s) fun x3 s2 => if ¬ x3 = 0 then (if v1 = 0 then (q235_173 R235 R237 (13 : Int32) s2) else (q235_173 R235 R237 (12 : Int32) s2)) else (rv (0 : Int32) s2)
theorem t235_152 {L : Nat} {xs : Nat → Int32} {d dr : Nat} {R235 : mS → Option mQ} {R237 : mS → Option mQ} (hR235 : ∀ {s : mS} {q : mQ}, R235 s = some q → ∀ e, dr ≤ e → Cl L xs e 235 [.ref 512] (hp s) (hr q)) (hR237 : ∀ {s : mS} {q : mQ}, R237 s = some q → ∀ e, dr ≤ e → Cl L xs e 237 [.ref 512] (hp s) (hr q)) (hdr : dr < d) (hd : 5 ≤ d) {v1 : Int32} {s : mS} {r : mQ} (h : q235_152 R235 R237 v1 s = some r) : Ev L xs d 235 152 [(0, .ref 512), (1, .int v1)] [] (hp s) (hr r) := by
  unfold q235_152 at h
  refine Ev.aload_n H235 i235_152 rfl ?_
  refine Rd.cV0vN H235 i235_153 cal233 ob11 (Nat.le_of_ble_eq_true rfl) (Nat.le_of_ble_eq_true rfl) (Nat.lt_of_lt_of_le (by decide) hd) (fun q hq => c233 hq) h (fun x3 s2 h => ?_)
  refine Rd.if_ne H235 i235_156 (t := 161) (by decide) h (fun hc h => ?_) (fun hc h => ?_)
  · refine Ev.aload_n H235 i235_161 rfl ?_
    refine Ev.iload_n H235 i235_162 rfl ?_
    refine Rd.if_eq H235 i235_163 (t := 171) (by decide) h (fun hc h => ?_) (fun hc h => ?_)
    · refine Ev.bipush H235 i235_171 kB_13 ?_
      exact Ev.sub (l := []) rfl rfl mm_sub_n (t235_173 hR235 hR237 hdr hd h)
    · refine Ev.bipush H235 i235_166 kB_12 ?_
      refine Ev.goto H235 i235_168 (t := 173) (by decide) ?_
      exact Ev.sub (l := []) rfl rfl mm_sub_n (t235_173 hR235 hR237 hdr hd h)
  · refine Ev.iconst H235 i235_159 kI_0 ?_
    exact Rd.ireturnK H235 i235_160 rfl (Or.inl rfl) h
/-- SerialGateModel.readAtom()Z -/
def q235F (R235 : mS → Option mQ) (R237 : mS → Option mQ) (s : mS) : Option mQ := bN (q220 (40 : Int32) s) fun x5 s4 => if x5 = 0 then (bN (q219 13 s4) fun x7 s6 => if x7 = 0 then (bN (q234 s6) fun x9 s8 => if x9 = 0 then (bN (q233 s8) fun x11 s10 => if ¬ x11 = 0 then (bN (q220 (60 : Int32) s10) fun x13 s12 => if ¬ x13 = 0 then (q235_152 R235 R237 x13 s12) else (bN (q220 (62 : Int32) s12) fun x15 s14 => if x15 = 0 then (rv (0 : Int32) s14) else (q235_152 R235 R237 x13 s14))) else (rv (0 : Int32) s10)) else (rv (1 : Int32) s8)) else (if ¬ (s6.1 512 13) = (6 : Int32) then (sp (sI s6 512 13 ((s6.1 512 13) + (1 : Int32))) fun s16 => bN (R235 s16) fun x18 s17 => if ¬ x18 = 0 then (sp (sI s17 512 13 ((s17.1 512 13) - (1 : Int32))) fun s19 => bM (q230 (14 : Int32) (0 : Int32) s19) fun s20 => rv (1 : Int32) s20) else (rv (0 : Int32) s17)) else (rv (0 : Int32) s6))) else (if ¬ (s4.1 512 13) = (6 : Int32) then (sp (sI s4 512 13 ((s4.1 512 13) + (1 : Int32))) fun s21 => bN (R237 s21) fun x23 s22 => if ¬ x23 = 0 then (sp (sI s22 512 13 ((s22.1 512 13) - (1 : Int32))) fun s24 => bN (q220 (41 : Int32) s24) fun x26 s25 => gB x26 <| rv x26 s25) else (rv (0 : Int32) s22)) else (rv (0 : Int32) s4))
theorem c235F {L : Nat} {xs : Nat → Int32} {dr : Nat} {R235 : mS → Option mQ} {R237 : mS → Option mQ} (hR235 : ∀ {s : mS} {q : mQ}, R235 s = some q → ∀ e, dr ≤ e → Cl L xs e 235 [.ref 512] (hp s) (hr q)) (hR237 : ∀ {s : mS} {q : mQ}, R237 s = some q → ∀ e, dr ≤ e → Cl L xs e 237 [.ref 512] (hp s) (hr q)) {s : mS} {r : mQ} (h : q235F R235 R237 s = some r) : ∀ d, 5 ≤ d → dr < d → Cl L xs d 235 [.ref 512] (hp s) (hr r) := by
  intro d hd hdr
  show Ev L xs d 235 0 [(0, .ref 512)] [] (hp s) (hr r)
  unfold q235F at h
  refine Ev.aload_n H235 i235_0 rfl ?_
  refine Ev.bipush H235 i235_1 kB_40 ?_
  refine Rd.cV1vN H235 i235_3 cal220 ob11 (Nat.le_of_ble_eq_true rfl) (Nat.le_of_ble_eq_true rfl) (Nat.lt_of_lt_of_le (by decide) hd) (fun q hq => c220 hq) h (fun x5 s4 h => ?_)
  refine Rd.if_eq H235 i235_6 (t := 56) (by decide) h (fun hc h => ?_) (fun hc h => ?_)
  · refine Ev.aload_n H235 i235_56 rfl ?_
    refine Ev.ldcT H235 i235_57 ?_
    refine Rd.cV1vN H235 i235_59 cal219 ob11 (Nat.le_of_ble_eq_true rfl) (Nat.le_of_ble_eq_true rfl) (Nat.lt_of_lt_of_le (by decide) hd) (fun q hq => c219 (by decide) hq) h (fun x7 s6 h => ?_)
    refine Rd.if_eq H235 i235_62 (t := 114) (by decide) h (fun hc h => ?_) (fun hc h => ?_)
    · refine Ev.aload_n H235 i235_114 rfl ?_
      refine Rd.cV0vN H235 i235_115 cal234 ob11 (Nat.le_of_ble_eq_true rfl) (Nat.le_of_ble_eq_true rfl) (Nat.lt_of_lt_of_le (by decide) hd) (fun q hq => c234 hq) h (fun x9 s8 h => ?_)
      refine Rd.if_eq H235 i235_118 (t := 123) (by decide) h (fun hc h => ?_) (fun hc h => ?_)
      · refine Ev.aload_n H235 i235_123 rfl ?_
        refine Rd.cV0vN H235 i235_124 cal233 ob11 (Nat.le_of_ble_eq_true rfl) (Nat.le_of_ble_eq_true rfl) (Nat.lt_of_lt_of_le (by decide) hd) (fun q hq => c233 hq) h (fun x11 s10 h => ?_)
        refine Rd.if_ne H235 i235_127 (t := 132) (by decide) h (fun hc h => ?_) (fun hc h => ?_)
        · refine Ev.aload_n H235 i235_132 rfl ?_
          refine Ev.bipush H235 i235_133 kB_60 ?_
          refine Rd.cV1vN H235 i235_135 cal220 ob11 (Nat.le_of_ble_eq_true rfl) (Nat.le_of_ble_eq_true rfl) (Nat.lt_of_lt_of_le (by decide) hd) (fun q hq => c220 hq) h (fun x13 s12 h => ?_)
          refine Ev.istore_n H235 i235_138 (Nat.le_of_ble_eq_true rfl) (lv2 := [(1, .int x13), (0, .ref 512)]) rfl ?_
          refine Ev.iload_n H235 i235_139 rfl ?_
          refine Rd.if_ne H235 i235_140 (t := 152) (by decide) h (fun hc h => ?_) (fun hc h => ?_)
          · exact Ev.sub (l := [(0, .ref 512), (1, .int x13)]) rfl rfl (mm_sub_c rfl (mm_sub_c rfl mm_sub_n)) (t235_152 hR235 hR237 hdr hd h)
          · refine Ev.aload_n H235 i235_143 rfl ?_
            refine Ev.bipush H235 i235_144 kB_62 ?_
            refine Rd.cV1vN H235 i235_146 cal220 ob11 (Nat.le_of_ble_eq_true rfl) (Nat.le_of_ble_eq_true rfl) (Nat.lt_of_lt_of_le (by decide) hd) (fun q hq => c220 hq) h (fun x15 s14 h => ?_)
            refine Rd.if_eq H235 i235_149 (t := 159) (by decide) h (fun hc h => ?_) (fun hc h => ?_)
            · refine Ev.iconst H235 i235_159 kI_0 ?_
              exact Rd.ireturnK H235 i235_160 rfl (Or.inl rfl) h
            · exact Ev.sub (l := [(0, .ref 512), (1, .int x13)]) rfl rfl (mm_sub_c rfl (mm_sub_c rfl mm_sub_n)) (t235_152 hR235 hR237 hdr hd h)
        · refine Ev.iconst H235 i235_130 kI_0 ?_
          exact Rd.ireturnK H235 i235_131 rfl (Or.inl rfl) h
      · refine Ev.iconst H235 i235_121 kI_1 ?_
        exact Rd.ireturnK H235 i235_122 rfl (Or.inr rfl) h
    · refine Ev.aload_n H235 i235_65 rfl ?_
      refine Rd.getI H235 i235_66 ob11 rfl ?_
      refine Ev.bipush H235 i235_69 kB_6 ?_
      refine Rd.ic_ne H235 i235_71 (t := 76) (by decide) h (fun hc h => ?_) (fun hc h => ?_)
      · refine Ev.aload_n H235 i235_76 rfl ?_
        refine Ev.dup H235 i235_77 rfl ?_
        refine Rd.getI H235 i235_78 ob11 rfl ?_
        refine Ev.iconst H235 i235_81 kI_1 ?_
        refine Ev.iadd H235 i235_82 ?_
        refine Rd.putI H235 i235_83 ob11 rfl ty11_13.1 ty11_13.2 h (fun s16 h => ?_)
        refine Ev.aload_n H235 i235_86 rfl ?_
        refine Rd.cV0vN H235 i235_87 cal235 ob11 (Nat.le_of_ble_eq_true rfl) (Nat.le_of_ble_eq_true rfl) hdr (fun q hq => hR235 hq) h (fun x18 s17 h => ?_)
        refine Rd.if_ne H235 i235_90 (t := 95) (by decide) h (fun hc h => ?_) (fun hc h => ?_)
        · refine Ev.aload_n H235 i235_95 rfl ?_
          refine Ev.dup H235 i235_96 rfl ?_
          refine Rd.getI H235 i235_97 ob11 rfl ?_
          refine Ev.iconst H235 i235_100 kI_1 ?_
          refine Ev.isub H235 i235_101 ?_
          refine Rd.putI H235 i235_102 ob11 rfl ty11_13.1 ty11_13.2 h (fun s19 h => ?_)
          refine Ev.aload_n H235 i235_105 rfl ?_
          refine Ev.bipush H235 i235_106 kB_14 ?_
          refine Ev.iconst H235 i235_108 kI_0 ?_
          refine Rd.cV2uN H235 i235_109 cal230 ob11 (Nat.le_of_ble_eq_true rfl) (Nat.le_of_ble_eq_true rfl) (Nat.lt_of_lt_of_le (by decide) hd) (fun q hq => c230 hq) h (fun s20 h => ?_)
          refine Ev.iconst H235 i235_112 kI_1 ?_
          exact Rd.ireturnK H235 i235_113 rfl (Or.inr rfl) h
        · refine Ev.iconst H235 i235_93 kI_0 ?_
          exact Rd.ireturnK H235 i235_94 rfl (Or.inl rfl) h
      · refine Ev.iconst H235 i235_74 kI_0 ?_
        exact Rd.ireturnK H235 i235_75 rfl (Or.inl rfl) h
  · refine Ev.aload_n H235 i235_9 rfl ?_
    refine Rd.getI H235 i235_10 ob11 rfl ?_
    refine Ev.bipush H235 i235_13 kB_6 ?_
    refine Rd.ic_ne H235 i235_15 (t := 20) (by decide) h (fun hc h => ?_) (fun hc h => ?_)
    · refine Ev.aload_n H235 i235_20 rfl ?_
      refine Ev.dup H235 i235_21 rfl ?_
      refine Rd.getI H235 i235_22 ob11 rfl ?_
      refine Ev.iconst H235 i235_25 kI_1 ?_
      refine Ev.iadd H235 i235_26 ?_
      refine Rd.putI H235 i235_27 ob11 rfl ty11_13.1 ty11_13.2 h (fun s21 h => ?_)
      refine Ev.aload_n H235 i235_30 rfl ?_
      refine Rd.cV0vN H235 i235_31 cal237 ob11 (Nat.le_of_ble_eq_true rfl) (Nat.le_of_ble_eq_true rfl) hdr (fun q hq => hR237 hq) h (fun x23 s22 h => ?_)
      refine Rd.if_ne H235 i235_34 (t := 39) (by decide) h (fun hc h => ?_) (fun hc h => ?_)
      · refine Ev.aload_n H235 i235_39 rfl ?_
        refine Ev.dup H235 i235_40 rfl ?_
        refine Rd.getI H235 i235_41 ob11 rfl ?_
        refine Ev.iconst H235 i235_44 kI_1 ?_
        refine Ev.isub H235 i235_45 ?_
        refine Rd.putI H235 i235_46 ob11 rfl ty11_13.1 ty11_13.2 h (fun s24 h => ?_)
        refine Ev.aload_n H235 i235_49 rfl ?_
        refine Ev.bipush H235 i235_50 kB_41 ?_
        refine Rd.cV1vN H235 i235_52 cal220 ob11 (Nat.le_of_ble_eq_true rfl) (Nat.le_of_ble_eq_true rfl) (Nat.lt_of_lt_of_le (by decide) hd) (fun q hq => c220 hq) h (fun x26 s25 h => ?_)
        exact Rd.ireturnZ H235 i235_55 rfl h
      · refine Ev.iconst H235 i235_37 kI_0 ?_
        exact Rd.ireturnK H235 i235_38 rfl (Or.inl rfl) h
    · refine Ev.iconst H235 i235_18 kI_0 ?_
      exact Rd.ireturnK H235 i235_19 rfl (Or.inl rfl) h
theorem i236_0 : mm_cd 236 0 = some (.aload_n 0, 1, 0, 0) := rfl
theorem i236_1 : mm_cd 236 1 = some (.invokevirtual 208, 3, 0, 235) := rfl
theorem i236_4 : mm_cd 236 4 = some (.ifCond .ne 5, 3, 0, 0) := rfl
theorem i236_7 : mm_cd 236 7 = some (.iconst 0, 1, 0, 0) := rfl
theorem i236_8 : mm_cd 236 8 = some (.ireturn, 1, 0, 0) := rfl
theorem i236_9 : mm_cd 236 9 = some (.aload_n 0, 1, 0, 0) := rfl
theorem i236_10 : mm_cd 236 10 = some (.ldc 217, 2, 0, 21) := rfl
theorem i236_12 : mm_cd 236 12 = some (.invokevirtual 122, 3, 0, 219) := rfl
theorem i236_15 : mm_cd 236 15 = some (.ifCond .eq 22, 3, 0, 0) := rfl
theorem i236_18 : mm_cd 236 18 = some (.aload_n 0, 1, 0, 0) := rfl
theorem i236_19 : mm_cd 236 19 = some (.invokevirtual 208, 3, 0, 235) := rfl
theorem i236_22 : mm_cd 236 22 = some (.ifCond .ne 5, 3, 0, 0) := rfl
theorem i236_25 : mm_cd 236 25 = some (.iconst 0, 1, 0, 0) := rfl
theorem i236_26 : mm_cd 236 26 = some (.ireturn, 1, 0, 0) := rfl
theorem i236_27 : mm_cd 236 27 = some (.aload_n 0, 1, 0, 0) := rfl
theorem i236_28 : mm_cd 236 28 = some (.bipush 15, 2, 0, 0) := rfl
theorem i236_30 : mm_cd 236 30 = some (.iconst 0, 1, 0, 0) := rfl
theorem i236_31 : mm_cd 236 31 = some (.invokevirtual 186, 3, 0, 230) := rfl
theorem i236_34 : mm_cd 236 34 = some (.goto (-25), 3, 0, 0) := rfl
theorem i236_37 : mm_cd 236 37 = some (.iconst 1, 1, 0, 0) := rfl
theorem i236_38 : mm_cd 236 38 = some (.ireturn, 1, 0, 0) := rfl
def q236_9 (R235 : mS → Option mQ) : Nat → mS → Option mQ
  | 0, _ => none
  | n + 1, s => bN (q219 20 s) fun x2 s1 => if x2 = 0 then (rv (1 : Int32) s1) else (bN (R235 s1) fun x4 s3 => if ¬ x4 = 0 then (bM (q230 (15 : Int32) (0 : Int32) s3) fun s5 => q236_9 R235 n s5) else (rv (0 : Int32) s3))
theorem t236_9 {L : Nat} {xs : Nat → Int32} {d dr : Nat} {R235 : mS → Option mQ} (hR235 : ∀ {s : mS} {q : mQ}, R235 s = some q → ∀ e, dr ≤ e → Cl L xs e 235 [.ref 512] (hp s) (hr q)) (hdr : dr < d) (hd : 4 ≤ d) : ∀ (n : Nat) (s : mS) (r : mQ), q236_9 R235 n s = some r → Ev L xs d 236 9 [(0, .ref 512)] [] (hp s) (hr r) := by
  intro n
  induction n with
  | zero => intro s r h; rw [q236_9] at h; cases h
  | succ n ih =>
    intro s r h
    rw [q236_9] at h
    refine Ev.aload_n H236 i236_9 rfl ?_
    refine Ev.ldcT H236 i236_10 ?_
    refine Rd.cV1vN H236 i236_12 cal219 ob11 (Nat.le_of_ble_eq_true rfl) (Nat.le_of_ble_eq_true rfl) (Nat.lt_of_lt_of_le (by decide) hd) (fun q hq => c219 (by decide) hq) h (fun x2 s1 h => ?_)
    refine Rd.if_eq H236 i236_15 (t := 37) (by decide) h (fun hc h => ?_) (fun hc h => ?_)
    · refine Ev.iconst H236 i236_37 kI_1 ?_
      exact Rd.ireturnK H236 i236_38 rfl (Or.inr rfl) h
    · refine Ev.aload_n H236 i236_18 rfl ?_
      refine Rd.cV0vN H236 i236_19 cal235 ob11 (Nat.le_of_ble_eq_true rfl) (Nat.le_of_ble_eq_true rfl) hdr (fun q hq => hR235 hq) h (fun x4 s3 h => ?_)
      refine Rd.if_ne H236 i236_22 (t := 27) (by decide) h (fun hc h => ?_) (fun hc h => ?_)
      · refine Ev.aload_n H236 i236_27 rfl ?_
        refine Ev.bipush H236 i236_28 kB_15 ?_
        refine Ev.iconst H236 i236_30 kI_0 ?_
        refine Rd.cV2uN H236 i236_31 cal230 ob11 (Nat.le_of_ble_eq_true rfl) (Nat.le_of_ble_eq_true rfl) (Nat.lt_of_lt_of_le (by decide) hd) (fun q hq => c230 hq) h (fun s5 h => ?_)
        refine Ev.goto H236 i236_34 (t := 9) (by decide) ?_
        exact Ev.sub (l := [(0, .ref 512)]) rfl rfl (mm_sub_c rfl mm_sub_n) (ih _ _ h)
      · refine Ev.iconst H236 i236_25 kI_0 ?_
        exact Rd.ireturnK H236 i236_26 rfl (Or.inl rfl) h
/-- SerialGateModel.readAllOf()Z -/
def q236F (R235 : mS → Option mQ) (s : mS) : Option mQ := bN (R235 s) fun x7 s6 => if ¬ x7 = 0 then (q236_9 R235 10000 s6) else (rv (0 : Int32) s6)
theorem c236F {L : Nat} {xs : Nat → Int32} {dr : Nat} {R235 : mS → Option mQ} (hR235 : ∀ {s : mS} {q : mQ}, R235 s = some q → ∀ e, dr ≤ e → Cl L xs e 235 [.ref 512] (hp s) (hr q)) {s : mS} {r : mQ} (h : q236F R235 s = some r) : ∀ d, 4 ≤ d → dr < d → Cl L xs d 236 [.ref 512] (hp s) (hr r) := by
  intro d hd hdr
  show Ev L xs d 236 0 [(0, .ref 512)] [] (hp s) (hr r)
  unfold q236F at h
  refine Ev.aload_n H236 i236_0 rfl ?_
  refine Rd.cV0vN H236 i236_1 cal235 ob11 (Nat.le_of_ble_eq_true rfl) (Nat.le_of_ble_eq_true rfl) hdr (fun q hq => hR235 hq) h (fun x7 s6 h => ?_)
  refine Rd.if_ne H236 i236_4 (t := 9) (by decide) h (fun hc h => ?_) (fun hc h => ?_)
  · exact Ev.sub (l := [(0, .ref 512)]) rfl rfl (mm_sub_c rfl mm_sub_n) (t236_9 hR235 hdr hd 10000 _ _ h)
  · refine Ev.iconst H236 i236_7 kI_0 ?_
    exact Rd.ireturnK H236 i236_8 rfl (Or.inl rfl) h
theorem i237_0 : mm_cd 237 0 = some (.aload_n 0, 1, 0, 0) := rfl
theorem i237_1 : mm_cd 237 1 = some (.invokevirtual 219, 3, 0, 236) := rfl
theorem i237_4 : mm_cd 237 4 = some (.ifCond .ne 5, 3, 0, 0) := rfl
theorem i237_7 : mm_cd 237 7 = some (.iconst 0, 1, 0, 0) := rfl
theorem i237_8 : mm_cd 237 8 = some (.ireturn, 1, 0, 0) := rfl
theorem i237_9 : mm_cd 237 9 = some (.aload_n 0, 1, 0, 0) := rfl
theorem i237_10 : mm_cd 237 10 = some (.ldc 222, 2, 0, 22) := rfl
theorem i237_12 : mm_cd 237 12 = some (.invokevirtual 122, 3, 0, 219) := rfl
theorem i237_15 : mm_cd 237 15 = some (.ifCond .eq 22, 3, 0, 0) := rfl
theorem i237_18 : mm_cd 237 18 = some (.aload_n 0, 1, 0, 0) := rfl
theorem i237_19 : mm_cd 237 19 = some (.invokevirtual 219, 3, 0, 236) := rfl
theorem i237_22 : mm_cd 237 22 = some (.ifCond .ne 5, 3, 0, 0) := rfl
theorem i237_25 : mm_cd 237 25 = some (.iconst 0, 1, 0, 0) := rfl
theorem i237_26 : mm_cd 237 26 = some (.ireturn, 1, 0, 0) := rfl
theorem i237_27 : mm_cd 237 27 = some (.aload_n 0, 1, 0, 0) := rfl
theorem i237_28 : mm_cd 237 28 = some (.bipush 16, 2, 0, 0) := rfl
theorem i237_30 : mm_cd 237 30 = some (.iconst 0, 1, 0, 0) := rfl
theorem i237_31 : mm_cd 237 31 = some (.invokevirtual 186, 3, 0, 230) := rfl
theorem i237_34 : mm_cd 237 34 = some (.goto (-25), 3, 0, 0) := rfl
theorem i237_37 : mm_cd 237 37 = some (.iconst 1, 1, 0, 0) := rfl
theorem i237_38 : mm_cd 237 38 = some (.ireturn, 1, 0, 0) := rfl
def q237_9 (R236 : mS → Option mQ) : Nat → mS → Option mQ
  | 0, _ => none
  | n + 1, s => bN (q219 21 s) fun x2 s1 => if x2 = 0 then (rv (1 : Int32) s1) else (bN (R236 s1) fun x4 s3 => if ¬ x4 = 0 then (bM (q230 (16 : Int32) (0 : Int32) s3) fun s5 => q237_9 R236 n s5) else (rv (0 : Int32) s3))
theorem t237_9 {L : Nat} {xs : Nat → Int32} {d dr : Nat} {R236 : mS → Option mQ} (hR236 : ∀ {s : mS} {q : mQ}, R236 s = some q → ∀ e, dr ≤ e → Cl L xs e 236 [.ref 512] (hp s) (hr q)) (hdr : dr < d) (hd : 4 ≤ d) : ∀ (n : Nat) (s : mS) (r : mQ), q237_9 R236 n s = some r → Ev L xs d 237 9 [(0, .ref 512)] [] (hp s) (hr r) := by
  intro n
  induction n with
  | zero => intro s r h; rw [q237_9] at h; cases h
  | succ n ih =>
    intro s r h
    rw [q237_9] at h
    refine Ev.aload_n H237 i237_9 rfl ?_
    refine Ev.ldcT H237 i237_10 ?_
    refine Rd.cV1vN H237 i237_12 cal219 ob11 (Nat.le_of_ble_eq_true rfl) (Nat.le_of_ble_eq_true rfl) (Nat.lt_of_lt_of_le (by decide) hd) (fun q hq => c219 (by decide) hq) h (fun x2 s1 h => ?_)
    refine Rd.if_eq H237 i237_15 (t := 37) (by decide) h (fun hc h => ?_) (fun hc h => ?_)
    · refine Ev.iconst H237 i237_37 kI_1 ?_
      exact Rd.ireturnK H237 i237_38 rfl (Or.inr rfl) h
    · refine Ev.aload_n H237 i237_18 rfl ?_
      refine Rd.cV0vN H237 i237_19 cal236 ob11 (Nat.le_of_ble_eq_true rfl) (Nat.le_of_ble_eq_true rfl) hdr (fun q hq => hR236 hq) h (fun x4 s3 h => ?_)
      refine Rd.if_ne H237 i237_22 (t := 27) (by decide) h (fun hc h => ?_) (fun hc h => ?_)
      · refine Ev.aload_n H237 i237_27 rfl ?_
        refine Ev.bipush H237 i237_28 kB_16 ?_
        refine Ev.iconst H237 i237_30 kI_0 ?_
        refine Rd.cV2uN H237 i237_31 cal230 ob11 (Nat.le_of_ble_eq_true rfl) (Nat.le_of_ble_eq_true rfl) (Nat.lt_of_lt_of_le (by decide) hd) (fun q hq => c230 hq) h (fun s5 h => ?_)
        refine Ev.goto H237 i237_34 (t := 9) (by decide) ?_
        exact Ev.sub (l := [(0, .ref 512)]) rfl rfl (mm_sub_c rfl mm_sub_n) (ih _ _ h)
      · refine Ev.iconst H237 i237_25 kI_0 ?_
        exact Rd.ireturnK H237 i237_26 rfl (Or.inl rfl) h
/-- SerialGateModel.readCond()Z -/
def q237F (R236 : mS → Option mQ) (s : mS) : Option mQ := bN (R236 s) fun x7 s6 => if ¬ x7 = 0 then (q237_9 R236 10000 s6) else (rv (0 : Int32) s6)
theorem c237F {L : Nat} {xs : Nat → Int32} {dr : Nat} {R236 : mS → Option mQ} (hR236 : ∀ {s : mS} {q : mQ}, R236 s = some q → ∀ e, dr ≤ e → Cl L xs e 236 [.ref 512] (hp s) (hr q)) {s : mS} {r : mQ} (h : q237F R236 s = some r) : ∀ d, 4 ≤ d → dr < d → Cl L xs d 237 [.ref 512] (hp s) (hr r) := by
  intro d hd hdr
  show Ev L xs d 237 0 [(0, .ref 512)] [] (hp s) (hr r)
  unfold q237F at h
  refine Ev.aload_n H237 i237_0 rfl ?_
  refine Rd.cV0vN H237 i237_1 cal236 ob11 (Nat.le_of_ble_eq_true rfl) (Nat.le_of_ble_eq_true rfl) hdr (fun q hq => hR236 hq) h (fun x7 s6 h => ?_)
  refine Rd.if_ne H237 i237_4 (t := 9) (by decide) h (fun hc h => ?_) (fun hc h => ?_)
  · exact Ev.sub (l := [(0, .ref 512)]) rfl rfl (mm_sub_c rfl mm_sub_n) (t237_9 hR236 hdr hd 10000 _ _ h)
  · refine Ev.iconst H237 i237_7 kI_0 ?_
    exact Rd.ireturnK H237 i237_8 rfl (Or.inl rfl) h
def q235 : Nat → mS → Option mQ
  | 0, _ => none
  | n + 1, s => q235F (q235 n) (q237F (q236F (q235 n))) s
def q236 (n : Nat) (s : mS) : Option mQ := q236F (q235 n) s
def q237 (n : Nat) (s : mS) : Option mQ := q237F (q236 n) s
theorem c235n {L : Nat} {xs : Nat → Int32} : ∀ (n : Nat) {s : mS} {r : mQ}, q235 n s = some r → ∀ d, 5 + 3 * n ≤ d → Cl L xs d 235 [.ref 512] (hp s) (hr r) := by
  intro n
  induction n with
  | zero => intro s r h; rw [q235] at h; cases h
  | succ n ih =>
    intro s r h d hd
    rw [q235] at h
    refine c235F (dr := 5 + 3 * n + 2) (fun hq e he => ih hq e (by omega)) (fun hq e he => c237F (dr := 5 + 3 * n + 1) (fun hz e he => c236F (dr := 5 + 3 * n) ih hz e (by omega) (by omega)) hq e (by omega) (by omega)) h d (by omega) (by omega)
theorem c235 {L : Nat} {xs : Nat → Int32} {s : mS} {r : mQ} (h : q235 9 s = some r) : ∀ d, 32 ≤ d → Cl L xs d 235 [.ref 512] (hp s) (hr r) := c235n 9 h
theorem c236 {L : Nat} {xs : Nat → Int32} {s : mS} {r : mQ} (h : q236 9 s = some r) : ∀ d, 33 ≤ d → Cl L xs d 236 [.ref 512] (hp s) (hr r) := fun d hd => c236F (dr := 32) (fun hq e he => c235 hq e he) h d (by omega) (by omega)
theorem c237 {L : Nat} {xs : Nat → Int32} {s : mS} {r : mQ} (h : q237 9 s = some r) : ∀ d, 34 ≤ d → Cl L xs d 237 [.ref 512] (hp s) (hr r) := fun d hd => c237F (dr := 33) (fun hq e he => c236 hq e he) h d (by omega) (by omega)
