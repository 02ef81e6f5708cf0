theorem i112_0 : mm_cd 112 0 = some (.iconst 0, 1, 0, 0) := rfl
theorem i112_1 : mm_cd 112 1 = some (.istore_n 2, 1, 0, 0) := rfl
theorem i112_2 : mm_cd 112 2 = some (.iconst 0, 1, 0, 0) := rfl
theorem i112_3 : mm_cd 112 3 = some (.istore_n 3, 1, 0, 0) := rfl
theorem i112_4 : mm_cd 112 4 = some (.iload_n 3, 1, 0, 0) := rfl
theorem i112_5 : mm_cd 112 5 = some (.iload_n 1, 1, 0, 0) := rfl
theorem i112_6 : mm_cd 112 6 = some (.if_icmp .ge 123, 3, 0, 0) := rfl
theorem i112_9 : mm_cd 112 9 = some (.aload_n 0, 1, 0, 0) := rfl
theorem i112_10 : mm_cd 112 10 = some (.getfield 12, 3, ((9 : Nat) : Int), 1) := rfl
theorem i112_13 : mm_cd 112 13 = some (.getfield 91, 3, ((0 : Nat) : Int), 0) := rfl
theorem i112_16 : mm_cd 112 16 = some (.ifCond .le 113, 3, 0, 0) := rfl
theorem i112_19 : mm_cd 112 19 = some (.aload_n 0, 1, 0, 0) := rfl
theorem i112_20 : mm_cd 112 20 = some (.invokevirtual 94, 3, 0, 113) := rfl
theorem i112_23 : mm_cd 112 23 = some (.aload_n 0, 1, 0, 0) := rfl
theorem i112_24 : mm_cd 112 24 = some (.getfield 12, 3, ((9 : Nat) : Int), 1) := rfl
theorem i112_27 : mm_cd 112 27 = some (.getfield 91, 3, ((0 : Nat) : Int), 0) := rfl
theorem i112_30 : mm_cd 112 30 = some (.irem, 1, 0, 0) := rfl
theorem i112_31 : mm_cd 112 31 = some (.istore 4, 2, 0, 0) := rfl
theorem i112_33 : mm_cd 112 33 = some (.aload_n 0, 1, 0, 0) := rfl
theorem i112_34 : mm_cd 112 34 = some (.getfield 21, 3, ((9 : Nat) : Int), 2) := rfl
theorem i112_37 : mm_cd 112 37 = some (.iload 4, 2, 0, 0) := rfl
theorem i112_39 : mm_cd 112 39 = some (.invokevirtual 98, 3, 0, 71) := rfl
theorem i112_42 : mm_cd 112 42 = some (.istore 5, 2, 0, 0) := rfl
theorem i112_44 : mm_cd 112 44 = some (.aload_n 0, 1, 0, 0) := rfl
theorem i112_45 : mm_cd 112 45 = some (.iload 4, 2, 0, 0) := rfl
theorem i112_47 : mm_cd 112 47 = some (.invokevirtual 102, 3, 0, 114) := rfl
theorem i112_50 : mm_cd 112 50 = some (.istore 6, 2, 0, 0) := rfl
theorem i112_52 : mm_cd 112 52 = some (.iload 5, 2, 0, 0) := rfl
theorem i112_54 : mm_cd 112 54 = some (.iconst (-1), 1, 0, 0) := rfl
theorem i112_55 : mm_cd 112 55 = some (.if_icmp .ne 13, 3, 0, 0) := rfl
theorem i112_58 : mm_cd 112 58 = some (.aload_n 0, 1, 0, 0) := rfl
theorem i112_59 : mm_cd 112 59 = some (.iload 4, 2, 0, 0) := rfl
theorem i112_61 : mm_cd 112 61 = some (.invokevirtual 105, 3, 0, 115) := rfl
theorem i112_64 : mm_cd 112 64 = some (.pop, 1, 0, 0) := rfl
theorem i112_65 : mm_cd 112 65 = some (.goto 58, 3, 0, 0) := rfl
theorem i112_68 : mm_cd 112 68 = some (.iload 6, 2, 0, 0) := rfl
theorem i112_70 : mm_cd 112 70 = some (.sipush 200, 3, 0, 0) := rfl
theorem i112_73 : mm_cd 112 73 = some (.if_icmp .ge 17, 3, 0, 0) := rfl
theorem i112_76 : mm_cd 112 76 = some (.aload_n 0, 1, 0, 0) := rfl
theorem i112_77 : mm_cd 112 77 = some (.iload 5, 2, 0, 0) := rfl
theorem i112_79 : mm_cd 112 79 = some (.iload 6, 2, 0, 0) := rfl
theorem i112_81 : mm_cd 112 81 = some (.bipush 100, 2, 0, 0) := rfl
theorem i112_83 : mm_cd 112 83 = some (.isub, 1, 0, 0) := rfl
theorem i112_84 : mm_cd 112 84 = some (.invokevirtual 108, 3, 0, 116) := rfl
theorem i112_87 : mm_cd 112 87 = some (.goto 36, 3, 0, 0) := rfl
theorem i112_90 : mm_cd 112 90 = some (.iload 6, 2, 0, 0) := rfl
theorem i112_92 : mm_cd 112 92 = some (.sipush 300, 3, 0, 0) := rfl
theorem i112_95 : mm_cd 112 95 = some (.if_icmp .ge 18, 3, 0, 0) := rfl
theorem i112_98 : mm_cd 112 98 = some (.aload_n 0, 1, 0, 0) := rfl
theorem i112_99 : mm_cd 112 99 = some (.iload 5, 2, 0, 0) := rfl
theorem i112_101 : mm_cd 112 101 = some (.iload 6, 2, 0, 0) := rfl
theorem i112_103 : mm_cd 112 103 = some (.sipush 200, 3, 0, 0) := rfl
theorem i112_106 : mm_cd 112 106 = some (.isub, 1, 0, 0) := rfl
theorem i112_107 : mm_cd 112 107 = some (.invokevirtual 112, 3, 0, 117) := rfl
theorem i112_110 : mm_cd 112 110 = some (.goto 13, 3, 0, 0) := rfl
theorem i112_113 : mm_cd 112 113 = some (.aload_n 0, 1, 0, 0) := rfl
theorem i112_114 : mm_cd 112 114 = some (.iload 5, 2, 0, 0) := rfl
theorem i112_116 : mm_cd 112 116 = some (.invokevirtual 115, 3, 0, 118) := rfl
theorem i112_119 : mm_cd 112 119 = some (.pop, 1, 0, 0) := rfl
theorem i112_120 : mm_cd 112 120 = some (.iinc 2 1, 3, 0, 0) := rfl
theorem i112_123 : mm_cd 112 123 = some (.iinc 3 1, 3, 0, 0) := rfl
theorem i112_126 : mm_cd 112 126 = some (.goto (-122), 3, 0, 0) := rfl
theorem i112_129 : mm_cd 112 129 = some (.iload_n 2, 1, 0, 0) := rfl
theorem i112_130 : mm_cd 112 130 = some (.ireturn, 1, 0, 0) := rfl
def q112_123 (k4 : Int32 → Int32 → Int32 → mS → Option mQ) (a : Nat) (v1 : Int32) (v2 : Int32) (v3 : Int32) (s : mS) : Option mQ := bx (v3 + (1 : Int32)) fun x1 => k4 v1 v2 x1 s
theorem t112_123 {L : Nat} {xs : Nat → Int32} {d : Nat} {k4 : Int32 → Int32 → Int32 → mS → Option mQ} {a : Nat} (hk4 : ∀ (v1 : Int32) (v2 : Int32) (v3 : Int32) (s : mS) (r : mQ), k4 v1 v2 v3 s = some r → Ev L xs d 112 4 [(0, .ref a), (1, .int v1), (2, .int v2), (3, .int v3)] [] (hp s) (hr r)) (ma : a ∈ A9) (hd : 6 ≤ d) {v1 : Int32} {v2 : Int32} {v3 : Int32} {s : mS} {r : mQ} (h : q112_123 k4 a v1 v2 v3 s = some r) : Ev L xs d 112 123 [(0, .ref a), (1, .int v1), (2, .int v2), (3, .int v3)] [] (hp s) (hr r) := by
  unfold q112_123 at h
  refine Rd.iinc H112 i112_123 (Nat.le_of_ble_eq_true rfl) rfl kI_1 (lv2 := fun x1 => [(3, .int x1), (0, .ref a), (1, .int v1), (2, .int v2)]) (fun _ => rfl) h (fun x1 h => ?_)
  refine Ev.goto H112 i112_126 (t := 4) (by decide) ?_
  exact Ev.sub (l := [(0, .ref a), (1, .int v1), (2, .int v2), (3, .int x1)]) rfl rfl (mm_sub_c rfl (mm_sub_c rfl (mm_sub_c rfl (mm_sub_c rfl mm_sub_n)))) (hk4 _ _ _ _ _ h)
def q112_4 (a : Nat) : Nat → Int32 → Int32 → Int32 → mS → Option mQ
  | 0, _, _, _, _ => none
  | n + 1, v1, v2, v3, s => if v1 ≤ v3 then (rv v2 s) else (if (s.1 (a + 1) 0) ≤ 0 then (rv v2 s) else (bN (q113 a s) fun x3 s2 => gZ (s2.1 (a + 1) 0) <| bx (rmI x3 (s2.1 (a + 1) 0)) fun x4 => bN (q71 (a + 6) x4 s2) fun x6 s5 => bN (q114 a x4 s5) fun x8 s7 => if ¬ x6 = (-1 : Int32) then (if (200 : Int32) ≤ x8 then (if (300 : Int32) ≤ x8 then (bN (q118 a x6 s7) fun x10 s9 => bx (v2 + (1 : Int32)) fun x11 => q112_123 (q112_4 a n) a v1 x11 v3 s9) else (bM (q117 a x6 (x8 - (200 : Int32)) s7) fun s12 => q112_123 (q112_4 a n) a v1 v2 v3 s12)) else (bM (q116 a x6 (x8 - (100 : Int32)) s7) fun s13 => q112_123 (q112_4 a n) a v1 v2 v3 s13)) else (bN (q115 a x4 s7) fun x15 s14 => q112_123 (q112_4 a n) a v1 v2 v3 s14)))
theorem t112_4 {L : Nat} {xs : Nat → Int32} {d : Nat} {a : Nat} (ma : a ∈ A9) (hd : 6 ≤ d) : ∀ (n : Nat) (v1 : Int32) (v2 : Int32) (v3 : Int32) (s : mS) (r : mQ), q112_4 a n v1 v2 v3 s = some r → Ev L xs d 112 4 [(0, .ref a), (1, .int v1), (2, .int v2), (3, .int v3)] [] (hp s) (hr r) := by
  intro n
  induction n with
  | zero => intro v1 v2 v3 s r h; rw [q112_4] at h; cases h
  | succ n ih =>
    intro v1 v2 v3 s r h
    rw [q112_4] at h
    refine Ev.iload_n H112 i112_4 rfl ?_
    refine Ev.iload_n H112 i112_5 rfl ?_
    refine Rd.ic_ge H112 i112_6 (t := 129) (by decide) h (fun hc h => ?_) (fun hc h => ?_)
    · refine Ev.iload_n H112 i112_129 rfl ?_
      exact Rd.ireturn H112 i112_130 rfl h
    · refine Ev.aload_n H112 i112_9 rfl ?_
      refine Rd.getR H112 i112_10 (ob9 ma) rfl ?_
      refine Rd.getI H112 i112_13 (ob0 (m9_0_1 ma)) rfl ?_
      refine Rd.if_le H112 i112_16 (t := 129) (by decide) h (fun hc h => ?_) (fun hc h => ?_)
      · refine Ev.iload_n H112 i112_129 rfl ?_
        exact Rd.ireturn H112 i112_130 rfl h
      · refine Ev.aload_n H112 i112_19 rfl ?_
        refine Rd.cV0vN H112 i112_20 cal113 (ob9 ma) (Nat.le_of_ble_eq_true rfl) (Nat.le_of_ble_eq_true rfl) (Nat.lt_of_lt_of_le (by decide) hd) (fun q hq => c113 ma hq) h (fun x3 s2 h => ?_)
        refine Ev.aload_n H112 i112_23 rfl ?_
        refine Rd.getR H112 i112_24 (ob9 ma) rfl ?_
        refine Rd.getI H112 i112_27 (ob0 (m9_0_1 ma)) rfl ?_
        refine Rd.irem H112 i112_30 h (fun h => ?_)
        refine Rd.istore H112 i112_31 (Nat.le_of_ble_eq_true rfl) (lv2 := fun x4 => [(4, .int x4), (0, .ref a), (1, .int v1), (2, .int v2), (3, .int v3)]) (fun _ => rfl) h (fun x4 h => ?_)
        refine Ev.aload_n H112 i112_33 rfl ?_
        refine Rd.getR H112 i112_34 (ob9 ma) rfl ?_
        refine Ev.iload H112 i112_37 rfl ?_
        refine Rd.cV1vN H112 i112_39 cal71 (ob6 (m9_6_6 ma)) (Nat.le_of_ble_eq_true rfl) (Nat.le_of_ble_eq_true rfl) (Nat.lt_of_lt_of_le (by decide) hd) (fun q hq => c71 (m9_6_6 ma) hq) h (fun x6 s5 h => ?_)
        refine Ev.istore H112 i112_42 (Nat.le_of_ble_eq_true rfl) (lv2 := [(5, .int x6), (4, .int x4), (0, .ref a), (1, .int v1), (2, .int v2), (3, .int v3)]) rfl ?_
        refine Ev.aload_n H112 i112_44 rfl ?_
        refine Ev.iload H112 i112_45 rfl ?_
        refine Rd.cV1vN H112 i112_47 cal114 (ob9 ma) (Nat.le_of_ble_eq_true rfl) (Nat.le_of_ble_eq_true rfl) (Nat.lt_of_lt_of_le (by decide) hd) (fun q hq => c114 ma hq) h (fun x8 s7 h => ?_)
        refine Ev.istore H112 i112_50 (Nat.le_of_ble_eq_true rfl) (lv2 := [(6, .int x8), (5, .int x6), (4, .int x4), (0, .ref a), (1, .int v1), (2, .int v2), (3, .int v3)]) rfl ?_
        refine Ev.iload H112 i112_52 rfl ?_
        refine Ev.iconst H112 i112_54 kI_m1 ?_
        refine Rd.ic_ne H112 i112_55 (t := 68) (by decide) h (fun hc h => ?_) (fun hc h => ?_)
        · refine Ev.iload H112 i112_68 rfl ?_
          refine Ev.sipush H112 i112_70 kS_200 ?_
          refine Rd.ic_ge H112 i112_73 (t := 90) (by decide) h (fun hc h => ?_) (fun hc h => ?_)
          · refine Ev.iload H112 i112_90 rfl ?_
            refine Ev.sipush H112 i112_92 kS_300 ?_
            refine Rd.ic_ge H112 i112_95 (t := 113) (by decide) h (fun hc h => ?_) (fun hc h => ?_)
            · refine Ev.aload_n H112 i112_113 rfl ?_
              refine Ev.iload H112 i112_114 rfl ?_
              refine Rd.cV1vN H112 i112_116 cal118 (ob9 ma) (Nat.le_of_ble_eq_true rfl) (Nat.le_of_ble_eq_true rfl) (Nat.lt_of_lt_of_le (by decide) hd) (fun q hq => c118 ma hq) h (fun x10 s9 h => ?_)
              refine Ev.pop H112 i112_119 rfl ?_
              refine Rd.iinc H112 i112_120 (Nat.le_of_ble_eq_true rfl) rfl kI_1 (lv2 := fun x11 => [(2, .int x11), (6, .int x8), (5, .int x6), (4, .int x4), (0, .ref a), (1, .int v1), (3, .int v3)]) (fun _ => rfl) h (fun x11 h => ?_)
              exact Ev.sub (l := [(0, .ref a), (1, .int v1), (2, .int x11), (3, .int v3)]) rfl rfl (mm_sub_c rfl (mm_sub_c rfl (mm_sub_c rfl (mm_sub_c rfl mm_sub_n)))) (t112_123 (k4 := (q112_4 a n)) (fun _ _ _ _ _ h => ih _ _ _ _ _ h) ma hd h)
            · refine Ev.aload_n H112 i112_98 rfl ?_
              refine Ev.iload H112 i112_99 rfl ?_
              refine Ev.iload H112 i112_101 rfl ?_
              refine Ev.sipush H112 i112_103 kS_200 ?_
              refine Ev.isub H112 i112_106 ?_
              refine Rd.cV2uN H112 i112_107 cal117 (ob9 ma) (Nat.le_of_ble_eq_true rfl) (Nat.le_of_ble_eq_true rfl) (Nat.lt_of_lt_of_le (by decide) hd) (fun q hq => c117 ma hq) h (fun s12 h => ?_)
              refine Ev.goto H112 i112_110 (t := 123) (by decide) ?_
              exact Ev.sub (l := [(0, .ref a), (1, .int v1), (2, .int v2), (3, .int v3)]) rfl rfl (mm_sub_c rfl (mm_sub_c rfl (mm_sub_c rfl (mm_sub_c rfl mm_sub_n)))) (t112_123 (k4 := (q112_4 a n)) (fun _ _ _ _ _ h => ih _ _ _ _ _ h) ma hd h)
          · refine Ev.aload_n H112 i112_76 rfl ?_
            refine Ev.iload H112 i112_77 rfl ?_
            refine Ev.iload H112 i112_79 rfl ?_
            refine Ev.bipush H112 i112_81 kB_100 ?_
            refine Ev.isub H112 i112_83 ?_
            refine Rd.cV2uN H112 i112_84 cal116 (ob9 ma) (Nat.le_of_ble_eq_true rfl) (Nat.le_of_ble_eq_true rfl) (Nat.lt_of_lt_of_le (by decide) hd) (fun q hq => c116 ma hq) h (fun s13 h => ?_)
            refine Ev.goto H112 i112_87 (t := 123) (by decide) ?_
            exact Ev.sub (l := [(0, .ref a), (1, .int v1), (2, .int v2), (3, .int v3)]) rfl rfl (mm_sub_c rfl (mm_sub_c rfl (mm_sub_c rfl (mm_sub_c rfl mm_sub_n)))) (t112_123 (k4 := (q112_4 a n)) (fun _ _ _ _ _ h => ih _ _ _ _ _ h) ma hd h)
        · refine Ev.aload_n H112 i112_58 rfl ?_
          refine Ev.iload H112 i112_59 rfl ?_
          refine Rd.cV1vN H112 i112_61 cal115 (ob9 ma) (Nat.le_of_ble_eq_true rfl) (Nat.le_of_ble_eq_true rfl) (Nat.lt_of_lt_of_le (by decide) hd) (fun q hq => c115 ma hq) h (fun x15 s14 h => ?_)
          refine Ev.pop H112 i112_64 rfl ?_
          refine Ev.goto H112 i112_65 (t := 123) (by decide) ?_
          exact Ev.sub (l := [(0, .ref a), (1, .int v1), (2, .int v2), (3, .int v3)]) rfl rfl (mm_sub_c rfl (mm_sub_c rfl (mm_sub_c rfl (mm_sub_c rfl mm_sub_n)))) (t112_123 (k4 := (q112_4 a n)) (fun _ _ _ _ _ h => ih _ _ _ _ _ h) ma hd h)
/-- SerialGate$World.run(I)I -/
def q112 (a : Nat) (v1 : Int32) (s : mS) : Option mQ := q112_4 a 10000 v1 (0 : Int32) (0 : Int32) s
theorem c112 {L : Nat} {xs : Nat → Int32} {a : Nat} (ma : a ∈ A9) {v1 : Int32} {s : mS} {r : mQ} (h : q112 a v1 s = some r) : ∀ d, 6 ≤ d → Cl L xs d 112 [.ref a, .int v1] (hp s) (hr r) := by
  intro d hd
  show Ev L xs d 112 0 [(0, .ref a), (1, .int v1)] [] (hp s) (hr r)
  unfold q112 at h
  refine Ev.iconst H112 i112_0 kI_0 ?_
  refine Ev.istore_n H112 i112_1 (Nat.le_of_ble_eq_true rfl) (lv2 := [(2, .int (0 : Int32)), (0, .ref a), (1, .int v1)]) rfl ?_
  refine Ev.iconst H112 i112_2 kI_0 ?_
  refine Ev.istore_n H112 i112_3 (Nat.le_of_ble_eq_true rfl) (lv2 := [(3, .int (0 : Int32)), (2, .int (0 : Int32)), (0, .ref a), (1, .int v1)]) rfl ?_
  exact Ev.sub (l := [(0, .ref a), (1, .int v1), (2, .int (0 : Int32)), (3, .int (0 : Int32))]) rfl rfl (mm_sub_c rfl (mm_sub_c rfl (mm_sub_c rfl (mm_sub_c rfl mm_sub_n)))) (t112_4 ma hd 10000 _ _ _ _ _ h)
theorem i128_0 : mm_cd 128 0 = some (.aload_n 0, 1, 0, 0) := rfl
theorem i128_1 : mm_cd 128 1 = some (.getfield 10, 3, ((10 : Nat) : Int), 0) := rfl
theorem i128_4 : mm_cd 128 4 = some (.getfield 88, 3, ((8 : Nat) : Int), 1) := rfl
theorem i128_7 : mm_cd 128 7 = some (.bipush 20, 2, 0, 0) := rfl
theorem i128_9 : mm_cd 128 9 = some (.iadd, 1, 0, 0) := rfl
theorem i128_10 : mm_cd 128 10 = some (.sipush 400, 3, 0, 0) := rfl
theorem i128_13 : mm_cd 128 13 = some (.if_icmp .le 5, 3, 0, 0) := rfl
theorem i128_16 : mm_cd 128 16 = some (.iconst (-1), 1, 0, 0) := rfl
theorem i128_17 : mm_cd 128 17 = some (.ireturn, 1, 0, 0) := rfl
theorem i128_18 : mm_cd 128 18 = some (.aload_n 0, 1, 0, 0) := rfl
theorem i128_19 : mm_cd 128 19 = some (.getfield 10, 3, ((10 : Nat) : Int), 0) := rfl
theorem i128_22 : mm_cd 128 22 = some (.iload_n 1, 1, 0, 0) := rfl
theorem i128_23 : mm_cd 128 23 = some (.invokevirtual 91, 3, 0, 98) := rfl
theorem i128_26 : mm_cd 128 26 = some (.aload_n 0, 1, 0, 0) := rfl
theorem i128_27 : mm_cd 128 27 = some (.getfield 10, 3, ((10 : Nat) : Int), 0) := rfl
theorem i128_30 : mm_cd 128 30 = some (.iload_n 2, 1, 0, 0) := rfl
theorem i128_31 : mm_cd 128 31 = some (.invokevirtual 91, 3, 0, 98) := rfl
theorem i128_34 : mm_cd 128 34 = some (.aload_n 0, 1, 0, 0) := rfl
theorem i128_35 : mm_cd 128 35 = some (.getfield 10, 3, ((10 : Nat) : Int), 0) := rfl
theorem i128_38 : mm_cd 128 38 = some (.iload_n 3, 1, 0, 0) := rfl
theorem i128_39 : mm_cd 128 39 = some (.invokevirtual 91, 3, 0, 98) := rfl
theorem i128_42 : mm_cd 128 42 = some (.aload_n 0, 1, 0, 0) := rfl
theorem i128_43 : mm_cd 128 43 = some (.getfield 10, 3, ((10 : Nat) : Int), 0) := rfl
theorem i128_46 : mm_cd 128 46 = some (.iload 4, 2, 0, 0) := rfl
theorem i128_48 : mm_cd 128 48 = some (.invokevirtual 91, 3, 0, 98) := rfl
theorem i128_51 : mm_cd 128 51 = some (.aload_n 0, 1, 0, 0) := rfl
theorem i128_52 : mm_cd 128 52 = some (.getfield 10, 3, ((10 : Nat) : Int), 0) := rfl
theorem i128_55 : mm_cd 128 55 = some (.iload 5, 2, 0, 0) := rfl
theorem i128_57 : mm_cd 128 57 = some (.invokevirtual 91, 3, 0, 98) := rfl
theorem i128_60 : mm_cd 128 60 = some (.aload_n 0, 1, 0, 0) := rfl
theorem i128_61 : mm_cd 128 61 = some (.getfield 10, 3, ((10 : Nat) : Int), 0) := rfl
theorem i128_64 : mm_cd 128 64 = some (.getfield 88, 3, ((8 : Nat) : Int), 1) := rfl
theorem i128_67 : mm_cd 128 67 = some (.ireturn, 1, 0, 0) := rfl
/-- SerialGate.feed(IIIII)I -/
def q128 (v1 : Int32) (v2 : Int32) (v3 : Int32) (v4 : Int32) (v5 : Int32) (s : mS) : Option mQ := if ((s.1 1 1) + (20 : Int32)) ≤ (400 : Int32) then (bM (q98 v1 s) fun s1 => bM (q98 v2 s1) fun s2 => bM (q98 v3 s2) fun s3 => bM (q98 v4 s3) fun s4 => bM (q98 v5 s4) fun s5 => rv (s5.1 1 1) s5) else (rv (-1 : Int32) s)
theorem c128 {L : Nat} {xs : Nat → Int32} {v1 : Int32} {v2 : Int32} {v3 : Int32} {v4 : Int32} {v5 : Int32} {s : mS} {r : mQ} (h : q128 v1 v2 v3 v4 v5 s = some r) : ∀ d, 1 ≤ d → Cl L xs d 128 [.ref 0, .int v1, .int v2, .int v3, .int v4, .int v5] (hp s) (hr r) := by
  intro d hd
  show Ev L xs d 128 0 [(0, .ref 0), (1, .int v1), (2, .int v2), (3, .int v3), (4, .int v4), (5, .int v5)] [] (hp s) (hr r)
  unfold q128 at h
  refine Ev.aload_n H128 i128_0 rfl ?_
  refine Rd.getR H128 i128_1 ob10 rfl ?_
  refine Rd.getI H128 i128_4 ob8 rfl ?_
  refine Ev.bipush H128 i128_7 kB_20 ?_
  refine Ev.iadd H128 i128_9 ?_
  refine Ev.sipush H128 i128_10 kS_400 ?_
  refine Rd.ic_le H128 i128_13 (t := 18) (by decide) h (fun hc h => ?_) (fun hc h => ?_)
  · refine Ev.aload_n H128 i128_18 rfl ?_
    refine Rd.getR H128 i128_19 ob10 rfl ?_
    refine Ev.iload_n H128 i128_22 rfl ?_
    refine Rd.cV1uN H128 i128_23 cal98 ob8 (Nat.le_of_ble_eq_true rfl) (Nat.le_of_ble_eq_true rfl) (Nat.lt_of_lt_of_le (by decide) hd) (fun q hq => c98 hq) h (fun s1 h => ?_)
    refine Ev.aload_n H128 i128_26 rfl ?_
    refine Rd.getR H128 i128_27 ob10 rfl ?_
    refine Ev.iload_n H128 i128_30 rfl ?_
    refine Rd.cV1uN H128 i128_31 cal98 ob8 (Nat.le_of_ble_eq_true rfl) (Nat.le_of_ble_eq_true rfl) (Nat.lt_of_lt_of_le (by decide) hd) (fun q hq => c98 hq) h (fun s2 h => ?_)
    refine Ev.aload_n H128 i128_34 rfl ?_
    refine Rd.getR H128 i128_35 ob10 rfl ?_
    refine Ev.iload_n H128 i128_38 rfl ?_
    refine Rd.cV1uN H128 i128_39 cal98 ob8 (Nat.le_of_ble_eq_true rfl) (Nat.le_of_ble_eq_true rfl) (Nat.lt_of_lt_of_le (by decide) hd) (fun q hq => c98 hq) h (fun s3 h => ?_)
    refine Ev.aload_n H128 i128_42 rfl ?_
    refine Rd.getR H128 i128_43 ob10 rfl ?_
    refine Ev.iload H128 i128_46 rfl ?_
    refine Rd.cV1uN H128 i128_48 cal98 ob8 (Nat.le_of_ble_eq_true rfl) (Nat.le_of_ble_eq_true rfl) (Nat.lt_of_lt_of_le (by decide) hd) (fun q hq => c98 hq) h (fun s4 h => ?_)
    refine Ev.aload_n H128 i128_51 rfl ?_
    refine Rd.getR H128 i128_52 ob10 rfl ?_
    refine Ev.iload H128 i128_55 rfl ?_
    refine Rd.cV1uN H128 i128_57 cal98 ob8 (Nat.le_of_ble_eq_true rfl) (Nat.le_of_ble_eq_true rfl) (Nat.lt_of_lt_of_le (by decide) hd) (fun q hq => c98 hq) h (fun s5 h => ?_)
    refine Ev.aload_n H128 i128_60 rfl ?_
    refine Rd.getR H128 i128_61 ob10 rfl ?_
    refine Rd.getI H128 i128_64 ob8 rfl ?_
    exact Rd.ireturn H128 i128_67 rfl h
  · refine Ev.iconst H128 i128_16 kI_m1 ?_
    exact Rd.ireturn H128 i128_17 rfl h
theorem i129_0 : mm_cd 129 0 = some (.iload_n 1, 1, 0, 0) := rfl
theorem i129_1 : mm_cd 129 1 = some (.ifCond .lt 14, 3, 0, 0) := rfl
theorem i129_4 : mm_cd 129 4 = some (.iload_n 1, 1, 0, 0) := rfl
theorem i129_5 : mm_cd 129 5 = some (.aload_n 0, 1, 0, 0) := rfl
theorem i129_6 : mm_cd 129 6 = some (.getfield 10, 3, ((10 : Nat) : Int), 0) := rfl
theorem i129_9 : mm_cd 129 9 = some (.getfield 88, 3, ((8 : Nat) : Int), 1) := rfl
theorem i129_12 : mm_cd 129 12 = some (.if_icmp .le 5, 3, 0, 0) := rfl
theorem i129_15 : mm_cd 129 15 = some (.iconst 0, 1, 0, 0) := rfl
theorem i129_16 : mm_cd 129 16 = some (.ireturn, 1, 0, 0) := rfl
theorem i129_17 : mm_cd 129 17 = some (.aload_n 0, 1, 0, 0) := rfl
theorem i129_18 : mm_cd 129 18 = some (.getfield 10, 3, ((10 : Nat) : Int), 0) := rfl
theorem i129_21 : mm_cd 129 21 = some (.iload_n 1, 1, 0, 0) := rfl
theorem i129_22 : mm_cd 129 22 = some (.putfield 88, 3, ((8 : Nat) : Int), 1) := rfl
theorem i129_25 : mm_cd 129 25 = some (.iconst 1, 1, 0, 0) := rfl
theorem i129_26 : mm_cd 129 26 = some (.ireturn, 1, 0, 0) := rfl
/-- SerialGate.end(I)Z -/
def q129 (v1 : Int32) (s : mS) : Option mQ := if v1 < 0 then (rv (0 : Int32) s) else (if v1 ≤ (s.1 1 1) then (sp (sI s 1 1 v1) fun s1 => rv (1 : Int32) s1) else (rv (0 : Int32) s))
theorem c129 {L : Nat} {xs : Nat → Int32} {v1 : Int32} {s : mS} {r : mQ} (h : q129 v1 s = some r) : ∀ d, 0 ≤ d → Cl L xs d 129 [.ref 0, .int v1] (hp s) (hr r) := by
  intro d hd
  show Ev L xs d 129 0 [(0, .ref 0), (1, .int v1)] [] (hp s) (hr r)
  unfold q129 at h
  refine Ev.iload_n H129 i129_0 rfl ?_
  refine Rd.if_lt H129 i129_1 (t := 15) (by decide) h (fun hc h => ?_) (fun hc h => ?_)
  · refine Ev.iconst H129 i129_15 kI_0 ?_
    exact Rd.ireturnK H129 i129_16 rfl (Or.inl rfl) h
  · refine Ev.iload_n H129 i129_4 rfl ?_
    refine Ev.aload_n H129 i129_5 rfl ?_
    refine Rd.getR H129 i129_6 ob10 rfl ?_
    refine Rd.getI H129 i129_9 ob8 rfl ?_
    refine Rd.ic_le H129 i129_12 (t := 17) (by decide) h (fun hc h => ?_) (fun hc h => ?_)
    · refine Ev.aload_n H129 i129_17 rfl ?_
      refine Rd.getR H129 i129_18 ob10 rfl ?_
      refine Ev.iload_n H129 i129_21 rfl ?_
      refine Rd.putI H129 i129_22 ob8 rfl ty8_1.1 ty8_1.2 h (fun s1 h => ?_)
      refine Ev.iconst H129 i129_25 kI_1 ?_
      exact Rd.ireturnK H129 i129_26 rfl (Or.inr rfl) h
    · refine Ev.iconst H129 i129_15 kI_0 ?_
      exact Rd.ireturnK H129 i129_16 rfl (Or.inl rfl) h
theorem i133_0 : mm_cd 133 0 = some (.aload_n 0, 1, 0, 0) := rfl
theorem i133_1 : mm_cd 133 1 = some (.iload_n 1, 1, 0, 0) := rfl
theorem i133_2 : mm_cd 133 2 = some (.ifCond .eq 7, 3, 0, 0) := rfl
theorem i133_5 : mm_cd 133 5 = some (.iconst (-1), 1, 0, 0) := rfl
theorem i133_6 : mm_cd 133 6 = some (.goto 10, 3, 0, 0) := rfl
theorem i133_9 : mm_cd 133 9 = some (.aload_n 0, 1, 0, 0) := rfl
theorem i133_10 : mm_cd 133 10 = some (.getfield 10, 3, ((10 : Nat) : Int), 0) := rfl
theorem i133_13 : mm_cd 133 13 = some (.getfield 139, 3, ((8 : Nat) : Int), 2) := rfl
theorem i133_16 : mm_cd 133 16 = some (.putfield 85, 3, ((10 : Nat) : Int), 13) := rfl
theorem i133_19 : mm_cd 133 19 = some (.aload_n 0, 1, 0, 0) := rfl
theorem i133_20 : mm_cd 133 20 = some (.getfield 10, 3, ((10 : Nat) : Int), 0) := rfl
theorem i133_23 : mm_cd 133 23 = some (.invokevirtual 142, 3, 0, 99) := rfl
theorem i133_26 : mm_cd 133 26 = some (.return_, 1, 0, 0) := rfl
def q133_16 (y1 : Int32) (s : mS) : Option mQ := sp (sI s 0 13 y1) fun s1 => bM (q99 s1) fun s2 => ru s2
theorem t133_16 {L : Nat} {xs : Nat → Int32} {d : Nat} (hd : 1 ≤ d) {y1 : Int32} {s : mS} {r : mQ} (h : q133_16 y1 s = some r) : Ev L xs d 133 16 [(0, .ref 0)] [.int y1, .ref 0] (hp s) (hr r) := by
  unfold q133_16 at h
  refine Rd.putI H133 i133_16 ob10 rfl ty10_13.1 ty10_13.2 h (fun s1 h => ?_)
  refine Ev.aload_n H133 i133_19 rfl ?_
  refine Rd.getR H133 i133_20 ob10 rfl ?_
  refine Rd.cV0uN H133 i133_23 cal99 ob8 (Nat.le_of_ble_eq_true rfl) (Nat.le_of_ble_eq_true rfl) (Nat.lt_of_lt_of_le (by decide) hd) (fun q hq => c99 hq) h (fun s2 h => ?_)
  exact Rd.return_ H133 i133_26 rfl h
/-- SerialGate.endText(Z)V -/
def q133 (v1 : Int32) (s : mS) : Option mQ := if v1 = 0 then (q133_16 (s.1 1 2) s) else (q133_16 (-1 : Int32) s)
theorem c133 {L : Nat} {xs : Nat → Int32} {v1 : Int32} {s : mS} {r : mQ} (h : q133 v1 s = some r) : ∀ d, 1 ≤ d → Cl L xs d 133 [.ref 0, .int v1] (hp s) (hr r) := by
  intro d hd
  show Ev L xs d 133 0 [(0, .ref 0), (1, .int v1)] [] (hp s) (hr r)
  unfold q133 at h
  refine Ev.aload_n H133 i133_0 rfl ?_
  refine Ev.iload_n H133 i133_1 rfl ?_
  refine Rd.if_eq H133 i133_2 (t := 9) (by decide) h (fun hc h => ?_) (fun hc h => ?_)
  · refine Ev.aload_n H133 i133_9 rfl ?_
    refine Rd.getR H133 i133_10 ob10 rfl ?_
    refine Rd.getI H133 i133_13 ob8 rfl ?_
    exact Ev.sub (l := [(0, .ref 0)]) rfl rfl (mm_sub_c rfl mm_sub_n) (t133_16 hd h)
  · refine Ev.iconst H133 i133_5 kI_m1 ?_
    refine Ev.goto H133 i133_6 (t := 16) (by decide) ?_
    exact Ev.sub (l := [(0, .ref 0)]) rfl rfl (mm_sub_c rfl mm_sub_n) (t133_16 hd h)
theorem i178_0 : mm_cd 178 0 = some (.aload_n 0, 1, 0, 0) := rfl
theorem i178_1 : mm_cd 178 1 = some (.iconst 0, 1, 0, 0) := rfl
theorem i178_2 : mm_cd 178 2 = some (.putfield 78, 3, ((10 : Nat) : Int), 11) := rfl
theorem i178_5 : mm_cd 178 5 = some (.return_, 1, 0, 0) := rfl
/-- SerialGate.forgetActs()V -/
def q178 (s : mS) : Option mQ := sp (sI s 0 11 (0 : Int32)) fun s1 => ru s1
theorem c178 {L : Nat} {xs : Nat → Int32} {s : mS} {r : mQ} (h : q178 s = some r) : ∀ d, 0 ≤ d → Cl L xs d 178 [.ref 0] (hp s) (hr r) := by
  intro d hd
  show Ev L xs d 178 0 [(0, .ref 0)] [] (hp s) (hr r)
  unfold q178 at h
  refine Ev.aload_n H178 i178_0 rfl ?_
  refine Ev.iconst H178 i178_1 kI_0 ?_
  refine Rd.putI H178 i178_2 ob10 rfl ty10_11.1 ty10_11.2 h (fun s1 h => ?_)
  exact Rd.return_ H178 i178_5 rfl h
theorem i130_0 : mm_cd 130 0 = some (.aload_n 0, 1, 0, 0) := rfl
theorem i130_1 : mm_cd 130 1 = some (.getfield 44, 3, ((10 : Nat) : Int), 5) := rfl
theorem i130_4 : mm_cd 130 4 = some (.aload_n 0, 1, 0, 0) := rfl
theorem i130_5 : mm_cd 130 5 = some (.getfield 40, 3, ((10 : Nat) : Int), 4) := rfl
theorem i130_8 : mm_cd 130 8 = some (.invokevirtual 95, 3, 0, 111) := rfl
theorem i130_11 : mm_cd 130 11 = some (.aload_n 0, 1, 0, 0) := rfl
theorem i130_12 : mm_cd 130 12 = some (.getfield 53, 3, ((10 : Nat) : Int), 7) := rfl
theorem i130_15 : mm_cd 130 15 = some (.aload_n 0, 1, 0, 0) := rfl
theorem i130_16 : mm_cd 130 16 = some (.getfield 44, 3, ((10 : Nat) : Int), 5) := rfl
theorem i130_19 : mm_cd 130 19 = some (.invokevirtual 99, 3, 0, 92) := rfl
theorem i130_22 : mm_cd 130 22 = some (.istore_n 1, 1, 0, 0) := rfl
theorem i130_23 : mm_cd 130 23 = some (.aload_n 0, 1, 0, 0) := rfl
theorem i130_24 : mm_cd 130 24 = some (.iload_n 1, 1, 0, 0) := rfl
theorem i130_25 : mm_cd 130 25 = some (.invokevirtual 103, 3, 0, 133) := rfl
theorem i130_28 : mm_cd 130 28 = some (.iload_n 1, 1, 0, 0) := rfl
theorem i130_29 : mm_cd 130 29 = some (.ifCond .ne 13, 3, 0, 0) := rfl
theorem i130_32 : mm_cd 130 32 = some (.new 107, 3, 1, 0) := rfl
theorem i130_42 : mm_cd 130 42 = some (.aload_n 0, 1, 0, 0) := rfl
theorem i130_43 : mm_cd 130 43 = some (.getfield 40, 3, ((10 : Nat) : Int), 4) := rfl
theorem i130_46 : mm_cd 130 46 = some (.getfield 114, 3, ((9 : Nat) : Int), 13) := rfl
theorem i130_49 : mm_cd 130 49 = some (.bipush 12, 2, 0, 0) := rfl
theorem i130_51 : mm_cd 130 51 = some (.if_icmp .lt 13, 3, 0, 0) := rfl
theorem i130_54 : mm_cd 130 54 = some (.new 117, 3, 1, 1) := rfl
theorem i130_64 : mm_cd 130 64 = some (.aload_n 0, 1, 0, 0) := rfl
theorem i130_65 : mm_cd 130 65 = some (.getfield 40, 3, ((10 : Nat) : Int), 4) := rfl
theorem i130_68 : mm_cd 130 68 = some (.aload_n 0, 1, 0, 0) := rfl
theorem i130_69 : mm_cd 130 69 = some (.getfield 44, 3, ((10 : Nat) : Int), 5) := rfl
theorem i130_72 : mm_cd 130 72 = some (.invokevirtual 95, 3, 0, 111) := rfl
theorem i130_75 : mm_cd 130 75 = some (.aload_n 0, 1, 0, 0) := rfl
theorem i130_76 : mm_cd 130 76 = some (.getfield 40, 3, ((10 : Nat) : Int), 4) := rfl
theorem i130_79 : mm_cd 130 79 = some (.dup, 1, 0, 0) := rfl
theorem i130_80 : mm_cd 130 80 = some (.getfield 114, 3, ((9 : Nat) : Int), 13) := rfl
theorem i130_83 : mm_cd 130 83 = some (.iconst 1, 1, 0, 0) := rfl
theorem i130_84 : mm_cd 130 84 = some (.iadd, 1, 0, 0) := rfl
theorem i130_85 : mm_cd 130 85 = some (.putfield 114, 3, ((9 : Nat) : Int), 13) := rfl
theorem i130_88 : mm_cd 130 88 = some (.aload_n 0, 1, 0, 0) := rfl
theorem i130_89 : mm_cd 130 89 = some (.getfield 40, 3, ((10 : Nat) : Int), 4) := rfl
theorem i130_92 : mm_cd 130 92 = some (.invokevirtual 122, 3, 0, 125) := rfl
theorem i130_95 : mm_cd 130 95 = some (.aload_n 0, 1, 0, 0) := rfl
theorem i130_96 : mm_cd 130 96 = some (.invokevirtual 125, 3, 0, 178) := rfl
theorem i130_99 : mm_cd 130 99 = some (.aload_n 0, 1, 0, 0) := rfl
theorem i130_100 : mm_cd 130 100 = some (.getfield 40, 3, ((10 : Nat) : Int), 4) := rfl
theorem i130_103 : mm_cd 130 103 = some (.getfield 114, 3, ((9 : Nat) : Int), 13) := rfl
theorem i130_106 : mm_cd 130 106 = some (.ireturn, 1, 0, 0) := rfl
/-- SerialGate.store()I -/
def q130 (s : mS) : Option mQ := bM (q111 58 26 s) fun s1 => bN (q92 58 s1) fun x3 s2 => bM (q133 x3 s2) fun s4 => if ¬ x3 = 0 then (if (s4.1 26 13) < (12 : Int32) then (bM (q111 26 58 s4) fun s5 => sp (sI s5 26 13 ((s5.1 26 13) + (1 : Int32))) fun s6 => bM (q125 26 s6) fun s7 => bM (q178 s7) fun s8 => rv (s8.1 26 13) s8) else (rx 1 s4)) else (rx 0 s4)
theorem c130 {L : Nat} {xs : Nat → Int32} {s : mS} {r : mQ} (h : q130 s = some r) : ∀ d, 7 ≤ d → Cl L xs d 130 [.ref 0] (hp s) (hr r) := by
  intro d hd
  show Ev L xs d 130 0 [(0, .ref 0)] [] (hp s) (hr r)
  unfold q130 at h
  refine Ev.aload_n H130 i130_0 rfl ?_
  refine Rd.getR H130 i130_1 ob10 rfl ?_
  refine Ev.aload_n H130 i130_4 rfl ?_
  refine Rd.getR H130 i130_5 ob10 rfl ?_
  refine Rd.cV1uN H130 i130_8 cal111 (ob9 mA9_58) (Nat.le_of_ble_eq_true rfl) (Nat.le_of_ble_eq_true rfl) (Nat.lt_of_lt_of_le (by decide) hd) (fun q hq => c111 mA9_58 mA9_26 hq) h (fun s1 h => ?_)
  refine Ev.aload_n H130 i130_11 rfl ?_
  refine Rd.getR H130 i130_12 ob10 rfl ?_
  refine Ev.aload_n H130 i130_15 rfl ?_
  refine Rd.getR H130 i130_16 ob10 rfl ?_
  refine Rd.cV1vN H130 i130_19 cal92 ob7 (Nat.le_of_ble_eq_true rfl) (Nat.le_of_ble_eq_true rfl) (Nat.lt_of_lt_of_le (by decide) hd) (fun q hq => c92 mA9_58 hq) h (fun x3 s2 h => ?_)
  refine Ev.istore_n H130 i130_22 (Nat.le_of_ble_eq_true rfl) (lv2 := [(1, .int x3), (0, .ref 0)]) rfl ?_
  refine Ev.aload_n H130 i130_23 rfl ?_
  refine Ev.iload_n H130 i130_24 rfl ?_
  refine Rd.cV1uN H130 i130_25 cal133 ob10 (Nat.le_of_ble_eq_true rfl) (Nat.le_of_ble_eq_true rfl) (Nat.lt_of_lt_of_le (by decide) hd) (fun q hq => c133 hq) h (fun s4 h => ?_)
  refine Ev.iload_n H130 i130_28 rfl ?_
  refine Rd.if_ne H130 i130_29 (t := 42) (by decide) h (fun hc h => ?_) (fun hc h => ?_)
  · refine Ev.aload_n H130 i130_42 rfl ?_
    refine Rd.getR H130 i130_43 ob10 rfl ?_
    refine Rd.getI H130 i130_46 (ob9 mA9_26) rfl ?_
    refine Ev.bipush H130 i130_49 kB_12 ?_
    refine Rd.ic_lt H130 i130_51 (t := 64) (by decide) h (fun hc h => ?_) (fun hc h => ?_)
    · refine Ev.aload_n H130 i130_64 rfl ?_
      refine Rd.getR H130 i130_65 ob10 rfl ?_
      refine Ev.aload_n H130 i130_68 rfl ?_
      refine Rd.getR H130 i130_69 ob10 rfl ?_
      refine Rd.cV1uN H130 i130_72 cal111 (ob9 mA9_26) (Nat.le_of_ble_eq_true rfl) (Nat.le_of_ble_eq_true rfl) (Nat.lt_of_lt_of_le (by decide) hd) (fun q hq => c111 mA9_26 mA9_58 hq) h (fun s5 h => ?_)
      refine Ev.aload_n H130 i130_75 rfl ?_
      refine Rd.getR H130 i130_76 ob10 rfl ?_
      refine Ev.dup H130 i130_79 rfl ?_
      refine Rd.getI H130 i130_80 (ob9 mA9_26) rfl ?_
      refine Ev.iconst H130 i130_83 kI_1 ?_
      refine Ev.iadd H130 i130_84 ?_
      refine Rd.putI H130 i130_85 (ob9 mA9_26) rfl ty9_13.1 ty9_13.2 h (fun s6 h => ?_)
      refine Ev.aload_n H130 i130_88 rfl ?_
      refine Rd.getR H130 i130_89 ob10 rfl ?_
      refine Rd.cV0uN H130 i130_92 cal125 (ob9 mA9_26) (Nat.le_of_ble_eq_true rfl) (Nat.le_of_ble_eq_true rfl) (Nat.lt_of_lt_of_le (by decide) hd) (fun q hq => c125 mA9_26 hq) h (fun s7 h => ?_)
      refine Ev.aload_n H130 i130_95 rfl ?_
      refine Rd.cV0uN H130 i130_96 cal178 ob10 (Nat.le_of_ble_eq_true rfl) (Nat.le_of_ble_eq_true rfl) (Nat.lt_of_lt_of_le (by decide) hd) (fun q hq => c178 hq) h (fun s8 h => ?_)
      refine Ev.aload_n H130 i130_99 rfl ?_
      refine Rd.getR H130 i130_100 ob10 rfl ?_
      refine Rd.getI H130 i130_103 (ob9 mA9_26) rfl ?_
      exact Rd.ireturn H130 i130_106 rfl h
    · exact Rd.throw H130 i130_54 (by decide +kernel) (Nat.le_of_ble_eq_true rfl) h
  · exact Rd.throw H130 i130_32 (by decide +kernel) (Nat.le_of_ble_eq_true rfl) h
theorem i131_0 : mm_cd 131 0 = some (.aload_n 0, 1, 0, 0) := rfl
theorem i131_1 : mm_cd 131 1 = some (.getfield 31, 3, ((10 : Nat) : Int), 3) := rfl
theorem i131_4 : mm_cd 131 4 = some (.invokevirtual 128, 3, 0, 28) := rfl
theorem i131_7 : mm_cd 131 7 = some (.istore_n 1, 1, 0, 0) := rfl
theorem i131_8 : mm_cd 131 8 = some (.aload_n 0, 1, 0, 0) := rfl
theorem i131_9 : mm_cd 131 9 = some (.iload_n 1, 1, 0, 0) := rfl
theorem i131_10 : mm_cd 131 10 = some (.invokevirtual 103, 3, 0, 133) := rfl
theorem i131_13 : mm_cd 131 13 = some (.iload_n 1, 1, 0, 0) := rfl
theorem i131_14 : mm_cd 131 14 = some (.ifCond .ne 13, 3, 0, 0) := rfl
theorem i131_17 : mm_cd 131 17 = some (.new 107, 3, 1, 2) := rfl
theorem i131_27 : mm_cd 131 27 = some (.aload_n 0, 1, 0, 0) := rfl
theorem i131_28 : mm_cd 131 28 = some (.getfield 19, 3, ((10 : Nat) : Int), 1) := rfl
theorem i131_31 : mm_cd 131 31 = some (.aload_n 0, 1, 0, 0) := rfl
theorem i131_32 : mm_cd 131 32 = some (.getfield 31, 3, ((10 : Nat) : Int), 3) := rfl
theorem i131_35 : mm_cd 131 35 = some (.getfield 131, 3, ((3 : Nat) : Int), 0) := rfl
theorem i131_38 : mm_cd 131 38 = some (.invokevirtual 134, 3, 0, 21) := rfl
theorem i131_41 : mm_cd 131 41 = some (.aload_n 0, 1, 0, 0) := rfl
theorem i131_42 : mm_cd 131 42 = some (.invokevirtual 125, 3, 0, 178) := rfl
theorem i131_45 : mm_cd 131 45 = some (.aload_n 0, 1, 0, 0) := rfl
theorem i131_46 : mm_cd 131 46 = some (.getfield 19, 3, ((10 : Nat) : Int), 1) := rfl
theorem i131_49 : mm_cd 131 49 = some (.getfield 136, 3, ((2 : Nat) : Int), 0) := rfl
theorem i131_52 : mm_cd 131 52 = some (.ireturn, 1, 0, 0) := rfl
/-- SerialGate.law()I -/
def q131 (s : mS) : Option mQ := bN (q28 s) fun x2 s1 => bM (q133 x2 s1) fun s3 => if ¬ x2 = 0 then (bM (q21 3 18 s3) fun s4 => bM (q178 s4) fun s5 => rv (s5.1 3 0) s5) else (rx 0 s3)
theorem c131 {L : Nat} {xs : Nat → Int32} {s : mS} {r : mQ} (h : q131 s = some r) : ∀ d, 7 ≤ d → Cl L xs d 131 [.ref 0] (hp s) (hr r) := by
  intro d hd
  show Ev L xs d 131 0 [(0, .ref 0)] [] (hp s) (hr r)
  unfold q131 at h
  refine Ev.aload_n H131 i131_0 rfl ?_
  refine Rd.getR H131 i131_1 ob10 rfl ?_
  refine Rd.cV0vN H131 i131_4 cal28 ob3 (Nat.le_of_ble_eq_true rfl) (Nat.le_of_ble_eq_true rfl) (Nat.lt_of_lt_of_le (by decide) hd) (fun q hq => c28 hq) h (fun x2 s1 h => ?_)
  refine Ev.istore_n H131 i131_7 (Nat.le_of_ble_eq_true rfl) (lv2 := [(1, .int x2), (0, .ref 0)]) rfl ?_
  refine Ev.aload_n H131 i131_8 rfl ?_
  refine Ev.iload_n H131 i131_9 rfl ?_
  refine Rd.cV1uN H131 i131_10 cal133 ob10 (Nat.le_of_ble_eq_true rfl) (Nat.le_of_ble_eq_true rfl) (Nat.lt_of_lt_of_le (by decide) hd) (fun q hq => c133 hq) h (fun s3 h => ?_)
  refine Ev.iload_n H131 i131_13 rfl ?_
  refine Rd.if_ne H131 i131_14 (t := 27) (by decide) h (fun hc h => ?_) (fun hc h => ?_)
  · refine Ev.aload_n H131 i131_27 rfl ?_
    refine Rd.getR H131 i131_28 ob10 rfl ?_
    refine Ev.aload_n H131 i131_31 rfl ?_
    refine Rd.getR H131 i131_32 ob10 rfl ?_
    refine Rd.getR H131 i131_35 ob3 rfl ?_
    refine Rd.cV1uN H131 i131_38 cal21 (ob2 mA2_3) (Nat.le_of_ble_eq_true rfl) (Nat.le_of_ble_eq_true rfl) (Nat.lt_of_lt_of_le (by decide) hd) (fun q hq => c21 mA2_3 mA2_18 hq) h (fun s4 h => ?_)
    refine Ev.aload_n H131 i131_41 rfl ?_
    refine Rd.cV0uN H131 i131_42 cal178 ob10 (Nat.le_of_ble_eq_true rfl) (Nat.le_of_ble_eq_true rfl) (Nat.lt_of_lt_of_le (by decide) hd) (fun q hq => c178 hq) h (fun s5 h => ?_)
    refine Ev.aload_n H131 i131_45 rfl ?_
    refine Rd.getR H131 i131_46 ob10 rfl ?_
    refine Rd.getI H131 i131_49 (ob2 mA2_3) rfl ?_
    exact Rd.ireturn H131 i131_52 rfl h
  · exact Rd.throw H131 i131_17 (by decide +kernel) (Nat.le_of_ble_eq_true rfl) h
theorem i132_0 : mm_cd 132 0 = some (.aload_n 0, 1, 0, 0) := rfl
theorem i132_1 : mm_cd 132 1 = some (.getfield 85, 3, ((10 : Nat) : Int), 13) := rfl
theorem i132_4 : mm_cd 132 4 = some (.ireturn, 1, 0, 0) := rfl
/-- SerialGate.fault()I -/
def q132 (s : mS) : Option mQ := rv (s.1 0 13) s
theorem c132 {L : Nat} {xs : Nat → Int32} {s : mS} {r : mQ} (h : q132 s = some r) : ∀ d, 0 ≤ d → Cl L xs d 132 [.ref 0] (hp s) (hr r) := by
  intro d hd
  show Ev L xs d 132 0 [(0, .ref 0)] [] (hp s) (hr r)
  unfold q132 at h
  refine Ev.aload_n H132 i132_0 rfl ?_
  refine Rd.getI H132 i132_1 ob10 rfl ?_
  exact Rd.ireturn H132 i132_4 rfl h
theorem i179_0 : mm_cd 179 0 = some (.iload_n 0, 1, 0, 0) := rfl
theorem i179_1 : mm_cd 179 1 = some (.ifCond .lt 9, 3, 0, 0) := rfl
theorem i179_4 : mm_cd 179 4 = some (.iload_n 0, 1, 0, 0) := rfl
theorem i179_5 : mm_cd 179 5 = some (.bipush 8, 2, 0, 0) := rfl
theorem i179_7 : mm_cd 179 7 = some (.if_icmp .lt 14, 3, 0, 0) := rfl
theorem i179_10 : mm_cd 179 10 = some (.new 462, 3, 1, 9) := rfl
theorem i179_21 : mm_cd 179 21 = some (.return_, 1, 0, 0) := rfl
def q179_10 (s : mS) : Option mQ := rx 2 s
theorem t179_10 {L : Nat} {xs : Nat → Int32} {d : Nat} (hd : 0 ≤ d) {s : mS} {r : mQ} (h : q179_10 s = some r) : Ev L xs d 179 10 [] [] (hp s) (hr r) := by
  unfold q179_10 at h
  exact Rd.throw H179 i179_10 (by decide +kernel) (Nat.le_of_ble_eq_true rfl) h
/-- SerialGate.needSlot(I)V -/
def q179 (v0 : Int32) (s : mS) : Option mQ := if v0 < 0 then (q179_10 s) else (if v0 < (8 : Int32) then (ru s) else (q179_10 s))
theorem c179 {L : Nat} {xs : Nat → Int32} {v0 : Int32} {s : mS} {r : mQ} (h : q179 v0 s = some r) : ∀ d, 0 ≤ d → Cl L xs d 179 [.int v0] (hp s) (hr r) := by
  intro d hd
  show Ev L xs d 179 0 [(0, .int v0)] [] (hp s) (hr r)
  unfold q179 at h
  refine Ev.iload_n H179 i179_0 rfl ?_
  refine Rd.if_lt H179 i179_1 (t := 10) (by decide) h (fun hc h => ?_) (fun hc h => ?_)
  · exact Ev.sub (l := []) rfl rfl mm_sub_n (t179_10 hd h)
  · refine Ev.iload_n H179 i179_4 rfl ?_
    refine Ev.bipush H179 i179_5 kB_8 ?_
    refine Rd.ic_lt H179 i179_7 (t := 21) (by decide) h (fun hc h => ?_) (fun hc h => ?_)
    · exact Rd.return_ H179 i179_21 rfl h
    · exact Ev.sub (l := []) rfl rfl mm_sub_n (t179_10 hd h)
theorem i184_0 : mm_cd 184 0 = some (.iload_n 0, 1, 0, 0) := rfl
theorem i184_1 : mm_cd 184 1 = some (.ifCond .lt 8, 3, 0, 0) := rfl
theorem i184_4 : mm_cd 184 4 = some (.iload_n 0, 1, 0, 0) := rfl
theorem i184_5 : mm_cd 184 5 = some (.iload_n 1, 1, 0, 0) := rfl
theorem i184_6 : mm_cd 184 6 = some (.if_icmp .le 14, 3, 0, 0) := rfl
theorem i184_9 : mm_cd 184 9 = some (.new 475, 3, 1, 14) := rfl
theorem i184_20 : mm_cd 184 20 = some (.return_, 1, 0, 0) := rfl
def q184_9 (s : mS) : Option mQ := rx 3 s
theorem t184_9 {L : Nat} {xs : Nat → Int32} {d : Nat} (hd : 0 ≤ d) {s : mS} {r : mQ} (h : q184_9 s = some r) : Ev L xs d 184 9 [] [] (hp s) (hr r) := by
  unfold q184_9 at h
  exact Rd.throw H184 i184_9 (by decide +kernel) (Nat.le_of_ble_eq_true rfl) h
/-- SerialGate.needWhat(II)V -/
def q184 (v0 : Int32) (v1 : Int32) (s : mS) : Option mQ := if v0 < 0 then (q184_9 s) else (if v0 ≤ v1 then (ru s) else (q184_9 s))
theorem c184 {L : Nat} {xs : Nat → Int32} {v0 : Int32} {v1 : Int32} {s : mS} {r : mQ} (h : q184 v0 v1 s = some r) : ∀ d, 0 ≤ d → Cl L xs d 184 [.int v0, .int v1] (hp s) (hr r) := by
  intro d hd
  show Ev L xs d 184 0 [(0, .int v0), (1, .int v1)] [] (hp s) (hr r)
  unfold q184 at h
  refine Ev.iload_n H184 i184_0 rfl ?_
  refine Rd.if_lt H184 i184_1 (t := 9) (by decide) h (fun hc h => ?_) (fun hc h => ?_)
  · exact Ev.sub (l := []) rfl rfl mm_sub_n (t184_9 hd h)
  · refine Ev.iload_n H184 i184_4 rfl ?_
    refine Ev.iload_n H184 i184_5 rfl ?_
    refine Rd.ic_le H184 i184_6 (t := 20) (by decide) h (fun hc h => ?_) (fun hc h => ?_)
    · exact Rd.return_ H184 i184_20 rfl h
    · exact Ev.sub (l := []) rfl rfl mm_sub_n (t184_9 hd h)
theorem i134_0 : mm_cd 134 0 = some (.iload_n 1, 1, 0, 0) := rfl
theorem i134_1 : mm_cd 134 1 = some (.invokestatic 145, 3, 0, 179) := rfl
theorem i134_4 : mm_cd 134 4 = some (.iload_n 2, 1, 0, 0) := rfl
theorem i134_5 : mm_cd 134 5 = some (.bipush 15, 2, 0, 0) := rfl
theorem i134_7 : mm_cd 134 7 = some (.invokestatic 148, 3, 0, 184) := rfl
theorem i134_10 : mm_cd 134 10 = some (.aload_n 0, 1, 0, 0) := rfl
theorem i134_11 : mm_cd 134 11 = some (.getfield 40, 3, ((10 : Nat) : Int), 4) := rfl
theorem i134_14 : mm_cd 134 14 = some (.getfield 152, 3, ((9 : Nat) : Int), 2) := rfl
theorem i134_17 : mm_cd 134 17 = some (.astore_n 3, 1, 0, 0) := rfl
theorem i134_18 : mm_cd 134 18 = some (.iload_n 2, 1, 0, 0) := rfl
theorem i134_19 : mm_cd 134 19 = some (.ifCond .ne 29, 3, 0, 0) := rfl
theorem i134_22 : mm_cd 134 22 = some (.aload_n 3, 1, 0, 0) := rfl
theorem i134_23 : mm_cd 134 23 = some (.iload_n 1, 1, 0, 0) := rfl
theorem i134_24 : mm_cd 134 24 = some (.invokevirtual 156, 3, 0, 64) := rfl
theorem i134_27 : mm_cd 134 27 = some (.ifCond .eq 7, 3, 0, 0) := rfl
theorem i134_30 : mm_cd 134 30 = some (.iconst 1, 1, 0, 0) := rfl
theorem i134_31 : mm_cd 134 31 = some (.goto 16, 3, 0, 0) := rfl
theorem i134_34 : mm_cd 134 34 = some (.aload_n 3, 1, 0, 0) := rfl
theorem i134_35 : mm_cd 134 35 = some (.iload_n 1, 1, 0, 0) := rfl
theorem i134_36 : mm_cd 134 36 = some (.invokevirtual 162, 3, 0, 65) := rfl
theorem i134_39 : mm_cd 134 39 = some (.ifCond .eq 7, 3, 0, 0) := rfl
theorem i134_42 : mm_cd 134 42 = some (.iconst 2, 1, 0, 0) := rfl
theorem i134_43 : mm_cd 134 43 = some (.goto 4, 3, 0, 0) := rfl
theorem i134_46 : mm_cd 134 46 = some (.iconst 0, 1, 0, 0) := rfl
theorem i134_47 : mm_cd 134 47 = some (.ireturn, 1, 0, 0) := rfl
theorem i134_48 : mm_cd 134 48 = some (.aload_n 3, 1, 0, 0) := rfl
theorem i134_49 : mm_cd 134 49 = some (.iload_n 1, 1, 0, 0) := rfl
theorem i134_50 : mm_cd 134 50 = some (.invokevirtual 162, 3, 0, 65) := rfl
theorem i134_53 : mm_cd 134 53 = some (.ifCond .ne 5, 3, 0, 0) := rfl
theorem i134_56 : mm_cd 134 56 = some (.iconst (-1), 1, 0, 0) := rfl
theorem i134_57 : mm_cd 134 57 = some (.ireturn, 1, 0, 0) := rfl
theorem i134_58 : mm_cd 134 58 = some (.iload_n 2, 1, 0, 0) := rfl
theorem i134_59 : mm_cd 134 59 = some (.tableswitch 177 1 14 #[69, 76, 83, 90, 97, 104, 111, 118, 125, 131, 140, 149, 156, 163], 69, 0, 0) := rfl
theorem i134_128 : mm_cd 134 128 = some (.aload_n 3, 1, 0, 0) := rfl
theorem i134_129 : mm_cd 134 129 = some (.getfield 165, 3, ((6 : Nat) : Int), 4) := rfl
theorem i134_132 : mm_cd 134 132 = some (.iload_n 1, 1, 0, 0) := rfl
theorem i134_133 : mm_cd 134 133 = some (.iaload, 1, 0, 0) := rfl
theorem i134_134 : mm_cd 134 134 = some (.ireturn, 1, 0, 0) := rfl
theorem i134_135 : mm_cd 134 135 = some (.aload_n 3, 1, 0, 0) := rfl
theorem i134_136 : mm_cd 134 136 = some (.getfield 169, 3, ((6 : Nat) : Int), 5) := rfl
theorem i134_139 : mm_cd 134 139 = some (.iload_n 1, 1, 0, 0) := rfl
theorem i134_140 : mm_cd 134 140 = some (.iaload, 1, 0, 0) := rfl
theorem i134_141 : mm_cd 134 141 = some (.ireturn, 1, 0, 0) := rfl
theorem i134_142 : mm_cd 134 142 = some (.aload_n 3, 1, 0, 0) := rfl
theorem i134_143 : mm_cd 134 143 = some (.getfield 172, 3, ((6 : Nat) : Int), 6) := rfl
theorem i134_146 : mm_cd 134 146 = some (.iload_n 1, 1, 0, 0) := rfl
theorem i134_147 : mm_cd 134 147 = some (.iaload, 1, 0, 0) := rfl
theorem i134_148 : mm_cd 134 148 = some (.ireturn, 1, 0, 0) := rfl
theorem i134_149 : mm_cd 134 149 = some (.aload_n 3, 1, 0, 0) := rfl
theorem i134_150 : mm_cd 134 150 = some (.getfield 175, 3, ((6 : Nat) : Int), 7) := rfl
theorem i134_153 : mm_cd 134 153 = some (.iload_n 1, 1, 0, 0) := rfl
theorem i134_154 : mm_cd 134 154 = some (.iaload, 1, 0, 0) := rfl
theorem i134_155 : mm_cd 134 155 = some (.ireturn, 1, 0, 0) := rfl
theorem i134_156 : mm_cd 134 156 = some (.aload_n 3, 1, 0, 0) := rfl
theorem i134_157 : mm_cd 134 157 = some (.getfield 178, 3, ((6 : Nat) : Int), 8) := rfl
theorem i134_160 : mm_cd 134 160 = some (.iload_n 1, 1, 0, 0) := rfl
theorem i134_161 : mm_cd 134 161 = some (.iaload, 1, 0, 0) := rfl
theorem i134_162 : mm_cd 134 162 = some (.ireturn, 1, 0, 0) := rfl
theorem i134_163 : mm_cd 134 163 = some (.aload_n 3, 1, 0, 0) := rfl
theorem i134_164 : mm_cd 134 164 = some (.getfield 181, 3, ((6 : Nat) : Int), 9) := rfl
theorem i134_167 : mm_cd 134 167 = some (.iload_n 1, 1, 0, 0) := rfl
theorem i134_168 : mm_cd 134 168 = some (.iaload, 1, 0, 0) := rfl
theorem i134_169 : mm_cd 134 169 = some (.ireturn, 1, 0, 0) := rfl
theorem i134_170 : mm_cd 134 170 = some (.aload_n 3, 1, 0, 0) := rfl
theorem i134_171 : mm_cd 134 171 = some (.getfield 184, 3, ((6 : Nat) : Int), 12) := rfl
theorem i134_174 : mm_cd 134 174 = some (.iload_n 1, 1, 0, 0) := rfl
theorem i134_175 : mm_cd 134 175 = some (.iaload, 1, 0, 0) := rfl
theorem i134_176 : mm_cd 134 176 = some (.ireturn, 1, 0, 0) := rfl
theorem i134_177 : mm_cd 134 177 = some (.aload_n 3, 1, 0, 0) := rfl
theorem i134_178 : mm_cd 134 178 = some (.getfield 187, 3, ((6 : Nat) : Int), 13) := rfl
theorem i134_181 : mm_cd 134 181 = some (.iload_n 1, 1, 0, 0) := rfl
theorem i134_182 : mm_cd 134 182 = some (.iaload, 1, 0, 0) := rfl
theorem i134_183 : mm_cd 134 183 = some (.ireturn, 1, 0, 0) := rfl
theorem i134_184 : mm_cd 134 184 = some (.aload_n 3, 1, 0, 0) := rfl
theorem i134_185 : mm_cd 134 185 = some (.iload_n 1, 1, 0, 0) := rfl
theorem i134_186 : mm_cd 134 186 = some (.invokevirtual 190, 3, 0, 76) := rfl
theorem i134_189 : mm_cd 134 189 = some (.ireturn, 1, 0, 0) := rfl
theorem i134_190 : mm_cd 134 190 = some (.aload_n 0, 1, 0, 0) := rfl
theorem i134_191 : mm_cd 134 191 = some (.getfield 40, 3, ((10 : Nat) : Int), 4) := rfl
theorem i134_194 : mm_cd 134 194 = some (.iload_n 1, 1, 0, 0) := rfl
theorem i134_195 : mm_cd 134 195 = some (.invokevirtual 194, 3, 0, 122) := rfl
theorem i134_198 : mm_cd 134 198 = some (.ireturn, 1, 0, 0) := rfl
theorem i134_199 : mm_cd 134 199 = some (.aload_n 0, 1, 0, 0) := rfl
theorem i134_200 : mm_cd 134 200 = some (.getfield 40, 3, ((10 : Nat) : Int), 4) := rfl
theorem i134_203 : mm_cd 134 203 = some (.iload_n 1, 1, 0, 0) := rfl
theorem i134_204 : mm_cd 134 204 = some (.invokevirtual 197, 3, 0, 123) := rfl
theorem i134_207 : mm_cd 134 207 = some (.ireturn, 1, 0, 0) := rfl
theorem i134_208 : mm_cd 134 208 = some (.aload_n 3, 1, 0, 0) := rfl
theorem i134_209 : mm_cd 134 209 = some (.getfield 200, 3, ((6 : Nat) : Int), 10) := rfl
theorem i134_212 : mm_cd 134 212 = some (.iload_n 1, 1, 0, 0) := rfl
theorem i134_213 : mm_cd 134 213 = some (.iaload, 1, 0, 0) := rfl
theorem i134_214 : mm_cd 134 214 = some (.ireturn, 1, 0, 0) := rfl
theorem i134_215 : mm_cd 134 215 = some (.aload_n 3, 1, 0, 0) := rfl
theorem i134_216 : mm_cd 134 216 = some (.getfield 203, 3, ((6 : Nat) : Int), 11) := rfl
theorem i134_219 : mm_cd 134 219 = some (.iload_n 1, 1, 0, 0) := rfl
theorem i134_220 : mm_cd 134 220 = some (.iaload, 1, 0, 0) := rfl
theorem i134_221 : mm_cd 134 221 = some (.ireturn, 1, 0, 0) := rfl
theorem i134_222 : mm_cd 134 222 = some (.aload_n 3, 1, 0, 0) := rfl
theorem i134_223 : mm_cd 134 223 = some (.iload_n 1, 1, 0, 0) := rfl
theorem i134_224 : mm_cd 134 224 = some (.invokevirtual 206, 3, 0, 68) := rfl
theorem i134_227 : mm_cd 134 227 = some (.ifCond .eq 7, 3, 0, 0) := rfl
theorem i134_230 : mm_cd 134 230 = some (.iconst 1, 1, 0, 0) := rfl
theorem i134_231 : mm_cd 134 231 = some (.goto 4, 3, 0, 0) := rfl
theorem i134_234 : mm_cd 134 234 = some (.iconst 0, 1, 0, 0) := rfl
theorem i134_235 : mm_cd 134 235 = some (.ireturn, 1, 0, 0) := rfl
theorem i134_236 : mm_cd 134 236 = some (.aload_n 3, 1, 0, 0) := rfl
theorem i134_237 : mm_cd 134 237 = some (.iload_n 1, 1, 0, 0) := rfl
theorem i134_238 : mm_cd 134 238 = some (.invokevirtual 209, 3, 0, 67) := rfl
theorem i134_241 : mm_cd 134 241 = some (.ifCond .eq 7, 3, 0, 0) := rfl
theorem i134_244 : mm_cd 134 244 = some (.iconst 1, 1, 0, 0) := rfl
theorem i134_245 : mm_cd 134 245 = some (.goto 4, 3, 0, 0) := rfl
theorem i134_248 : mm_cd 134 248 = some (.iconst 0, 1, 0, 0) := rfl
theorem i134_249 : mm_cd 134 249 = some (.ireturn, 1, 0, 0) := rfl
/-- SerialGate.slot(II)I -/
def q134 (v1 : Int32) (v2 : Int32) (s : mS) : Option mQ := bU (q179 v1 s) fun s1 => bU (q184 v2 (15 : Int32) s1) fun s2 => if ¬ v2 = 0 then (bN (q65 (26 + 6) v1 s2) fun x4 s3 => if ¬ x4 = 0 then (if v2 = (1 : Int32) then (gA 8 v1 <| rv (s3.1 ((26 + 6) + 1) v1.toNatClampNeg) s3) else if v2 = (2 : Int32) then (gA 8 v1 <| rv (s3.1 ((26 + 6) + 2) v1.toNatClampNeg) s3) else if v2 = (3 : Int32) then (gA 8 v1 <| rv (s3.1 ((26 + 6) + 3) v1.toNatClampNeg) s3) else if v2 = (4 : Int32) then (gA 8 v1 <| rv (s3.1 ((26 + 6) + 4) v1.toNatClampNeg) s3) else if v2 = (5 : Int32) then (gA 8 v1 <| rv (s3.1 ((26 + 6) + 5) v1.toNatClampNeg) s3) else if v2 = (6 : Int32) then (gA 8 v1 <| rv (s3.1 ((26 + 6) + 6) v1.toNatClampNeg) s3) else if v2 = (7 : Int32) then (gA 8 v1 <| rv (s3.1 ((26 + 6) + 9) v1.toNatClampNeg) s3) else if v2 = (8 : Int32) then (gA 8 v1 <| rv (s3.1 ((26 + 6) + 10) v1.toNatClampNeg) s3) else if v2 = (9 : Int32) then (bN (q76 (26 + 6) v1 s3) fun x6 s5 => rv x6 s5) else if v2 = (10 : Int32) then (bN (q122 26 v1 s3) fun x8 s7 => rv x8 s7) else if v2 = (11 : Int32) then (bN (q123 26 v1 s3) fun x10 s9 => rv x10 s9) else if v2 = (12 : Int32) then (gA 8 v1 <| rv (s3.1 ((26 + 6) + 7) v1.toNatClampNeg) s3) else if v2 = (13 : Int32) then (gA 8 v1 <| rv (s3.1 ((26 + 6) + 8) v1.toNatClampNeg) s3) else if v2 = (14 : Int32) then (bN (q68 (26 + 6) v1 s3) fun x12 s11 => if x12 = 0 then (rv (0 : Int32) s11) else (rv (1 : Int32) s11)) else (bN (q67 (26 + 6) v1 s3) fun x14 s13 => if x14 = 0 then (rv (0 : Int32) s13) else (rv (1 : Int32) s13))) else (rv (-1 : Int32) s3)) else (bN (q64 (26 + 6) v1 s2) fun x16 s15 => if x16 = 0 then (bN (q65 (26 + 6) v1 s15) fun x18 s17 => if x18 = 0 then (rv (0 : Int32) s17) else (rv (2 : Int32) s17)) else (rv (1 : Int32) s15))
theorem c134 {L : Nat} {xs : Nat → Int32} {v1 : Int32} {v2 : Int32} {s : mS} {r : mQ} (h : q134 v1 v2 s = some r) : ∀ d, 3 ≤ d → Cl L xs d 134 [.ref 0, .int v1, .int v2] (hp s) (hr r) := by
  intro d hd
  show Ev L xs d 134 0 [(0, .ref 0), (1, .int v1), (2, .int v2)] [] (hp s) (hr r)
  unfold q134 at h
  refine Ev.iload_n H134 i134_0 rfl ?_
  refine Rd.cS1uT H134 i134_1 cal179 (Nat.le_of_ble_eq_true rfl) (Nat.le_of_ble_eq_true rfl) rfl rfl (Nat.lt_of_lt_of_le (by decide) hd) (fun q hq => c179 hq) h (fun s1 h => ?_)
  refine Ev.iload_n H134 i134_4 rfl ?_
  refine Ev.bipush H134 i134_5 kB_15 ?_
  refine Rd.cS2uT H134 i134_7 cal184 (Nat.le_of_ble_eq_true rfl) (Nat.le_of_ble_eq_true rfl) rfl rfl (Nat.lt_of_lt_of_le (by decide) hd) (fun q hq => c184 hq) h (fun s2 h => ?_)
  refine Ev.aload_n H134 i134_10 rfl ?_
  refine Rd.getR H134 i134_11 ob10 rfl ?_
  refine Rd.getR H134 i134_14 (ob9 mA9_26) rfl ?_
  refine Ev.astore_n H134 i134_17 (Nat.le_of_ble_eq_true rfl) (lv2 := [(3, .ref (26 + 6)), (0, .ref 0), (1, .int v1), (2, .int v2)]) rfl ?_
  refine Ev.iload_n H134 i134_18 rfl ?_
  refine Rd.if_ne H134 i134_19 (t := 48) (by decide) h (fun hc h => ?_) (fun hc h => ?_)
  · refine Ev.aload_n H134 i134_48 rfl ?_
    refine Ev.iload_n H134 i134_49 rfl ?_
    refine Rd.cV1vN H134 i134_50 cal65 (ob6 (m9_6_6 mA9_26)) (Nat.le_of_ble_eq_true rfl) (Nat.le_of_ble_eq_true rfl) (Nat.lt_of_lt_of_le (by decide) hd) (fun q hq => c65 (m9_6_6 mA9_26) hq) h (fun x4 s3 h => ?_)
    refine Rd.if_ne H134 i134_53 (t := 58) (by decide) h (fun hc h => ?_) (fun hc h => ?_)
    · refine Ev.iload_n H134 i134_58 rfl ?_
      refine Rd.sw h (fun hc h => ?_) (fun hc0 h => ?_)
      · refine Rd.tsw H134 i134_59 (t := 128) (by rw [hc]; decide) ?_
        refine Ev.aload_n H134 i134_128 rfl ?_
        refine Rd.getR H134 i134_129 (ob6 (m9_6_6 mA9_26)) rfl ?_
        refine Ev.iload_n H134 i134_132 rfl ?_
        refine Rd.iaload H134 i134_133 (ar6_1 (m9_6_6 mA9_26)) h (fun h => ?_)
        exact Rd.ireturn H134 i134_134 rfl h
      refine Rd.sw h (fun hc h => ?_) (fun hc1 h => ?_)
      · refine Rd.tsw H134 i134_59 (t := 135) (by rw [hc]; decide) ?_
        refine Ev.aload_n H134 i134_135 rfl ?_
        refine Rd.getR H134 i134_136 (ob6 (m9_6_6 mA9_26)) rfl ?_
        refine Ev.iload_n H134 i134_139 rfl ?_
        refine Rd.iaload H134 i134_140 (ar6_2 (m9_6_6 mA9_26)) h (fun h => ?_)
        exact Rd.ireturn H134 i134_141 rfl h
      refine Rd.sw h (fun hc h => ?_) (fun hc2 h => ?_)
      · refine Rd.tsw H134 i134_59 (t := 142) (by rw [hc]; decide) ?_
        refine Ev.aload_n H134 i134_142 rfl ?_
        refine Rd.getR H134 i134_143 (ob6 (m9_6_6 mA9_26)) rfl ?_
        refine Ev.iload_n H134 i134_146 rfl ?_
        refine Rd.iaload H134 i134_147 (ar6_3 (m9_6_6 mA9_26)) h (fun h => ?_)
        exact Rd.ireturn H134 i134_148 rfl h
      refine Rd.sw h (fun hc h => ?_) (fun hc3 h => ?_)
      · refine Rd.tsw H134 i134_59 (t := 149) (by rw [hc]; decide) ?_
        refine Ev.aload_n H134 i134_149 rfl ?_
        refine Rd.getR H134 i134_150 (ob6 (m9_6_6 mA9_26)) rfl ?_
        refine Ev.iload_n H134 i134_153 rfl ?_
        refine Rd.iaload H134 i134_154 (ar6_4 (m9_6_6 mA9_26)) h (fun h => ?_)
        exact Rd.ireturn H134 i134_155 rfl h
      refine Rd.sw h (fun hc h => ?_) (fun hc4 h => ?_)
      · refine Rd.tsw H134 i134_59 (t := 156) (by rw [hc]; decide) ?_
        refine Ev.aload_n H134 i134_156 rfl ?_
        refine Rd.getR H134 i134_157 (ob6 (m9_6_6 mA9_26)) rfl ?_
        refine Ev.iload_n H134 i134_160 rfl ?_
        refine Rd.iaload H134 i134_161 (ar6_5 (m9_6_6 mA9_26)) h (fun h => ?_)
        exact Rd.ireturn H134 i134_162 rfl h
      refine Rd.sw h (fun hc h => ?_) (fun hc5 h => ?_)
      · refine Rd.tsw H134 i134_59 (t := 163) (by rw [hc]; decide) ?_
        refine Ev.aload_n H134 i134_163 rfl ?_
        refine Rd.getR H134 i134_164 (ob6 (m9_6_6 mA9_26)) rfl ?_
        refine Ev.iload_n H134 i134_167 rfl ?_
        refine Rd.iaload H134 i134_168 (ar6_6 (m9_6_6 mA9_26)) h (fun h => ?_)
        exact Rd.ireturn H134 i134_169 rfl h
      refine Rd.sw h (fun hc h => ?_) (fun hc6 h => ?_)
      · refine Rd.tsw H134 i134_59 (t := 170) (by rw [hc]; decide) ?_
        refine Ev.aload_n H134 i134_170 rfl ?_
        refine Rd.getR H134 i134_171 (ob6 (m9_6_6 mA9_26)) rfl ?_
        refine Ev.iload_n H134 i134_174 rfl ?_
        refine Rd.iaload H134 i134_175 (ar6_9 (m9_6_6 mA9_26)) h (fun h => ?_)
        exact Rd.ireturn H134 i134_176 rfl h
      refine Rd.sw h (fun hc h => ?_) (fun hc7 h => ?_)
      · refine Rd.tsw H134 i134_59 (t := 177) (by rw [hc]; decide) ?_
        refine Ev.aload_n H134 i134_177 rfl ?_
        refine Rd.getR H134 i134_178 (ob6 (m9_6_6 mA9_26)) rfl ?_
        refine Ev.iload_n H134 i134_181 rfl ?_
        refine Rd.iaload H134 i134_182 (ar6_10 (m9_6_6 mA9_26)) h (fun h => ?_)
        exact Rd.ireturn H134 i134_183 rfl h
      refine Rd.sw h (fun hc h => ?_) (fun hc8 h => ?_)
      · refine Rd.tsw H134 i134_59 (t := 184) (by rw [hc]; decide) ?_
        refine Ev.aload_n H134 i134_184 rfl ?_
        refine Ev.iload_n H134 i134_185 rfl ?_
        refine Rd.cV1vN H134 i134_186 cal76 (ob6 (m9_6_6 mA9_26)) (Nat.le_of_ble_eq_true rfl) (Nat.le_of_ble_eq_true rfl) (Nat.lt_of_lt_of_le (by decide) hd) (fun q hq => c76 (m9_6_6 mA9_26) hq) h (fun x6 s5 h => ?_)
        exact Rd.ireturn H134 i134_189 rfl h
      refine Rd.sw h (fun hc h => ?_) (fun hc9 h => ?_)
      · refine Rd.tsw H134 i134_59 (t := 190) (by rw [hc]; decide) ?_
        refine Ev.aload_n H134 i134_190 rfl ?_
        refine Rd.getR H134 i134_191 ob10 rfl ?_
        refine Ev.iload_n H134 i134_194 rfl ?_
        refine Rd.cV1vN H134 i134_195 cal122 (ob9 mA9_26) (Nat.le_of_ble_eq_true rfl) (Nat.le_of_ble_eq_true rfl) (Nat.lt_of_lt_of_le (by decide) hd) (fun q hq => c122 mA9_26 hq) h (fun x8 s7 h => ?_)
        exact Rd.ireturn H134 i134_198 rfl h
      refine Rd.sw h (fun hc h => ?_) (fun hc10 h => ?_)
      · refine Rd.tsw H134 i134_59 (t := 199) (by rw [hc]; decide) ?_
        refine Ev.aload_n H134 i134_199 rfl ?_
        refine Rd.getR H134 i134_200 ob10 rfl ?_
        refine Ev.iload_n H134 i134_203 rfl ?_
        refine Rd.cV1vN H134 i134_204 cal123 (ob9 mA9_26) (Nat.le_of_ble_eq_true rfl) (Nat.le_of_ble_eq_true rfl) (Nat.lt_of_lt_of_le (by decide) hd) (fun q hq => c123 mA9_26 hq) h (fun x10 s9 h => ?_)
        exact Rd.ireturn H134 i134_207 rfl h
      refine Rd.sw h (fun hc h => ?_) (fun hc11 h => ?_)
      · refine Rd.tsw H134 i134_59 (t := 208) (by rw [hc]; decide) ?_
        refine Ev.aload_n H134 i134_208 rfl ?_
        refine Rd.getR H134 i134_209 (ob6 (m9_6_6 mA9_26)) rfl ?_
        refine Ev.iload_n H134 i134_212 rfl ?_
        refine Rd.iaload H134 i134_213 (ar6_7 (m9_6_6 mA9_26)) h (fun h => ?_)
        exact Rd.ireturn H134 i134_214 rfl h
      refine Rd.sw h (fun hc h => ?_) (fun hc12 h => ?_)
      · refine Rd.tsw H134 i134_59 (t := 215) (by rw [hc]; decide) ?_
        refine Ev.aload_n H134 i134_215 rfl ?_
        refine Rd.getR H134 i134_216 (ob6 (m9_6_6 mA9_26)) rfl ?_
        refine Ev.iload_n H134 i134_219 rfl ?_
        refine Rd.iaload H134 i134_220 (ar6_8 (m9_6_6 mA9_26)) h (fun h => ?_)
        exact Rd.ireturn H134 i134_221 rfl h
      refine Rd.sw h (fun hc h => ?_) (fun hc13 h => ?_)
      · refine Rd.tsw H134 i134_59 (t := 222) (by rw [hc]; decide) ?_
        refine Ev.aload_n H134 i134_222 rfl ?_
        refine Ev.iload_n H134 i134_223 rfl ?_
        refine Rd.cV1vN H134 i134_224 cal68 (ob6 (m9_6_6 mA9_26)) (Nat.le_of_ble_eq_true rfl) (Nat.le_of_ble_eq_true rfl) (Nat.lt_of_lt_of_le (by decide) hd) (fun q hq => c68 (m9_6_6 mA9_26) hq) h (fun x12 s11 h => ?_)
        refine Rd.if_eq H134 i134_227 (t := 234) (by decide) h (fun hc h => ?_) (fun hc h => ?_)
        · refine Ev.iconst H134 i134_234 kI_0 ?_
          exact Rd.ireturn H134 i134_235 rfl h
        · refine Ev.iconst H134 i134_230 kI_1 ?_
          refine Ev.goto H134 i134_231 (t := 235) (by decide) ?_
          exact Rd.ireturn H134 i134_235 rfl h
      have hsw : ∀ k : Nat, k < 14 → ¬ v2 = Int32.ofInt (1 + k) := fun k hk => match k, hk with
        | 0, _ => hc0
        | 1, _ => hc1
        | 2, _ => hc2
        | 3, _ => hc3
        | 4, _ => hc4
        | 5, _ => hc5
        | 6, _ => hc6
        | 7, _ => hc7
        | 8, _ => hc8
        | 9, _ => hc9
        | 10, _ => hc10
        | 11, _ => hc11
        | 12, _ => hc12
        | 13, _ => hc13
        | k + 14, hk => absurd hk (by omega)
      have hsq : v2.toInt < 1 ∨ 14 < v2.toInt := by have hq := mm_sw hsw; omega
      refine Rd.tsw H134 i134_59 (t := 236) (by rw [if_pos hsq]; decide) ?_
      refine Ev.aload_n H134 i134_236 rfl ?_
      refine Ev.iload_n H134 i134_237 rfl ?_
      refine Rd.cV1vN H134 i134_238 cal67 (ob6 (m9_6_6 mA9_26)) (Nat.le_of_ble_eq_true rfl) (Nat.le_of_ble_eq_true rfl) (Nat.lt_of_lt_of_le (by decide) hd) (fun q hq => c67 (m9_6_6 mA9_26) hq) h (fun x14 s13 h => ?_)
      refine Rd.if_eq H134 i134_241 (t := 248) (by decide) h (fun hc h => ?_) (fun hc h => ?_)
      · refine Ev.iconst H134 i134_248 kI_0 ?_
        exact Rd.ireturn H134 i134_249 rfl h
      · refine Ev.iconst H134 i134_244 kI_1 ?_
        refine Ev.goto H134 i134_245 (t := 249) (by decide) ?_
        exact Rd.ireturn H134 i134_249 rfl h
    · refine Ev.iconst H134 i134_56 kI_m1 ?_
      exact Rd.ireturn H134 i134_57 rfl h
  · refine Ev.aload_n H134 i134_22 rfl ?_
    refine Ev.iload_n H134 i134_23 rfl ?_
    refine Rd.cV1vN H134 i134_24 cal64 (ob6 (m9_6_6 mA9_26)) (Nat.le_of_ble_eq_true rfl) (Nat.le_of_ble_eq_true rfl) (Nat.lt_of_lt_of_le (by decide) hd) (fun q hq => c64 (m9_6_6 mA9_26) hq) h (fun x16 s15 h => ?_)
    refine Rd.if_eq H134 i134_27 (t := 34) (by decide) h (fun hc h => ?_) (fun hc h => ?_)
    · refine Ev.aload_n H134 i134_34 rfl ?_
      refine Ev.iload_n H134 i134_35 rfl ?_
      refine Rd.cV1vN H134 i134_36 cal65 (ob6 (m9_6_6 mA9_26)) (Nat.le_of_ble_eq_true rfl) (Nat.le_of_ble_eq_true rfl) (Nat.lt_of_lt_of_le (by decide) hd) (fun q hq => c65 (m9_6_6 mA9_26) hq) h (fun x18 s17 h => ?_)
      refine Rd.if_eq H134 i134_39 (t := 46) (by decide) h (fun hc h => ?_) (fun hc h => ?_)
      · refine Ev.iconst H134 i134_46 kI_0 ?_
        exact Rd.ireturn H134 i134_47 rfl h
      · refine Ev.iconst H134 i134_42 kI_2 ?_
        refine Ev.goto H134 i134_43 (t := 47) (by decide) ?_
        exact Rd.ireturn H134 i134_47 rfl h
    · refine Ev.iconst H134 i134_30 kI_1 ?_
      refine Ev.goto H134 i134_31 (t := 47) (by decide) ?_
      exact Rd.ireturn H134 i134_47 rfl h
theorem i180_0 : mm_cd 180 0 = some (.iload_n 0, 1, 0, 0) := rfl
theorem i180_1 : mm_cd 180 1 = some (.ifCond .lt 9, 3, 0, 0) := rfl
theorem i180_4 : mm_cd 180 4 = some (.iload_n 0, 1, 0, 0) := rfl
theorem i180_5 : mm_cd 180 5 = some (.bipush 10, 2, 0, 0) := rfl
theorem i180_7 : mm_cd 180 7 = some (.if_icmp .lt 14, 3, 0, 0) := rfl
theorem i180_10 : mm_cd 180 10 = some (.new 462, 3, 1, 10) := rfl
theorem i180_21 : mm_cd 180 21 = some (.return_, 1, 0, 0) := rfl
def q180_10 (s : mS) : Option mQ := rx 2 s
theorem t180_10 {L : Nat} {xs : Nat → Int32} {d : Nat} (hd : 0 ≤ d) {s : mS} {r : mQ} (h : q180_10 s = some r) : Ev L xs d 180 10 [] [] (hp s) (hr r) := by
  unfold q180_10 at h
  exact Rd.throw H180 i180_10 (by decide +kernel) (Nat.le_of_ble_eq_true rfl) h
/-- SerialGate.needKey(I)V -/
def q180 (v0 : Int32) (s : mS) : Option mQ := if v0 < 0 then (q180_10 s) else (if v0 < (10 : Int32) then (ru s) else (q180_10 s))
theorem c180 {L : Nat} {xs : Nat → Int32} {v0 : Int32} {s : mS} {r : mQ} (h : q180 v0 s = some r) : ∀ d, 0 ≤ d → Cl L xs d 180 [.int v0] (hp s) (hr r) := by
  intro d hd
  show Ev L xs d 180 0 [(0, .int v0)] [] (hp s) (hr r)
  unfold q180 at h
  refine Ev.iload_n H180 i180_0 rfl ?_
  refine Rd.if_lt H180 i180_1 (t := 10) (by decide) h (fun hc h => ?_) (fun hc h => ?_)
  · exact Ev.sub (l := []) rfl rfl mm_sub_n (t180_10 hd h)
  · refine Ev.iload_n H180 i180_4 rfl ?_
    refine Ev.bipush H180 i180_5 kB_10 ?_
    refine Rd.ic_lt H180 i180_7 (t := 21) (by decide) h (fun hc h => ?_) (fun hc h => ?_)
    · exact Rd.return_ H180 i180_21 rfl h
    · exact Ev.sub (l := []) rfl rfl mm_sub_n (t180_10 hd h)
theorem i135_0 : mm_cd 135 0 = some (.iload_n 1, 1, 0, 0) := rfl
theorem i135_1 : mm_cd 135 1 = some (.invokestatic 145, 3, 0, 179) := rfl
theorem i135_4 : mm_cd 135 4 = some (.iload_n 2, 1, 0, 0) := rfl
theorem i135_5 : mm_cd 135 5 = some (.invokestatic 212, 3, 0, 180) := rfl
theorem i135_8 : mm_cd 135 8 = some (.aload_n 0, 1, 0, 0) := rfl
theorem i135_9 : mm_cd 135 9 = some (.getfield 40, 3, ((10 : Nat) : Int), 4) := rfl
theorem i135_12 : mm_cd 135 12 = some (.getfield 152, 3, ((9 : Nat) : Int), 2) := rfl
theorem i135_15 : mm_cd 135 15 = some (.iload_n 1, 1, 0, 0) := rfl
theorem i135_16 : mm_cd 135 16 = some (.invokevirtual 162, 3, 0, 65) := rfl
theorem i135_19 : mm_cd 135 19 = some (.ifCond .eq 23, 3, 0, 0) := rfl
theorem i135_22 : mm_cd 135 22 = some (.aload_n 0, 1, 0, 0) := rfl
theorem i135_23 : mm_cd 135 23 = some (.getfield 40, 3, ((10 : Nat) : Int), 4) := rfl
theorem i135_26 : mm_cd 135 26 = some (.getfield 152, 3, ((9 : Nat) : Int), 2) := rfl
theorem i135_29 : mm_cd 135 29 = some (.getfield 215, 3, ((6 : Nat) : Int), 14) := rfl
theorem i135_32 : mm_cd 135 32 = some (.iload_n 1, 1, 0, 0) := rfl
theorem i135_33 : mm_cd 135 33 = some (.bipush 10, 2, 0, 0) := rfl
theorem i135_35 : mm_cd 135 35 = some (.imul, 1, 0, 0) := rfl
theorem i135_36 : mm_cd 135 36 = some (.iload_n 2, 1, 0, 0) := rfl
theorem i135_37 : mm_cd 135 37 = some (.iadd, 1, 0, 0) := rfl
theorem i135_38 : mm_cd 135 38 = some (.iaload, 1, 0, 0) := rfl
theorem i135_39 : mm_cd 135 39 = some (.goto 4, 3, 0, 0) := rfl
theorem i135_42 : mm_cd 135 42 = some (.iconst (-1), 1, 0, 0) := rfl
theorem i135_43 : mm_cd 135 43 = some (.ireturn, 1, 0, 0) := rfl
/-- SerialGate.seen(II)I -/
def q135 (v1 : Int32) (v2 : Int32) (s : mS) : Option mQ := bU (q179 v1 s) fun s1 => bU (q180 v2 s1) fun s2 => bN (q65 (26 + 6) v1 s2) fun x4 s3 => if x4 = 0 then (rv (-1 : Int32) s3) else (gA 80 ((v1 * (10 : Int32)) + v2) <| rv (s3.1 ((26 + 6) + 11) ((v1 * (10 : Int32)) + v2).toNatClampNeg) s3)
theorem c135 {L : Nat} {xs : Nat → Int32} {v1 : Int32} {v2 : Int32} {s : mS} {r : mQ} (h : q135 v1 v2 s = some r) : ∀ d, 1 ≤ d → Cl L xs d 135 [.ref 0, .int v1, .int v2] (hp s) (hr r) := by
  intro d hd
  show Ev L xs d 135 0 [(0, .ref 0), (1, .int v1), (2, .int v2)] [] (hp s) (hr r)
  unfold q135 at h
  refine Ev.iload_n H135 i135_0 rfl ?_
  refine Rd.cS1uT H135 i135_1 cal179 (Nat.le_of_ble_eq_true rfl) (Nat.le_of_ble_eq_true rfl) rfl rfl (Nat.lt_of_lt_of_le (by decide) hd) (fun q hq => c179 hq) h (fun s1 h => ?_)
  refine Ev.iload_n H135 i135_4 rfl ?_
  refine Rd.cS1uT H135 i135_5 cal180 (Nat.le_of_ble_eq_true rfl) (Nat.le_of_ble_eq_true rfl) rfl rfl (Nat.lt_of_lt_of_le (by decide) hd) (fun q hq => c180 hq) h (fun s2 h => ?_)
  refine Ev.aload_n H135 i135_8 rfl ?_
  refine Rd.getR H135 i135_9 ob10 rfl ?_
  refine Rd.getR H135 i135_12 (ob9 mA9_26) rfl ?_
  refine Ev.iload_n H135 i135_15 rfl ?_
  refine Rd.cV1vN H135 i135_16 cal65 (ob6 (m9_6_6 mA9_26)) (Nat.le_of_ble_eq_true rfl) (Nat.le_of_ble_eq_true rfl) (Nat.lt_of_lt_of_le (by decide) hd) (fun q hq => c65 (m9_6_6 mA9_26) hq) h (fun x4 s3 h => ?_)
  refine Rd.if_eq H135 i135_19 (t := 42) (by decide) h (fun hc h => ?_) (fun hc h => ?_)
  · refine Ev.iconst H135 i135_42 kI_m1 ?_
    exact Rd.ireturn H135 i135_43 rfl h
  · refine Ev.aload_n H135 i135_22 rfl ?_
    refine Rd.getR H135 i135_23 ob10 rfl ?_
    refine Rd.getR H135 i135_26 (ob9 mA9_26) rfl ?_
    refine Rd.getR H135 i135_29 (ob6 (m9_6_6 mA9_26)) rfl ?_
    refine Ev.iload_n H135 i135_32 rfl ?_
    refine Ev.bipush H135 i135_33 kB_10 ?_
    refine Ev.imul H135 i135_35 ?_
    refine Ev.iload_n H135 i135_36 rfl ?_
    refine Ev.iadd H135 i135_37 ?_
    refine Rd.iaload H135 i135_38 (ar6_11 (m9_6_6 mA9_26)) h (fun h => ?_)
    refine Ev.goto H135 i135_39 (t := 43) (by decide) ?_
    exact Rd.ireturn H135 i135_43 rfl h
theorem i136_0 : mm_cd 136 0 = some (.iload_n 1, 1, 0, 0) := rfl
theorem i136_1 : mm_cd 136 1 = some (.invokestatic 212, 3, 0, 180) := rfl
theorem i136_4 : mm_cd 136 4 = some (.iload_n 2, 1, 0, 0) := rfl
theorem i136_5 : mm_cd 136 5 = some (.iconst 4, 1, 0, 0) := rfl
theorem i136_6 : mm_cd 136 6 = some (.invokestatic 148, 3, 0, 184) := rfl
theorem i136_9 : mm_cd 136 9 = some (.iload_n 2, 1, 0, 0) := rfl
theorem i136_10 : mm_cd 136 10 = some (.tableswitch 70 0 3 #[30, 40, 50, 60], 30, 0, 0) := rfl
theorem i136_40 : mm_cd 136 40 = some (.aload_n 0, 1, 0, 0) := rfl
theorem i136_41 : mm_cd 136 41 = some (.getfield 40, 3, ((10 : Nat) : Int), 4) := rfl
theorem i136_44 : mm_cd 136 44 = some (.getfield 218, 3, ((9 : Nat) : Int), 5) := rfl
theorem i136_47 : mm_cd 136 47 = some (.iload_n 1, 1, 0, 0) := rfl
theorem i136_48 : mm_cd 136 48 = some (.iaload, 1, 0, 0) := rfl
theorem i136_49 : mm_cd 136 49 = some (.ireturn, 1, 0, 0) := rfl
theorem i136_50 : mm_cd 136 50 = some (.aload_n 0, 1, 0, 0) := rfl
theorem i136_51 : mm_cd 136 51 = some (.getfield 40, 3, ((10 : Nat) : Int), 4) := rfl
theorem i136_54 : mm_cd 136 54 = some (.getfield 221, 3, ((9 : Nat) : Int), 6) := rfl
theorem i136_57 : mm_cd 136 57 = some (.iload_n 1, 1, 0, 0) := rfl
theorem i136_58 : mm_cd 136 58 = some (.iaload, 1, 0, 0) := rfl
theorem i136_59 : mm_cd 136 59 = some (.ireturn, 1, 0, 0) := rfl
theorem i136_60 : mm_cd 136 60 = some (.aload_n 0, 1, 0, 0) := rfl
theorem i136_61 : mm_cd 136 61 = some (.getfield 40, 3, ((10 : Nat) : Int), 4) := rfl
theorem i136_64 : mm_cd 136 64 = some (.getfield 224, 3, ((9 : Nat) : Int), 7) := rfl
theorem i136_67 : mm_cd 136 67 = some (.iload_n 1, 1, 0, 0) := rfl
theorem i136_68 : mm_cd 136 68 = some (.iaload, 1, 0, 0) := rfl
theorem i136_69 : mm_cd 136 69 = some (.ireturn, 1, 0, 0) := rfl
theorem i136_70 : mm_cd 136 70 = some (.aload_n 0, 1, 0, 0) := rfl
theorem i136_71 : mm_cd 136 71 = some (.getfield 40, 3, ((10 : Nat) : Int), 4) := rfl
theorem i136_74 : mm_cd 136 74 = some (.getfield 227, 3, ((9 : Nat) : Int), 8) := rfl
theorem i136_77 : mm_cd 136 77 = some (.iload_n 1, 1, 0, 0) := rfl
theorem i136_78 : mm_cd 136 78 = some (.iaload, 1, 0, 0) := rfl
theorem i136_79 : mm_cd 136 79 = some (.ireturn, 1, 0, 0) := rfl
theorem i136_80 : mm_cd 136 80 = some (.aload_n 0, 1, 0, 0) := rfl
theorem i136_81 : mm_cd 136 81 = some (.getfield 40, 3, ((10 : Nat) : Int), 4) := rfl
theorem i136_84 : mm_cd 136 84 = some (.getfield 152, 3, ((9 : Nat) : Int), 2) := rfl
theorem i136_87 : mm_cd 136 87 = some (.iload_n 1, 1, 0, 0) := rfl
theorem i136_88 : mm_cd 136 88 = some (.invokevirtual 230, 3, 0, 72) := rfl
theorem i136_91 : mm_cd 136 91 = some (.ireturn, 1, 0, 0) := rfl
/-- SerialGate.key(II)I -/
def q136 (v1 : Int32) (v2 : Int32) (s : mS) : Option mQ := bU (q180 v1 s) fun s1 => bU (q184 v2 (4 : Int32) s1) fun s2 => if v2 = (0 : Int32) then (gA 10 v1 <| rv (s2.1 (26 + 28) v1.toNatClampNeg) s2) else if v2 = (1 : Int32) then (gA 10 v1 <| rv (s2.1 (26 + 29) v1.toNatClampNeg) s2) else if v2 = (2 : Int32) then (gA 10 v1 <| rv (s2.1 (26 + 30) v1.toNatClampNeg) s2) else if v2 = (3 : Int32) then (gA 10 v1 <| rv (s2.1 (26 + 31) v1.toNatClampNeg) s2) else (bN (q72 (26 + 6) v1 s2) fun x4 s3 => rv x4 s3)
theorem c136 {L : Nat} {xs : Nat → Int32} {v1 : Int32} {v2 : Int32} {s : mS} {r : mQ} (h : q136 v1 v2 s = some r) : ∀ d, 1 ≤ d → Cl L xs d 136 [.ref 0, .int v1, .int v2] (hp s) (hr r) := by
  intro d hd
  show Ev L xs d 136 0 [(0, .ref 0), (1, .int v1), (2, .int v2)] [] (hp s) (hr r)
  unfold q136 at h
  refine Ev.iload_n H136 i136_0 rfl ?_
  refine Rd.cS1uT H136 i136_1 cal180 (Nat.le_of_ble_eq_true rfl) (Nat.le_of_ble_eq_true rfl) rfl rfl (Nat.lt_of_lt_of_le (by decide) hd) (fun q hq => c180 hq) h (fun s1 h => ?_)
  refine Ev.iload_n H136 i136_4 rfl ?_
  refine Ev.iconst H136 i136_5 kI_4 ?_
  refine Rd.cS2uT H136 i136_6 cal184 (Nat.le_of_ble_eq_true rfl) (Nat.le_of_ble_eq_true rfl) rfl rfl (Nat.lt_of_lt_of_le (by decide) hd) (fun q hq => c184 hq) h (fun s2 h => ?_)
  refine Ev.iload_n H136 i136_9 rfl ?_
  refine Rd.sw h (fun hc h => ?_) (fun hc0 h => ?_)
  · refine Rd.tsw H136 i136_10 (t := 40) (by rw [hc]; decide) ?_
    refine Ev.aload_n H136 i136_40 rfl ?_
    refine Rd.getR H136 i136_41 ob10 rfl ?_
    refine Rd.getR H136 i136_44 (ob9 mA9_26) rfl ?_
    refine Ev.iload_n H136 i136_47 rfl ?_
    refine Rd.iaload H136 i136_48 (ar9_28 mA9_26) h (fun h => ?_)
    exact Rd.ireturn H136 i136_49 rfl h
  refine Rd.sw h (fun hc h => ?_) (fun hc1 h => ?_)
  · refine Rd.tsw H136 i136_10 (t := 50) (by rw [hc]; decide) ?_
    refine Ev.aload_n H136 i136_50 rfl ?_
    refine Rd.getR H136 i136_51 ob10 rfl ?_
    refine Rd.getR H136 i136_54 (ob9 mA9_26) rfl ?_
    refine Ev.iload_n H136 i136_57 rfl ?_
    refine Rd.iaload H136 i136_58 (ar9_29 mA9_26) h (fun h => ?_)
    exact Rd.ireturn H136 i136_59 rfl h
  refine Rd.sw h (fun hc h => ?_) (fun hc2 h => ?_)
  · refine Rd.tsw H136 i136_10 (t := 60) (by rw [hc]; decide) ?_
    refine Ev.aload_n H136 i136_60 rfl ?_
    refine Rd.getR H136 i136_61 ob10 rfl ?_
    refine Rd.getR H136 i136_64 (ob9 mA9_26) rfl ?_
    refine Ev.iload_n H136 i136_67 rfl ?_
    refine Rd.iaload H136 i136_68 (ar9_30 mA9_26) h (fun h => ?_)
    exact Rd.ireturn H136 i136_69 rfl h
  refine Rd.sw h (fun hc h => ?_) (fun hc3 h => ?_)
  · refine Rd.tsw H136 i136_10 (t := 70) (by rw [hc]; decide) ?_
    refine Ev.aload_n H136 i136_70 rfl ?_
    refine Rd.getR H136 i136_71 ob10 rfl ?_
    refine Rd.getR H136 i136_74 (ob9 mA9_26) rfl ?_
    refine Ev.iload_n H136 i136_77 rfl ?_
    refine Rd.iaload H136 i136_78 (ar9_31 mA9_26) h (fun h => ?_)
    exact Rd.ireturn H136 i136_79 rfl h
  have hsw : ∀ k : Nat, k < 4 → ¬ v2 = Int32.ofInt (0 + k) := fun k hk => match k, hk with
    | 0, _ => hc0
    | 1, _ => hc1
    | 2, _ => hc2
    | 3, _ => hc3
    | k + 4, hk => absurd hk (by omega)
  have hsq : v2.toInt < 0 ∨ 3 < v2.toInt := by have hq := mm_sw hsw; omega
  refine Rd.tsw H136 i136_10 (t := 80) (by rw [if_pos hsq]; decide) ?_
  refine Ev.aload_n H136 i136_80 rfl ?_
  refine Rd.getR H136 i136_81 ob10 rfl ?_
  refine Rd.getR H136 i136_84 (ob9 mA9_26) rfl ?_
  refine Ev.iload_n H136 i136_87 rfl ?_
  refine Rd.cV1vN H136 i136_88 cal72 (ob6 (m9_6_6 mA9_26)) (Nat.le_of_ble_eq_true rfl) (Nat.le_of_ble_eq_true rfl) (Nat.lt_of_lt_of_le (by decide) hd) (fun q hq => c72 (m9_6_6 mA9_26) hq) h (fun x4 s3 h => ?_)
  exact Rd.ireturn H136 i136_91 rfl h
theorem i181_0 : mm_cd 181 0 = some (.iload_n 1, 1, 0, 0) := rfl
theorem i181_1 : mm_cd 181 1 = some (.ifCond .lt 17, 3, 0, 0) := rfl
theorem i181_4 : mm_cd 181 4 = some (.iload_n 1, 1, 0, 0) := rfl
theorem i181_5 : mm_cd 181 5 = some (.aload_n 0, 1, 0, 0) := rfl
theorem i181_6 : mm_cd 181 6 = some (.getfield 40, 3, ((10 : Nat) : Int), 4) := rfl
theorem i181_9 : mm_cd 181 9 = some (.getfield 59, 3, ((9 : Nat) : Int), 1) := rfl
theorem i181_12 : mm_cd 181 12 = some (.getfield 397, 3, ((0 : Nat) : Int), 0) := rfl
theorem i181_15 : mm_cd 181 15 = some (.if_icmp .lt 14, 3, 0, 0) := rfl
theorem i181_18 : mm_cd 181 18 = some (.new 462, 3, 1, 11) := rfl
theorem i181_29 : mm_cd 181 29 = some (.return_, 1, 0, 0) := rfl
def q181_18 (s : mS) : Option mQ := rx 2 s
theorem t181_18 {L : Nat} {xs : Nat → Int32} {d : Nat} (hd : 0 ≤ d) {s : mS} {r : mQ} (h : q181_18 s = some r) : Ev L xs d 181 18 [] [] (hp s) (hr r) := by
  unfold q181_18 at h
  exact Rd.throw H181 i181_18 (by decide +kernel) (Nat.le_of_ble_eq_true rfl) h
/-- SerialGate.needClient(I)V -/
def q181 (v1 : Int32) (s : mS) : Option mQ := if v1 < 0 then (q181_18 s) else (if v1 < (s.1 (26 + 1) 0) then (ru s) else (q181_18 s))
theorem c181 {L : Nat} {xs : Nat → Int32} {v1 : Int32} {s : mS} {r : mQ} (h : q181 v1 s = some r) : ∀ d, 0 ≤ d → Cl L xs d 181 [.ref 0, .int v1] (hp s) (hr r) := by
  intro d hd
  show Ev L xs d 181 0 [(0, .ref 0), (1, .int v1)] [] (hp s) (hr r)
  unfold q181 at h
  refine Ev.iload_n H181 i181_0 rfl ?_
  refine Rd.if_lt H181 i181_1 (t := 18) (by decide) h (fun hc h => ?_) (fun hc h => ?_)
  · exact Ev.sub (l := []) rfl rfl mm_sub_n (t181_18 hd h)
  · refine Ev.iload_n H181 i181_4 rfl ?_
    refine Ev.aload_n H181 i181_5 rfl ?_
    refine Rd.getR H181 i181_6 ob10 rfl ?_
    refine Rd.getR H181 i181_9 (ob9 mA9_26) rfl ?_
    refine Rd.getI H181 i181_12 (ob0 (m9_0_1 mA9_26)) rfl ?_
    refine Rd.ic_lt H181 i181_15 (t := 29) (by decide) h (fun hc h => ?_) (fun hc h => ?_)
    · exact Rd.return_ H181 i181_29 rfl h
    · exact Ev.sub (l := []) rfl rfl mm_sub_n (t181_18 hd h)
theorem i137_0 : mm_cd 137 0 = some (.aload_n 0, 1, 0, 0) := rfl
theorem i137_1 : mm_cd 137 1 = some (.iload_n 1, 1, 0, 0) := rfl
theorem i137_2 : mm_cd 137 2 = some (.invokevirtual 233, 3, 0, 181) := rfl
theorem i137_5 : mm_cd 137 5 = some (.iload_n 2, 1, 0, 0) := rfl
theorem i137_6 : mm_cd 137 6 = some (.bipush 8, 2, 0, 0) := rfl
theorem i137_8 : mm_cd 137 8 = some (.invokestatic 148, 3, 0, 184) := rfl
theorem i137_11 : mm_cd 137 11 = some (.aload_n 0, 1, 0, 0) := rfl
theorem i137_12 : mm_cd 137 12 = some (.getfield 40, 3, ((10 : Nat) : Int), 4) := rfl
theorem i137_15 : mm_cd 137 15 = some (.getfield 59, 3, ((9 : Nat) : Int), 1) := rfl
theorem i137_18 : mm_cd 137 18 = some (.astore_n 3, 1, 0, 0) := rfl
theorem i137_19 : mm_cd 137 19 = some (.iload_n 2, 1, 0, 0) := rfl
theorem i137_20 : mm_cd 137 20 = some (.tableswitch 120 0 7 #[48, 55, 62, 76, 83, 90, 102, 111], 48, 0, 0) := rfl
theorem i137_68 : mm_cd 137 68 = some (.aload_n 3, 1, 0, 0) := rfl
theorem i137_69 : mm_cd 137 69 = some (.getfield 236, 3, ((0 : Nat) : Int), 2) := rfl
theorem i137_72 : mm_cd 137 72 = some (.iload_n 1, 1, 0, 0) := rfl
theorem i137_73 : mm_cd 137 73 = some (.iaload, 1, 0, 0) := rfl
theorem i137_74 : mm_cd 137 74 = some (.ireturn, 1, 0, 0) := rfl
theorem i137_75 : mm_cd 137 75 = some (.aload_n 3, 1, 0, 0) := rfl
theorem i137_76 : mm_cd 137 76 = some (.getfield 241, 3, ((0 : Nat) : Int), 3) := rfl
theorem i137_79 : mm_cd 137 79 = some (.iload_n 1, 1, 0, 0) := rfl
theorem i137_80 : mm_cd 137 80 = some (.iaload, 1, 0, 0) := rfl
theorem i137_81 : mm_cd 137 81 = some (.ireturn, 1, 0, 0) := rfl
theorem i137_82 : mm_cd 137 82 = some (.aload_n 3, 1, 0, 0) := rfl
theorem i137_83 : mm_cd 137 83 = some (.iload_n 1, 1, 0, 0) := rfl
theorem i137_84 : mm_cd 137 84 = some (.invokevirtual 244, 3, 0, 3) := rfl
theorem i137_87 : mm_cd 137 87 = some (.ifCond .eq 7, 3, 0, 0) := rfl
theorem i137_90 : mm_cd 137 90 = some (.iconst 1, 1, 0, 0) := rfl
theorem i137_91 : mm_cd 137 91 = some (.goto 4, 3, 0, 0) := rfl
theorem i137_94 : mm_cd 137 94 = some (.iconst 0, 1, 0, 0) := rfl
theorem i137_95 : mm_cd 137 95 = some (.ireturn, 1, 0, 0) := rfl
theorem i137_96 : mm_cd 137 96 = some (.aload_n 3, 1, 0, 0) := rfl
theorem i137_97 : mm_cd 137 97 = some (.getfield 247, 3, ((0 : Nat) : Int), 4) := rfl
theorem i137_100 : mm_cd 137 100 = some (.iload_n 1, 1, 0, 0) := rfl
theorem i137_101 : mm_cd 137 101 = some (.iaload, 1, 0, 0) := rfl
theorem i137_102 : mm_cd 137 102 = some (.ireturn, 1, 0, 0) := rfl
theorem i137_103 : mm_cd 137 103 = some (.aload_n 3, 1, 0, 0) := rfl
theorem i137_104 : mm_cd 137 104 = some (.getfield 250, 3, ((0 : Nat) : Int), 5) := rfl
theorem i137_107 : mm_cd 137 107 = some (.iload_n 1, 1, 0, 0) := rfl
theorem i137_108 : mm_cd 137 108 = some (.iaload, 1, 0, 0) := rfl
theorem i137_109 : mm_cd 137 109 = some (.ireturn, 1, 0, 0) := rfl
theorem i137_110 : mm_cd 137 110 = some (.aload_n 0, 1, 0, 0) := rfl
theorem i137_111 : mm_cd 137 111 = some (.getfield 40, 3, ((10 : Nat) : Int), 4) := rfl
theorem i137_114 : mm_cd 137 114 = some (.getfield 152, 3, ((9 : Nat) : Int), 2) := rfl
theorem i137_117 : mm_cd 137 117 = some (.iload_n 1, 1, 0, 0) := rfl
theorem i137_118 : mm_cd 137 118 = some (.invokevirtual 253, 3, 0, 71) := rfl
theorem i137_121 : mm_cd 137 121 = some (.ireturn, 1, 0, 0) := rfl
theorem i137_122 : mm_cd 137 122 = some (.aload_n 0, 1, 0, 0) := rfl
theorem i137_123 : mm_cd 137 123 = some (.getfield 40, 3, ((10 : Nat) : Int), 4) := rfl
theorem i137_126 : mm_cd 137 126 = some (.iload_n 1, 1, 0, 0) := rfl
theorem i137_127 : mm_cd 137 127 = some (.invokevirtual 256, 3, 0, 114) := rfl
theorem i137_130 : mm_cd 137 130 = some (.ireturn, 1, 0, 0) := rfl
theorem i137_131 : mm_cd 137 131 = some (.aload_n 0, 1, 0, 0) := rfl
theorem i137_132 : mm_cd 137 132 = some (.getfield 66, 3, ((10 : Nat) : Int), 8) := rfl
theorem i137_135 : mm_cd 137 135 = some (.iload_n 1, 1, 0, 0) := rfl
theorem i137_136 : mm_cd 137 136 = some (.invokevirtual 259, 3, 0, 52) := rfl
theorem i137_139 : mm_cd 137 139 = some (.ireturn, 1, 0, 0) := rfl
theorem i137_140 : mm_cd 137 140 = some (.aload_n 3, 1, 0, 0) := rfl
theorem i137_141 : mm_cd 137 141 = some (.iload_n 1, 1, 0, 0) := rfl
theorem i137_142 : mm_cd 137 142 = some (.invokevirtual 262, 3, 0, 9) := rfl
theorem i137_145 : mm_cd 137 145 = some (.ireturn, 1, 0, 0) := rfl
/-- SerialGate.client(II)I -/
def q137 (v1 : Int32) (v2 : Int32) (s : mS) : Option mQ := bU (q181 v1 s) fun s1 => bU (q184 v2 (8 : Int32) s1) fun s2 => if v2 = (0 : Int32) then (gA 5 v1 <| rv (s2.1 ((26 + 1) + 1) v1.toNatClampNeg) s2) else if v2 = (1 : Int32) then (gA 5 v1 <| rv (s2.1 ((26 + 1) + 2) v1.toNatClampNeg) s2) else if v2 = (2 : Int32) then (bN (q3 (26 + 1) v1 s2) fun x4 s3 => if x4 = 0 then (rv (0 : Int32) s3) else (rv (1 : Int32) s3)) else if v2 = (3 : Int32) then (gA 5 v1 <| rv (s2.1 ((26 + 1) + 3) v1.toNatClampNeg) s2) else if v2 = (4 : Int32) then (gA 5 v1 <| rv (s2.1 ((26 + 1) + 4) v1.toNatClampNeg) s2) else if v2 = (5 : Int32) then (bN (q71 (26 + 6) v1 s2) fun x6 s5 => rv x6 s5) else if v2 = (6 : Int32) then (bN (q114 26 v1 s2) fun x8 s7 => rv x8 s7) else if v2 = (7 : Int32) then (bN (q52 v1 s2) fun x10 s9 => rv x10 s9) else (bN (q9 (26 + 1) v1 s2) fun x12 s11 => rv x12 s11)
theorem c137 {L : Nat} {xs : Nat → Int32} {v1 : Int32} {v2 : Int32} {s : mS} {r : mQ} (h : q137 v1 v2 s = some r) : ∀ d, 13 ≤ d → Cl L xs d 137 [.ref 0, .int v1, .int v2] (hp s) (hr r) := by
  intro d hd
  show Ev L xs d 137 0 [(0, .ref 0), (1, .int v1), (2, .int v2)] [] (hp s) (hr r)
  unfold q137 at h
  refine Ev.aload_n H137 i137_0 rfl ?_
  refine Ev.iload_n H137 i137_1 rfl ?_
  refine Rd.cV1uT H137 i137_2 cal181 ob10 (Nat.le_of_ble_eq_true rfl) (Nat.le_of_ble_eq_true rfl) rfl rfl (Nat.lt_of_lt_of_le (by decide) hd) (fun q hq => c181 hq) h (fun s1 h => ?_)
  refine Ev.iload_n H137 i137_5 rfl ?_
  refine Ev.bipush H137 i137_6 kB_8 ?_
  refine Rd.cS2uT H137 i137_8 cal184 (Nat.le_of_ble_eq_true rfl) (Nat.le_of_ble_eq_true rfl) rfl rfl (Nat.lt_of_lt_of_le (by decide) hd) (fun q hq => c184 hq) h (fun s2 h => ?_)
  refine Ev.aload_n H137 i137_11 rfl ?_
  refine Rd.getR H137 i137_12 ob10 rfl ?_
  refine Rd.getR H137 i137_15 (ob9 mA9_26) rfl ?_
  refine Ev.astore_n H137 i137_18 (Nat.le_of_ble_eq_true rfl) (lv2 := [(3, .ref (26 + 1)), (0, .ref 0), (1, .int v1), (2, .int v2)]) rfl ?_
  refine Ev.iload_n H137 i137_19 rfl ?_
  refine Rd.sw h (fun hc h => ?_) (fun hc0 h => ?_)
  · refine Rd.tsw H137 i137_20 (t := 68) (by rw [hc]; decide) ?_
    refine Ev.aload_n H137 i137_68 rfl ?_
    refine Rd.getR H137 i137_69 (ob0 (m9_0_1 mA9_26)) rfl ?_
    refine Ev.iload_n H137 i137_72 rfl ?_
    refine Rd.iaload H137 i137_73 (ar0_1 (m9_0_1 mA9_26)) h (fun h => ?_)
    exact Rd.ireturn H137 i137_74 rfl h
  refine Rd.sw h (fun hc h => ?_) (fun hc1 h => ?_)
  · refine Rd.tsw H137 i137_20 (t := 75) (by rw [hc]; decide) ?_
    refine Ev.aload_n H137 i137_75 rfl ?_
    refine Rd.getR H137 i137_76 (ob0 (m9_0_1 mA9_26)) rfl ?_
    refine Ev.iload_n H137 i137_79 rfl ?_
    refine Rd.iaload H137 i137_80 (ar0_2 (m9_0_1 mA9_26)) h (fun h => ?_)
    exact Rd.ireturn H137 i137_81 rfl h
  refine Rd.sw h (fun hc h => ?_) (fun hc2 h => ?_)
  · refine Rd.tsw H137 i137_20 (t := 82) (by rw [hc]; decide) ?_
    refine Ev.aload_n H137 i137_82 rfl ?_
    refine Ev.iload_n H137 i137_83 rfl ?_
    refine Rd.cV1vN H137 i137_84 cal3 (ob0 (m9_0_1 mA9_26)) (Nat.le_of_ble_eq_true rfl) (Nat.le_of_ble_eq_true rfl) (Nat.lt_of_lt_of_le (by decide) hd) (fun q hq => c3 (m9_0_1 mA9_26) hq) h (fun x4 s3 h => ?_)
    refine Rd.if_eq H137 i137_87 (t := 94) (by decide) h (fun hc h => ?_) (fun hc h => ?_)
    · refine Ev.iconst H137 i137_94 kI_0 ?_
      exact Rd.ireturn H137 i137_95 rfl h
    · refine Ev.iconst H137 i137_90 kI_1 ?_
      refine Ev.goto H137 i137_91 (t := 95) (by decide) ?_
      exact Rd.ireturn H137 i137_95 rfl h
  refine Rd.sw h (fun hc h => ?_) (fun hc3 h => ?_)
  · refine Rd.tsw H137 i137_20 (t := 96) (by rw [hc]; decide) ?_
    refine Ev.aload_n H137 i137_96 rfl ?_
    refine Rd.getR H137 i137_97 (ob0 (m9_0_1 mA9_26)) rfl ?_
    refine Ev.iload_n H137 i137_100 rfl ?_
    refine Rd.iaload H137 i137_101 (ar0_3 (m9_0_1 mA9_26)) h (fun h => ?_)
    exact Rd.ireturn H137 i137_102 rfl h
  refine Rd.sw h (fun hc h => ?_) (fun hc4 h => ?_)
  · refine Rd.tsw H137 i137_20 (t := 103) (by rw [hc]; decide) ?_
    refine Ev.aload_n H137 i137_103 rfl ?_
    refine Rd.getR H137 i137_104 (ob0 (m9_0_1 mA9_26)) rfl ?_
    refine Ev.iload_n H137 i137_107 rfl ?_
    refine Rd.iaload H137 i137_108 (ar0_4 (m9_0_1 mA9_26)) h (fun h => ?_)
    exact Rd.ireturn H137 i137_109 rfl h
  refine Rd.sw h (fun hc h => ?_) (fun hc5 h => ?_)
  · refine Rd.tsw H137 i137_20 (t := 110) (by rw [hc]; decide) ?_
    refine Ev.aload_n H137 i137_110 rfl ?_
    refine Rd.getR H137 i137_111 ob10 rfl ?_
    refine Rd.getR H137 i137_114 (ob9 mA9_26) rfl ?_
    refine Ev.iload_n H137 i137_117 rfl ?_
    refine Rd.cV1vN H137 i137_118 cal71 (ob6 (m9_6_6 mA9_26)) (Nat.le_of_ble_eq_true rfl) (Nat.le_of_ble_eq_true rfl) (Nat.lt_of_lt_of_le (by decide) hd) (fun q hq => c71 (m9_6_6 mA9_26) hq) h (fun x6 s5 h => ?_)
    exact Rd.ireturn H137 i137_121 rfl h
  refine Rd.sw h (fun hc h => ?_) (fun hc6 h => ?_)
  · refine Rd.tsw H137 i137_20 (t := 122) (by rw [hc]; decide) ?_
    refine Ev.aload_n H137 i137_122 rfl ?_
    refine Rd.getR H137 i137_123 ob10 rfl ?_
    refine Ev.iload_n H137 i137_126 rfl ?_
    refine Rd.cV1vN H137 i137_127 cal114 (ob9 mA9_26) (Nat.le_of_ble_eq_true rfl) (Nat.le_of_ble_eq_true rfl) (Nat.lt_of_lt_of_le (by decide) hd) (fun q hq => c114 mA9_26 hq) h (fun x8 s7 h => ?_)
    exact Rd.ireturn H137 i137_130 rfl h
  refine Rd.sw h (fun hc h => ?_) (fun hc7 h => ?_)
  · refine Rd.tsw H137 i137_20 (t := 131) (by rw [hc]; decide) ?_
    refine Ev.aload_n H137 i137_131 rfl ?_
    refine Rd.getR H137 i137_132 ob10 rfl ?_
    refine Ev.iload_n H137 i137_135 rfl ?_
    refine Rd.cV1vN H137 i137_136 cal52 ob5 (Nat.le_of_ble_eq_true rfl) (Nat.le_of_ble_eq_true rfl) (Nat.lt_of_lt_of_le (by decide) hd) (fun q hq => c52 hq) h (fun x10 s9 h => ?_)
    exact Rd.ireturn H137 i137_139 rfl h
  have hsw : ∀ k : Nat, k < 8 → ¬ v2 = Int32.ofInt (0 + k) := fun k hk => match k, hk with
    | 0, _ => hc0
    | 1, _ => hc1
    | 2, _ => hc2
    | 3, _ => hc3
    | 4, _ => hc4
    | 5, _ => hc5
    | 6, _ => hc6
    | 7, _ => hc7
    | k + 8, hk => absurd hk (by omega)
  have hsq : v2.toInt < 0 ∨ 7 < v2.toInt := by have hq := mm_sw hsw; omega
  refine Rd.tsw H137 i137_20 (t := 140) (by rw [if_pos hsq]; decide) ?_
  refine Ev.aload_n H137 i137_140 rfl ?_
  refine Ev.iload_n H137 i137_141 rfl ?_
  refine Rd.cV1vN H137 i137_142 cal9 (ob0 (m9_0_1 mA9_26)) (Nat.le_of_ble_eq_true rfl) (Nat.le_of_ble_eq_true rfl) (Nat.lt_of_lt_of_le (by decide) hd) (fun q hq => c9 (m9_0_1 mA9_26) hq) h (fun x12 s11 h => ?_)
  exact Rd.ireturn H137 i137_145 rfl h
theorem i177_0 : mm_cd 177 0 = some (.aload_n 0, 1, 0, 0) := rfl
theorem i177_1 : mm_cd 177 1 = some (.getfield 70, 3, ((10 : Nat) : Int), 9) := rfl
theorem i177_4 : mm_cd 177 4 = some (.aload_n 0, 1, 0, 0) := rfl
theorem i177_5 : mm_cd 177 5 = some (.getfield 74, 3, ((10 : Nat) : Int), 10) := rfl
theorem i177_8 : mm_cd 177 8 = some (.aaload, 1, 0, 0) := rfl
theorem i177_9 : mm_cd 177 9 = some (.aload_n 0, 1, 0, 0) := rfl
theorem i177_10 : mm_cd 177 10 = some (.getfield 40, 3, ((10 : Nat) : Int), 4) := rfl
theorem i177_13 : mm_cd 177 13 = some (.invokevirtual 95, 3, 0, 111) := rfl
theorem i177_16 : mm_cd 177 16 = some (.aload_n 0, 1, 0, 0) := rfl
theorem i177_17 : mm_cd 177 17 = some (.aload_n 0, 1, 0, 0) := rfl
theorem i177_18 : mm_cd 177 18 = some (.getfield 74, 3, ((10 : Nat) : Int), 10) := rfl
theorem i177_21 : mm_cd 177 21 = some (.iconst 1, 1, 0, 0) := rfl
theorem i177_22 : mm_cd 177 22 = some (.iadd, 1, 0, 0) := rfl
theorem i177_23 : mm_cd 177 23 = some (.bipush 12, 2, 0, 0) := rfl
theorem i177_25 : mm_cd 177 25 = some (.irem, 1, 0, 0) := rfl
theorem i177_26 : mm_cd 177 26 = some (.putfield 74, 3, ((10 : Nat) : Int), 10) := rfl
theorem i177_29 : mm_cd 177 29 = some (.aload_n 0, 1, 0, 0) := rfl
theorem i177_30 : mm_cd 177 30 = some (.bipush 12, 2, 0, 0) := rfl
theorem i177_32 : mm_cd 177 32 = some (.aload_n 0, 1, 0, 0) := rfl
theorem i177_33 : mm_cd 177 33 = some (.getfield 78, 3, ((10 : Nat) : Int), 11) := rfl
theorem i177_36 : mm_cd 177 36 = some (.iconst 1, 1, 0, 0) := rfl
theorem i177_37 : mm_cd 177 37 = some (.iadd, 1, 0, 0) := rfl
theorem i177_38 : mm_cd 177 38 = some (.invokestatic 449, 3, 3, 0) := rfl
theorem i177_41 : mm_cd 177 41 = some (.putfield 78, 3, ((10 : Nat) : Int), 11) := rfl
theorem i177_44 : mm_cd 177 44 = some (.return_, 1, 0, 0) := rfl
/-- SerialGate.remember()V -/
def q177 (s : mS) : Option mQ := gA 12 (s.1 0 10) <| bM (q111 (128 + 32 * (s.1 0 10).toNatClampNeg) 26 s) fun s2 => gZ (12 : Int32) <| sp (sI s2 0 10 (rmI ((s2.1 0 10) + (1 : Int32)) (12 : Int32))) fun s3 => sp (sI s3 0 11 (mnI (12 : Int32) ((s3.1 0 11) + (1 : Int32)))) fun s4 => ru s4
theorem c177 {L : Nat} {xs : Nat → Int32} {s : mS} {r : mQ} (h : q177 s = some r) : ∀ d, 2 ≤ d → Cl L xs d 177 [.ref 0] (hp s) (hr r) := by
  intro d hd
  show Ev L xs d 177 0 [(0, .ref 0)] [] (hp s) (hr r)
  unfold q177 at h
  refine Ev.aload_n H177 i177_0 rfl ?_
  refine Rd.getR H177 i177_1 ob10 rfl ?_
  refine Ev.aload_n H177 i177_4 rfl ?_
  refine Rd.getI H177 i177_5 ob10 rfl ?_
  refine Rd.aaload H177 i177_8 ar_127 h (fun hg1 h => ?_)
  refine Ev.aload_n H177 i177_9 rfl ?_
  refine Rd.getR H177 i177_10 ob10 rfl ?_
  refine Rd.cV1uN H177 i177_13 cal111 (ob9 (mA9_d hg1)) (Nat.le_of_ble_eq_true rfl) (Nat.le_of_ble_eq_true rfl) (Nat.lt_of_lt_of_le (by decide) hd) (fun q hq => c111 (mA9_d hg1) mA9_26 hq) h (fun s2 h => ?_)
  refine Ev.aload_n H177 i177_16 rfl ?_
  refine Ev.aload_n H177 i177_17 rfl ?_
  refine Rd.getI H177 i177_18 ob10 rfl ?_
  refine Ev.iconst H177 i177_21 kI_1 ?_
  refine Ev.iadd H177 i177_22 ?_
  refine Ev.bipush H177 i177_23 kB_12 ?_
  refine Rd.irem H177 i177_25 h (fun h => ?_)
  refine Rd.putI H177 i177_26 ob10 rfl ty10_10.1 ty10_10.2 h (fun s3 h => ?_)
  refine Ev.aload_n H177 i177_29 rfl ?_
  refine Ev.bipush H177 i177_30 kB_12 ?_
  refine Ev.aload_n H177 i177_32 rfl ?_
  refine Rd.getI H177 i177_33 ob10 rfl ?_
  refine Ev.iconst H177 i177_36 kI_1 ?_
  refine Ev.iadd H177 i177_37 ?_
  refine Rd.min H177 i177_38 (Nat.le_of_ble_eq_true rfl) ?_
  refine Rd.putI H177 i177_41 ob10 rfl ty10_11.1 ty10_11.2 h (fun s4 h => ?_)
  exact Rd.return_ H177 i177_44 rfl h
theorem i138_0 : mm_cd 138 0 = some (.iload_n 1, 1, 0, 0) := rfl
theorem i138_1 : mm_cd 138 1 = some (.iconst 1, 1, 0, 0) := rfl
theorem i138_2 : mm_cd 138 2 = some (.if_icmp .lt 9, 3, 0, 0) := rfl
theorem i138_5 : mm_cd 138 5 = some (.iload_n 1, 1, 0, 0) := rfl
theorem i138_6 : mm_cd 138 6 = some (.bipush 60, 2, 0, 0) := rfl
theorem i138_8 : mm_cd 138 8 = some (.if_icmp .le 14, 3, 0, 0) := rfl
theorem i138_11 : mm_cd 138 11 = some (.new 107, 3, 1, 3) := rfl
theorem i138_22 : mm_cd 138 22 = some (.aload_n 0, 1, 0, 0) := rfl
theorem i138_23 : mm_cd 138 23 = some (.invokevirtual 267, 3, 0, 177) := rfl
theorem i138_26 : mm_cd 138 26 = some (.aload_n 0, 1, 0, 0) := rfl
theorem i138_27 : mm_cd 138 27 = some (.getfield 40, 3, ((10 : Nat) : Int), 4) := rfl
theorem i138_30 : mm_cd 138 30 = some (.iload_n 1, 1, 0, 0) := rfl
theorem i138_31 : mm_cd 138 31 = some (.invokevirtual 270, 3, 0, 112) := rfl
theorem i138_34 : mm_cd 138 34 = some (.ireturn, 1, 0, 0) := rfl
def q138_11 (s : mS) : Option mQ := rx 0 s
theorem t138_11 {L : Nat} {xs : Nat → Int32} {d : Nat} (hd : 7 ≤ d) {s : mS} {r : mQ} (h : q138_11 s = some r) : Ev L xs d 138 11 [] [] (hp s) (hr r) := by
  unfold q138_11 at h
  exact Rd.throw H138 i138_11 (by decide +kernel) (Nat.le_of_ble_eq_true rfl) h
/-- SerialGate.ticks(I)I -/
def q138 (v1 : Int32) (s : mS) : Option mQ := if v1 < (1 : Int32) then (q138_11 s) else (if v1 ≤ (60 : Int32) then (bM (q177 s) fun s1 => bN (q112 26 v1 s1) fun x3 s2 => rv x3 s2) else (q138_11 s))
theorem c138 {L : Nat} {xs : Nat → Int32} {v1 : Int32} {s : mS} {r : mQ} (h : q138 v1 s = some r) : ∀ d, 7 ≤ d → Cl L xs d 138 [.ref 0, .int v1] (hp s) (hr r) := by
  intro d hd
  show Ev L xs d 138 0 [(0, .ref 0), (1, .int v1)] [] (hp s) (hr r)
  unfold q138 at h
  refine Ev.iload_n H138 i138_0 rfl ?_
  refine Ev.iconst H138 i138_1 kI_1 ?_
  refine Rd.ic_lt H138 i138_2 (t := 11) (by decide) h (fun hc h => ?_) (fun hc h => ?_)
  · exact Ev.sub (l := []) rfl rfl mm_sub_n (t138_11 hd h)
  · refine Ev.iload_n H138 i138_5 rfl ?_
    refine Ev.bipush H138 i138_6 kB_60 ?_
    refine Rd.ic_le H138 i138_8 (t := 22) (by decide) h (fun hc h => ?_) (fun hc h => ?_)
    · refine Ev.aload_n H138 i138_22 rfl ?_
      refine Rd.cV0uN H138 i138_23 cal177 ob10 (Nat.le_of_ble_eq_true rfl) (Nat.le_of_ble_eq_true rfl) (Nat.lt_of_lt_of_le (by decide) hd) (fun q hq => c177 hq) h (fun s1 h => ?_)
      refine Ev.aload_n H138 i138_26 rfl ?_
      refine Rd.getR H138 i138_27 ob10 rfl ?_
      refine Ev.iload_n H138 i138_30 rfl ?_
      refine Rd.cV1vN H138 i138_31 cal112 (ob9 mA9_26) (Nat.le_of_ble_eq_true rfl) (Nat.le_of_ble_eq_true rfl) (Nat.lt_of_lt_of_le (by decide) hd) (fun q hq => c112 mA9_26 hq) h (fun x3 s2 h => ?_)
      exact Rd.ireturn H138 i138_34 rfl h
    · exact Ev.sub (l := []) rfl rfl mm_sub_n (t138_11 hd h)
theorem i139_0 : mm_cd 139 0 = some (.aload_n 0, 1, 0, 0) := rfl
theorem i139_1 : mm_cd 139 1 = some (.iload_n 1, 1, 0, 0) := rfl
theorem i139_2 : mm_cd 139 2 = some (.invokevirtual 233, 3, 0, 181) := rfl
theorem i139_5 : mm_cd 139 5 = some (.aload_n 0, 1, 0, 0) := rfl
theorem i139_6 : mm_cd 139 6 = some (.getfield 40, 3, ((10 : Nat) : Int), 4) := rfl
theorem i139_9 : mm_cd 139 9 = some (.getfield 152, 3, ((9 : Nat) : Int), 2) := rfl
theorem i139_12 : mm_cd 139 12 = some (.iload_n 1, 1, 0, 0) := rfl
theorem i139_13 : mm_cd 139 13 = some (.invokevirtual 253, 3, 0, 71) := rfl
theorem i139_16 : mm_cd 139 16 = some (.iconst (-1), 1, 0, 0) := rfl
theorem i139_17 : mm_cd 139 17 = some (.if_icmp .ne 17, 3, 0, 0) := rfl
theorem i139_20 : mm_cd 139 20 = some (.aload_n 0, 1, 0, 0) := rfl
theorem i139_21 : mm_cd 139 21 = some (.getfield 40, 3, ((10 : Nat) : Int), 4) := rfl
theorem i139_24 : mm_cd 139 24 = some (.getfield 152, 3, ((9 : Nat) : Int), 2) := rfl
theorem i139_27 : mm_cd 139 27 = some (.invokevirtual 273, 3, 0, 70) := rfl
theorem i139_30 : mm_cd 139 30 = some (.iconst (-1), 1, 0, 0) := rfl
theorem i139_31 : mm_cd 139 31 = some (.if_icmp .ne 14, 3, 0, 0) := rfl
theorem i139_34 : mm_cd 139 34 = some (.new 277, 3, 1, 4) := rfl
theorem i139_45 : mm_cd 139 45 = some (.aload_n 0, 1, 0, 0) := rfl
theorem i139_46 : mm_cd 139 46 = some (.invokevirtual 267, 3, 0, 177) := rfl
theorem i139_49 : mm_cd 139 49 = some (.aload_n 0, 1, 0, 0) := rfl
theorem i139_50 : mm_cd 139 50 = some (.getfield 40, 3, ((10 : Nat) : Int), 4) := rfl
theorem i139_53 : mm_cd 139 53 = some (.iload_n 1, 1, 0, 0) := rfl
theorem i139_54 : mm_cd 139 54 = some (.invokevirtual 282, 3, 0, 115) := rfl
theorem i139_57 : mm_cd 139 57 = some (.ireturn, 1, 0, 0) := rfl
def q139_34 (s : mS) : Option mQ := rx 4 s
theorem t139_34 {L : Nat} {xs : Nat → Int32} {d : Nat} (hd : 3 ≤ d) {s : mS} {r : mQ} (h : q139_34 s = some r) : Ev L xs d 139 34 [] [] (hp s) (hr r) := by
  unfold q139_34 at h
  exact Rd.throw H139 i139_34 (by decide +kernel) (Nat.le_of_ble_eq_true rfl) h
/-- SerialGate.begin(I)I -/
def q139 (v1 : Int32) (s : mS) : Option mQ := bU (q181 v1 s) fun s1 => bN (q71 (26 + 6) v1 s1) fun x3 s2 => if ¬ x3 = (-1 : Int32) then (q139_34 s2) else (bN (q70 (26 + 6) s2) fun x5 s4 => if ¬ x5 = (-1 : Int32) then (bM (q177 s4) fun s6 => bN (q115 26 v1 s6) fun x8 s7 => rv x8 s7) else (q139_34 s4))
theorem c139 {L : Nat} {xs : Nat → Int32} {v1 : Int32} {s : mS} {r : mQ} (h : q139 v1 s = some r) : ∀ d, 3 ≤ d → Cl L xs d 139 [.ref 0, .int v1] (hp s) (hr r) := by
  intro d hd
  show Ev L xs d 139 0 [(0, .ref 0), (1, .int v1)] [] (hp s) (hr r)
  unfold q139 at h
  refine Ev.aload_n H139 i139_0 rfl ?_
  refine Ev.iload_n H139 i139_1 rfl ?_
  refine Rd.cV1uT H139 i139_2 cal181 ob10 (Nat.le_of_ble_eq_true rfl) (Nat.le_of_ble_eq_true rfl) rfl rfl (Nat.lt_of_lt_of_le (by decide) hd) (fun q hq => c181 hq) h (fun s1 h => ?_)
  refine Ev.aload_n H139 i139_5 rfl ?_
  refine Rd.getR H139 i139_6 ob10 rfl ?_
  refine Rd.getR H139 i139_9 (ob9 mA9_26) rfl ?_
  refine Ev.iload_n H139 i139_12 rfl ?_
  refine Rd.cV1vN H139 i139_13 cal71 (ob6 (m9_6_6 mA9_26)) (Nat.le_of_ble_eq_true rfl) (Nat.le_of_ble_eq_true rfl) (Nat.lt_of_lt_of_le (by decide) hd) (fun q hq => c71 (m9_6_6 mA9_26) hq) h (fun x3 s2 h => ?_)
  refine Ev.iconst H139 i139_16 kI_m1 ?_
  refine Rd.ic_ne H139 i139_17 (t := 34) (by decide) h (fun hc h => ?_) (fun hc h => ?_)
  · exact Ev.sub (l := []) rfl rfl mm_sub_n (t139_34 hd h)
  · refine Ev.aload_n H139 i139_20 rfl ?_
    refine Rd.getR H139 i139_21 ob10 rfl ?_
    refine Rd.getR H139 i139_24 (ob9 mA9_26) rfl ?_
    refine Rd.cV0vN H139 i139_27 cal70 (ob6 (m9_6_6 mA9_26)) (Nat.le_of_ble_eq_true rfl) (Nat.le_of_ble_eq_true rfl) (Nat.lt_of_lt_of_le (by decide) hd) (fun q hq => c70 (m9_6_6 mA9_26) hq) h (fun x5 s4 h => ?_)
    refine Ev.iconst H139 i139_30 kI_m1 ?_
    refine Rd.ic_ne H139 i139_31 (t := 45) (by decide) h (fun hc h => ?_) (fun hc h => ?_)
    · refine Ev.aload_n H139 i139_45 rfl ?_
      refine Rd.cV0uN H139 i139_46 cal177 ob10 (Nat.le_of_ble_eq_true rfl) (Nat.le_of_ble_eq_true rfl) (Nat.lt_of_lt_of_le (by decide) hd) (fun q hq => c177 hq) h (fun s6 h => ?_)
      refine Ev.aload_n H139 i139_49 rfl ?_
      refine Rd.getR H139 i139_50 ob10 rfl ?_
      refine Ev.iload_n H139 i139_53 rfl ?_
      refine Rd.cV1vN H139 i139_54 cal115 (ob9 mA9_26) (Nat.le_of_ble_eq_true rfl) (Nat.le_of_ble_eq_true rfl) (Nat.lt_of_lt_of_le (by decide) hd) (fun q hq => c115 mA9_26 hq) h (fun x8 s7 h => ?_)
      exact Rd.ireturn H139 i139_57 rfl h
    · exact Ev.sub (l := []) rfl rfl mm_sub_n (t139_34 hd h)
theorem i183_0 : mm_cd 183 0 = some (.aload_n 0, 1, 0, 0) := rfl
theorem i183_1 : mm_cd 183 1 = some (.getfield 40, 3, ((10 : Nat) : Int), 4) := rfl
theorem i183_4 : mm_cd 183 4 = some (.getfield 152, 3, ((9 : Nat) : Int), 2) := rfl
theorem i183_7 : mm_cd 183 7 = some (.iload_n 1, 1, 0, 0) := rfl
theorem i183_8 : mm_cd 183 8 = some (.invokevirtual 156, 3, 0, 64) := rfl
theorem i183_11 : mm_cd 183 11 = some (.ifCond .ne 14, 3, 0, 0) := rfl
theorem i183_14 : mm_cd 183 14 = some (.new 277, 3, 1, 13) := rfl
theorem i183_25 : mm_cd 183 25 = some (.return_, 1, 0, 0) := rfl
/-- SerialGate.needRunning(I)V -/
def q183 (v1 : Int32) (s : mS) : Option mQ := bN (q64 (26 + 6) v1 s) fun x2 s1 => if ¬ x2 = 0 then (ru s1) else (rx 4 s1)
theorem c183 {L : Nat} {xs : Nat → Int32} {v1 : Int32} {s : mS} {r : mQ} (h : q183 v1 s = some r) : ∀ d, 1 ≤ d → Cl L xs d 183 [.ref 0, .int v1] (hp s) (hr r) := by
  intro d hd
  show Ev L xs d 183 0 [(0, .ref 0), (1, .int v1)] [] (hp s) (hr r)
  unfold q183 at h
  refine Ev.aload_n H183 i183_0 rfl ?_
  refine Rd.getR H183 i183_1 ob10 rfl ?_
  refine Rd.getR H183 i183_4 (ob9 mA9_26) rfl ?_
  refine Ev.iload_n H183 i183_7 rfl ?_
  refine Rd.cV1vN H183 i183_8 cal64 (ob6 (m9_6_6 mA9_26)) (Nat.le_of_ble_eq_true rfl) (Nat.le_of_ble_eq_true rfl) (Nat.lt_of_lt_of_le (by decide) hd) (fun q hq => c64 (m9_6_6 mA9_26) hq) h (fun x2 s1 h => ?_)
  refine Rd.if_ne H183 i183_11 (t := 25) (by decide) h (fun hc h => ?_) (fun hc h => ?_)
  · exact Rd.return_ H183 i183_25 rfl h
  · exact Rd.throw H183 i183_14 (by decide +kernel) (Nat.le_of_ble_eq_true rfl) h
theorem i140_0 : mm_cd 140 0 = some (.iload_n 1, 1, 0, 0) := rfl
theorem i140_1 : mm_cd 140 1 = some (.invokestatic 145, 3, 0, 179) := rfl
theorem i140_4 : mm_cd 140 4 = some (.iload_n 2, 1, 0, 0) := rfl
theorem i140_5 : mm_cd 140 5 = some (.invokestatic 212, 3, 0, 180) := rfl
theorem i140_8 : mm_cd 140 8 = some (.aload_n 0, 1, 0, 0) := rfl
theorem i140_9 : mm_cd 140 9 = some (.iload_n 1, 1, 0, 0) := rfl
theorem i140_10 : mm_cd 140 10 = some (.invokevirtual 285, 3, 0, 183) := rfl
theorem i140_13 : mm_cd 140 13 = some (.aload_n 0, 1, 0, 0) := rfl
theorem i140_14 : mm_cd 140 14 = some (.invokevirtual 267, 3, 0, 177) := rfl
theorem i140_17 : mm_cd 140 17 = some (.aload_n 0, 1, 0, 0) := rfl
theorem i140_18 : mm_cd 140 18 = some (.getfield 40, 3, ((10 : Nat) : Int), 4) := rfl
theorem i140_21 : mm_cd 140 21 = some (.iload_n 1, 1, 0, 0) := rfl
theorem i140_22 : mm_cd 140 22 = some (.iload_n 2, 1, 0, 0) := rfl
theorem i140_23 : mm_cd 140 23 = some (.invokevirtual 288, 3, 0, 116) := rfl
theorem i140_26 : mm_cd 140 26 = some (.aload_n 0, 1, 0, 0) := rfl
theorem i140_27 : mm_cd 140 27 = some (.getfield 40, 3, ((10 : Nat) : Int), 4) := rfl
theorem i140_30 : mm_cd 140 30 = some (.getfield 152, 3, ((9 : Nat) : Int), 2) := rfl
theorem i140_33 : mm_cd 140 33 = some (.astore_n 3, 1, 0, 0) := rfl
theorem i140_34 : mm_cd 140 34 = some (.aload_n 3, 1, 0, 0) := rfl
theorem i140_35 : mm_cd 140 35 = some (.iload_n 1, 1, 0, 0) := rfl
theorem i140_36 : mm_cd 140 36 = some (.invokevirtual 156, 3, 0, 64) := rfl
theorem i140_39 : mm_cd 140 39 = some (.ifCond .ne 5, 3, 0, 0) := rfl
theorem i140_42 : mm_cd 140 42 = some (.iconst (-1), 1, 0, 0) := rfl
theorem i140_43 : mm_cd 140 43 = some (.ireturn, 1, 0, 0) := rfl
theorem i140_44 : mm_cd 140 44 = some (.aload_n 3, 1, 0, 0) := rfl
theorem i140_45 : mm_cd 140 45 = some (.getfield 215, 3, ((6 : Nat) : Int), 14) := rfl
theorem i140_48 : mm_cd 140 48 = some (.iload_n 1, 1, 0, 0) := rfl
theorem i140_49 : mm_cd 140 49 = some (.bipush 10, 2, 0, 0) := rfl
theorem i140_51 : mm_cd 140 51 = some (.imul, 1, 0, 0) := rfl
theorem i140_52 : mm_cd 140 52 = some (.iload_n 2, 1, 0, 0) := rfl
theorem i140_53 : mm_cd 140 53 = some (.iadd, 1, 0, 0) := rfl
theorem i140_54 : mm_cd 140 54 = some (.iaload, 1, 0, 0) := rfl
theorem i140_55 : mm_cd 140 55 = some (.aload_n 3, 1, 0, 0) := rfl
theorem i140_56 : mm_cd 140 56 = some (.getfield 181, 3, ((6 : Nat) : Int), 9) := rfl
theorem i140_59 : mm_cd 140 59 = some (.iload_n 1, 1, 0, 0) := rfl
theorem i140_60 : mm_cd 140 60 = some (.iaload, 1, 0, 0) := rfl
theorem i140_61 : mm_cd 140 61 = some (.iload_n 2, 1, 0, 0) := rfl
theorem i140_62 : mm_cd 140 62 = some (.ishr, 1, 0, 0) := rfl
theorem i140_63 : mm_cd 140 63 = some (.iconst 1, 1, 0, 0) := rfl
theorem i140_64 : mm_cd 140 64 = some (.iand, 1, 0, 0) := rfl
theorem i140_65 : mm_cd 140 65 = some (.iadd, 1, 0, 0) := rfl
theorem i140_66 : mm_cd 140 66 = some (.ireturn, 1, 0, 0) := rfl
/-- SerialGate.read(II)I -/
def q140 (v1 : Int32) (v2 : Int32) (s : mS) : Option mQ := bU (q179 v1 s) fun s1 => bU (q180 v2 s1) fun s2 => bU (q183 v1 s2) fun s3 => bM (q177 s3) fun s4 => bM (q116 26 v1 v2 s4) fun s5 => bN (q64 (26 + 6) v1 s5) fun x7 s6 => if ¬ x7 = 0 then (gA 80 ((v1 * (10 : Int32)) + v2) <| gA 8 v1 <| rv ((s6.1 ((26 + 6) + 11) ((v1 * (10 : Int32)) + v2).toNatClampNeg) + ((shrI (s6.1 ((26 + 6) + 6) v1.toNatClampNeg) v2) &&& (1 : Int32))) s6) else (rv (-1 : Int32) s6)
theorem c140 {L : Nat} {xs : Nat → Int32} {v1 : Int32} {v2 : Int32} {s : mS} {r : mQ} (h : q140 v1 v2 s = some r) : ∀ d, 6 ≤ d → Cl L xs d 140 [.ref 0, .int v1, .int v2] (hp s) (hr r) := by
  intro d hd
  show Ev L xs d 140 0 [(0, .ref 0), (1, .int v1), (2, .int v2)] [] (hp s) (hr r)
  unfold q140 at h
  refine Ev.iload_n H140 i140_0 rfl ?_
  refine Rd.cS1uT H140 i140_1 cal179 (Nat.le_of_ble_eq_true rfl) (Nat.le_of_ble_eq_true rfl) rfl rfl (Nat.lt_of_lt_of_le (by decide) hd) (fun q hq => c179 hq) h (fun s1 h => ?_)
  refine Ev.iload_n H140 i140_4 rfl ?_
  refine Rd.cS1uT H140 i140_5 cal180 (Nat.le_of_ble_eq_true rfl) (Nat.le_of_ble_eq_true rfl) rfl rfl (Nat.lt_of_lt_of_le (by decide) hd) (fun q hq => c180 hq) h (fun s2 h => ?_)
  refine Ev.aload_n H140 i140_8 rfl ?_
  refine Ev.iload_n H140 i140_9 rfl ?_
  refine Rd.cV1uT H140 i140_10 cal183 ob10 (Nat.le_of_ble_eq_true rfl) (Nat.le_of_ble_eq_true rfl) rfl rfl (Nat.lt_of_lt_of_le (by decide) hd) (fun q hq => c183 hq) h (fun s3 h => ?_)
  refine Ev.aload_n H140 i140_13 rfl ?_
  refine Rd.cV0uN H140 i140_14 cal177 ob10 (Nat.le_of_ble_eq_true rfl) (Nat.le_of_ble_eq_true rfl) (Nat.lt_of_lt_of_le (by decide) hd) (fun q hq => c177 hq) h (fun s4 h => ?_)
  refine Ev.aload_n H140 i140_17 rfl ?_
  refine Rd.getR H140 i140_18 ob10 rfl ?_
  refine Ev.iload_n H140 i140_21 rfl ?_
  refine Ev.iload_n H140 i140_22 rfl ?_
  refine Rd.cV2uN H140 i140_23 cal116 (ob9 mA9_26) (Nat.le_of_ble_eq_true rfl) (Nat.le_of_ble_eq_true rfl) (Nat.lt_of_lt_of_le (by decide) hd) (fun q hq => c116 mA9_26 hq) h (fun s5 h => ?_)
  refine Ev.aload_n H140 i140_26 rfl ?_
  refine Rd.getR H140 i140_27 ob10 rfl ?_
  refine Rd.getR H140 i140_30 (ob9 mA9_26) rfl ?_
  refine Ev.astore_n H140 i140_33 (Nat.le_of_ble_eq_true rfl) (lv2 := [(3, .ref (26 + 6)), (0, .ref 0), (1, .int v1), (2, .int v2)]) rfl ?_
  refine Ev.aload_n H140 i140_34 rfl ?_
  refine Ev.iload_n H140 i140_35 rfl ?_
  refine Rd.cV1vN H140 i140_36 cal64 (ob6 (m9_6_6 mA9_26)) (Nat.le_of_ble_eq_true rfl) (Nat.le_of_ble_eq_true rfl) (Nat.lt_of_lt_of_le (by decide) hd) (fun q hq => c64 (m9_6_6 mA9_26) hq) h (fun x7 s6 h => ?_)
  refine Rd.if_ne H140 i140_39 (t := 44) (by decide) h (fun hc h => ?_) (fun hc h => ?_)
  · refine Ev.aload_n H140 i140_44 rfl ?_
    refine Rd.getR H140 i140_45 (ob6 (m9_6_6 mA9_26)) rfl ?_
    refine Ev.iload_n H140 i140_48 rfl ?_
    refine Ev.bipush H140 i140_49 kB_10 ?_
    refine Ev.imul H140 i140_51 ?_
    refine Ev.iload_n H140 i140_52 rfl ?_
    refine Ev.iadd H140 i140_53 ?_
    refine Rd.iaload H140 i140_54 (ar6_11 (m9_6_6 mA9_26)) h (fun h => ?_)
    refine Ev.aload_n H140 i140_55 rfl ?_
    refine Rd.getR H140 i140_56 (ob6 (m9_6_6 mA9_26)) rfl ?_
    refine Ev.iload_n H140 i140_59 rfl ?_
    refine Rd.iaload H140 i140_60 (ar6_6 (m9_6_6 mA9_26)) h (fun h => ?_)
    refine Ev.iload_n H140 i140_61 rfl ?_
    refine Rd.ishr H140 i140_62 ?_
    refine Ev.iconst H140 i140_63 kI_1 ?_
    refine Ev.iand H140 i140_64 ?_
    refine Ev.iadd H140 i140_65 ?_
    exact Rd.ireturn H140 i140_66 rfl h
  · refine Ev.iconst H140 i140_42 kI_m1 ?_
    exact Rd.ireturn H140 i140_43 rfl h
theorem i141_0 : mm_cd 141 0 = some (.iload_n 1, 1, 0, 0) := rfl
theorem i141_1 : mm_cd 141 1 = some (.invokestatic 145, 3, 0, 179) := rfl
theorem i141_4 : mm_cd 141 4 = some (.iload_n 2, 1, 0, 0) := rfl
theorem i141_5 : mm_cd 141 5 = some (.invokestatic 212, 3, 0, 180) := rfl
theorem i141_8 : mm_cd 141 8 = some (.aload_n 0, 1, 0, 0) := rfl
theorem i141_9 : mm_cd 141 9 = some (.iload_n 1, 1, 0, 0) := rfl
theorem i141_10 : mm_cd 141 10 = some (.invokevirtual 285, 3, 0, 183) := rfl
theorem i141_13 : mm_cd 141 13 = some (.aload_n 0, 1, 0, 0) := rfl
theorem i141_14 : mm_cd 141 14 = some (.getfield 40, 3, ((10 : Nat) : Int), 4) := rfl
theorem i141_17 : mm_cd 141 17 = some (.getfield 152, 3, ((9 : Nat) : Int), 2) := rfl
theorem i141_20 : mm_cd 141 20 = some (.iload_n 1, 1, 0, 0) := rfl
theorem i141_21 : mm_cd 141 21 = some (.invokevirtual 291, 3, 0, 66) := rfl
theorem i141_24 : mm_cd 141 24 = some (.ifCond .ne 18, 3, 0, 0) := rfl
theorem i141_27 : mm_cd 141 27 = some (.aload_n 0, 1, 0, 0) := rfl
theorem i141_28 : mm_cd 141 28 = some (.getfield 40, 3, ((10 : Nat) : Int), 4) := rfl
theorem i141_31 : mm_cd 141 31 = some (.getfield 152, 3, ((9 : Nat) : Int), 2) := rfl
theorem i141_34 : mm_cd 141 34 = some (.iload_n 1, 1, 0, 0) := rfl
theorem i141_35 : mm_cd 141 35 = some (.iload_n 2, 1, 0, 0) := rfl
theorem i141_36 : mm_cd 141 36 = some (.invokevirtual 292, 3, 0, 73) := rfl
theorem i141_39 : mm_cd 141 39 = some (.ifCond .eq 14, 3, 0, 0) := rfl
theorem i141_42 : mm_cd 141 42 = some (.new 277, 3, 1, 5) := rfl
theorem i141_53 : mm_cd 141 53 = some (.aload_n 0, 1, 0, 0) := rfl
theorem i141_54 : mm_cd 141 54 = some (.invokevirtual 267, 3, 0, 177) := rfl
theorem i141_57 : mm_cd 141 57 = some (.aload_n 0, 1, 0, 0) := rfl
theorem i141_58 : mm_cd 141 58 = some (.getfield 40, 3, ((10 : Nat) : Int), 4) := rfl
theorem i141_61 : mm_cd 141 61 = some (.iload_n 1, 1, 0, 0) := rfl
theorem i141_62 : mm_cd 141 62 = some (.iload_n 2, 1, 0, 0) := rfl
theorem i141_63 : mm_cd 141 63 = some (.invokevirtual 298, 3, 0, 117) := rfl
theorem i141_66 : mm_cd 141 66 = some (.aload_n 0, 1, 0, 0) := rfl
theorem i141_67 : mm_cd 141 67 = some (.getfield 40, 3, ((10 : Nat) : Int), 4) := rfl
theorem i141_70 : mm_cd 141 70 = some (.getfield 152, 3, ((9 : Nat) : Int), 2) := rfl
theorem i141_73 : mm_cd 141 73 = some (.iload_n 1, 1, 0, 0) := rfl
theorem i141_74 : mm_cd 141 74 = some (.invokevirtual 156, 3, 0, 64) := rfl
theorem i141_77 : mm_cd 141 77 = some (.ireturn, 1, 0, 0) := rfl
def q141_42 (s : mS) : Option mQ := rx 4 s
theorem t141_42 {L : Nat} {xs : Nat → Int32} {d : Nat} (hd : 6 ≤ d) {s : mS} {r : mQ} (h : q141_42 s = some r) : Ev L xs d 141 42 [] [] (hp s) (hr r) := by
  unfold q141_42 at h
  exact Rd.throw H141 i141_42 (by decide +kernel) (Nat.le_of_ble_eq_true rfl) h
/-- SerialGate.write(II)Z -/
def q141 (v1 : Int32) (v2 : Int32) (s : mS) : Option mQ := bU (q179 v1 s) fun s1 => bU (q180 v2 s1) fun s2 => bU (q183 v1 s2) fun s3 => bN (q66 (26 + 6) v1 s3) fun x5 s4 => if ¬ x5 = 0 then (q141_42 s4) else (bN (q73 (26 + 6) v1 v2 s4) fun x7 s6 => if x7 = 0 then (bM (q177 s6) fun s8 => bM (q117 26 v1 v2 s8) fun s9 => bN (q64 (26 + 6) v1 s9) fun x11 s10 => gB x11 <| rv x11 s10) else (q141_42 s6))
theorem c141 {L : Nat} {xs : Nat → Int32} {v1 : Int32} {v2 : Int32} {s : mS} {r : mQ} (h : q141 v1 v2 s = some r) : ∀ d, 6 ≤ d → Cl L xs d 141 [.ref 0, .int v1, .int v2] (hp s) (hr r) := by
  intro d hd
  show Ev L xs d 141 0 [(0, .ref 0), (1, .int v1), (2, .int v2)] [] (hp s) (hr r)
  unfold q141 at h
  refine Ev.iload_n H141 i141_0 rfl ?_
  refine Rd.cS1uT H141 i141_1 cal179 (Nat.le_of_ble_eq_true rfl) (Nat.le_of_ble_eq_true rfl) rfl rfl (Nat.lt_of_lt_of_le (by decide) hd) (fun q hq => c179 hq) h (fun s1 h => ?_)
  refine Ev.iload_n H141 i141_4 rfl ?_
  refine Rd.cS1uT H141 i141_5 cal180 (Nat.le_of_ble_eq_true rfl) (Nat.le_of_ble_eq_true rfl) rfl rfl (Nat.lt_of_lt_of_le (by decide) hd) (fun q hq => c180 hq) h (fun s2 h => ?_)
  refine Ev.aload_n H141 i141_8 rfl ?_
  refine Ev.iload_n H141 i141_9 rfl ?_
  refine Rd.cV1uT H141 i141_10 cal183 ob10 (Nat.le_of_ble_eq_true rfl) (Nat.le_of_ble_eq_true rfl) rfl rfl (Nat.lt_of_lt_of_le (by decide) hd) (fun q hq => c183 hq) h (fun s3 h => ?_)
  refine Ev.aload_n H141 i141_13 rfl ?_
  refine Rd.getR H141 i141_14 ob10 rfl ?_
  refine Rd.getR H141 i141_17 (ob9 mA9_26) rfl ?_
  refine Ev.iload_n H141 i141_20 rfl ?_
  refine Rd.cV1vN H141 i141_21 cal66 (ob6 (m9_6_6 mA9_26)) (Nat.le_of_ble_eq_true rfl) (Nat.le_of_ble_eq_true rfl) (Nat.lt_of_lt_of_le (by decide) hd) (fun q hq => c66 (m9_6_6 mA9_26) hq) h (fun x5 s4 h => ?_)
  refine Rd.if_ne H141 i141_24 (t := 42) (by decide) h (fun hc h => ?_) (fun hc h => ?_)
  · exact Ev.sub (l := []) rfl rfl mm_sub_n (t141_42 hd h)
  · refine Ev.aload_n H141 i141_27 rfl ?_
    refine Rd.getR H141 i141_28 ob10 rfl ?_
    refine Rd.getR H141 i141_31 (ob9 mA9_26) rfl ?_
    refine Ev.iload_n H141 i141_34 rfl ?_
    refine Ev.iload_n H141 i141_35 rfl ?_
    refine Rd.cV2vN H141 i141_36 cal73 (ob6 (m9_6_6 mA9_26)) (Nat.le_of_ble_eq_true rfl) (Nat.le_of_ble_eq_true rfl) (Nat.lt_of_lt_of_le (by decide) hd) (fun q hq => c73 (m9_6_6 mA9_26) hq) h (fun x7 s6 h => ?_)
    refine Rd.if_eq H141 i141_39 (t := 53) (by decide) h (fun hc h => ?_) (fun hc h => ?_)
    · refine Ev.aload_n H141 i141_53 rfl ?_
      refine Rd.cV0uN H141 i141_54 cal177 ob10 (Nat.le_of_ble_eq_true rfl) (Nat.le_of_ble_eq_true rfl) (Nat.lt_of_lt_of_le (by decide) hd) (fun q hq => c177 hq) h (fun s8 h => ?_)
      refine Ev.aload_n H141 i141_57 rfl ?_
      refine Rd.getR H141 i141_58 ob10 rfl ?_
      refine Ev.iload_n H141 i141_61 rfl ?_
      refine Ev.iload_n H141 i141_62 rfl ?_
      refine Rd.cV2uN H141 i141_63 cal117 (ob9 mA9_26) (Nat.le_of_ble_eq_true rfl) (Nat.le_of_ble_eq_true rfl) (Nat.lt_of_lt_of_le (by decide) hd) (fun q hq => c117 mA9_26 hq) h (fun s9 h => ?_)
      refine Ev.aload_n H141 i141_66 rfl ?_
      refine Rd.getR H141 i141_67 ob10 rfl ?_
      refine Rd.getR H141 i141_70 (ob9 mA9_26) rfl ?_
      refine Ev.iload_n H141 i141_73 rfl ?_
      refine Rd.cV1vN H141 i141_74 cal64 (ob6 (m9_6_6 mA9_26)) (Nat.le_of_ble_eq_true rfl) (Nat.le_of_ble_eq_true rfl) (Nat.lt_of_lt_of_le (by decide) hd) (fun q hq => c64 (m9_6_6 mA9_26) hq) h (fun x11 s10 h => ?_)
      exact Rd.ireturnZ H141 i141_77 rfl h
    · exact Ev.sub (l := []) rfl rfl mm_sub_n (t141_42 hd h)
theorem i142_0 : mm_cd 142 0 = some (.iload_n 1, 1, 0, 0) := rfl
theorem i142_1 : mm_cd 142 1 = some (.invokestatic 145, 3, 0, 179) := rfl
theorem i142_4 : mm_cd 142 4 = some (.aload_n 0, 1, 0, 0) := rfl
theorem i142_5 : mm_cd 142 5 = some (.iload_n 1, 1, 0, 0) := rfl
theorem i142_6 : mm_cd 142 6 = some (.invokevirtual 285, 3, 0, 183) := rfl
theorem i142_9 : mm_cd 142 9 = some (.aload_n 0, 1, 0, 0) := rfl
theorem i142_10 : mm_cd 142 10 = some (.invokevirtual 267, 3, 0, 177) := rfl
theorem i142_13 : mm_cd 142 13 = some (.aload_n 0, 1, 0, 0) := rfl
theorem i142_14 : mm_cd 142 14 = some (.getfield 40, 3, ((10 : Nat) : Int), 4) := rfl
theorem i142_17 : mm_cd 142 17 = some (.iload_n 1, 1, 0, 0) := rfl
theorem i142_18 : mm_cd 142 18 = some (.invokevirtual 301, 3, 0, 118) := rfl
theorem i142_21 : mm_cd 142 21 = some (.ireturn, 1, 0, 0) := rfl
/-- SerialGate.commit(I)I -/
def q142 (v1 : Int32) (s : mS) : Option mQ := bU (q179 v1 s) fun s1 => bU (q183 v1 s1) fun s2 => bM (q177 s2) fun s3 => bN (q118 26 v1 s3) fun x5 s4 => rv x5 s4
theorem c142 {L : Nat} {xs : Nat → Int32} {v1 : Int32} {s : mS} {r : mQ} (h : q142 v1 s = some r) : ∀ d, 6 ≤ d → Cl L xs d 142 [.ref 0, .int v1] (hp s) (hr r) := by
  intro d hd
  show Ev L xs d 142 0 [(0, .ref 0), (1, .int v1)] [] (hp s) (hr r)
  unfold q142 at h
  refine Ev.iload_n H142 i142_0 rfl ?_
  refine Rd.cS1uT H142 i142_1 cal179 (Nat.le_of_ble_eq_true rfl) (Nat.le_of_ble_eq_true rfl) rfl rfl (Nat.lt_of_lt_of_le (by decide) hd) (fun q hq => c179 hq) h (fun s1 h => ?_)
  refine Ev.aload_n H142 i142_4 rfl ?_
  refine Ev.iload_n H142 i142_5 rfl ?_
  refine Rd.cV1uT H142 i142_6 cal183 ob10 (Nat.le_of_ble_eq_true rfl) (Nat.le_of_ble_eq_true rfl) rfl rfl (Nat.lt_of_lt_of_le (by decide) hd) (fun q hq => c183 hq) h (fun s2 h => ?_)
  refine Ev.aload_n H142 i142_9 rfl ?_
  refine Rd.cV0uN H142 i142_10 cal177 ob10 (Nat.le_of_ble_eq_true rfl) (Nat.le_of_ble_eq_true rfl) (Nat.lt_of_lt_of_le (by decide) hd) (fun q hq => c177 hq) h (fun s3 h => ?_)
  refine Ev.aload_n H142 i142_13 rfl ?_
  refine Rd.getR H142 i142_14 ob10 rfl ?_
  refine Ev.iload_n H142 i142_17 rfl ?_
  refine Rd.cV1vN H142 i142_18 cal118 (ob9 mA9_26) (Nat.le_of_ble_eq_true rfl) (Nat.le_of_ble_eq_true rfl) (Nat.lt_of_lt_of_le (by decide) hd) (fun q hq => c118 mA9_26 hq) h (fun x5 s4 h => ?_)
  exact Rd.ireturn H142 i142_21 rfl h
theorem i143_0 : mm_cd 143 0 = some (.iload_n 1, 1, 0, 0) := rfl
theorem i143_1 : mm_cd 143 1 = some (.invokestatic 145, 3, 0, 179) := rfl
theorem i143_4 : mm_cd 143 4 = some (.aload_n 0, 1, 0, 0) := rfl
theorem i143_5 : mm_cd 143 5 = some (.iload_n 1, 1, 0, 0) := rfl
theorem i143_6 : mm_cd 143 6 = some (.invokevirtual 285, 3, 0, 183) := rfl
theorem i143_9 : mm_cd 143 9 = some (.aload_n 0, 1, 0, 0) := rfl
theorem i143_10 : mm_cd 143 10 = some (.invokevirtual 267, 3, 0, 177) := rfl
theorem i143_13 : mm_cd 143 13 = some (.aload_n 0, 1, 0, 0) := rfl
theorem i143_14 : mm_cd 143 14 = some (.getfield 40, 3, ((10 : Nat) : Int), 4) := rfl
theorem i143_17 : mm_cd 143 17 = some (.getfield 152, 3, ((9 : Nat) : Int), 2) := rfl
theorem i143_20 : mm_cd 143 20 = some (.getfield 165, 3, ((6 : Nat) : Int), 4) := rfl
theorem i143_23 : mm_cd 143 23 = some (.iload_n 1, 1, 0, 0) := rfl
theorem i143_24 : mm_cd 143 24 = some (.iaload, 1, 0, 0) := rfl
theorem i143_25 : mm_cd 143 25 = some (.istore_n 2, 1, 0, 0) := rfl
theorem i143_26 : mm_cd 143 26 = some (.aload_n 0, 1, 0, 0) := rfl
theorem i143_27 : mm_cd 143 27 = some (.getfield 40, 3, ((10 : Nat) : Int), 4) := rfl
theorem i143_30 : mm_cd 143 30 = some (.iload_n 1, 1, 0, 0) := rfl
theorem i143_31 : mm_cd 143 31 = some (.iconst 4, 1, 0, 0) := rfl
theorem i143_32 : mm_cd 143 32 = some (.invokevirtual 306, 3, 0, 119) := rfl
theorem i143_35 : mm_cd 143 35 = some (.aload_n 0, 1, 0, 0) := rfl
theorem i143_36 : mm_cd 143 36 = some (.getfield 40, 3, ((10 : Nat) : Int), 4) := rfl
theorem i143_39 : mm_cd 143 39 = some (.invokevirtual 122, 3, 0, 125) := rfl
theorem i143_42 : mm_cd 143 42 = some (.iload_n 2, 1, 0, 0) := rfl
theorem i143_43 : mm_cd 143 43 = some (.ireturn, 1, 0, 0) := rfl
/-- SerialGate.abort(I)I -/
def q143 (v1 : Int32) (s : mS) : Option mQ := bU (q179 v1 s) fun s1 => bU (q183 v1 s1) fun s2 => bM (q177 s2) fun s3 => gA 8 v1 <| bx (s3.1 ((26 + 6) + 1) v1.toNatClampNeg) fun x4 => bM (q119 26 v1 (4 : Int32) s3) fun s5 => bM (q125 26 s5) fun s6 => rv x4 s6
theorem c143 {L : Nat} {xs : Nat → Int32} {v1 : Int32} {s : mS} {r : mQ} (h : q143 v1 s = some r) : ∀ d, 3 ≤ d → Cl L xs d 143 [.ref 0, .int v1] (hp s) (hr r) := by
  intro d hd
  show Ev L xs d 143 0 [(0, .ref 0), (1, .int v1)] [] (hp s) (hr r)
  unfold q143 at h
  refine Ev.iload_n H143 i143_0 rfl ?_
  refine Rd.cS1uT H143 i143_1 cal179 (Nat.le_of_ble_eq_true rfl) (Nat.le_of_ble_eq_true rfl) rfl rfl (Nat.lt_of_lt_of_le (by decide) hd) (fun q hq => c179 hq) h (fun s1 h => ?_)
  refine Ev.aload_n H143 i143_4 rfl ?_
  refine Ev.iload_n H143 i143_5 rfl ?_
  refine Rd.cV1uT H143 i143_6 cal183 ob10 (Nat.le_of_ble_eq_true rfl) (Nat.le_of_ble_eq_true rfl) rfl rfl (Nat.lt_of_lt_of_le (by decide) hd) (fun q hq => c183 hq) h (fun s2 h => ?_)
  refine Ev.aload_n H143 i143_9 rfl ?_
  refine Rd.cV0uN H143 i143_10 cal177 ob10 (Nat.le_of_ble_eq_true rfl) (Nat.le_of_ble_eq_true rfl) (Nat.lt_of_lt_of_le (by decide) hd) (fun q hq => c177 hq) h (fun s3 h => ?_)
  refine Ev.aload_n H143 i143_13 rfl ?_
  refine Rd.getR H143 i143_14 ob10 rfl ?_
  refine Rd.getR H143 i143_17 (ob9 mA9_26) rfl ?_
  refine Rd.getR H143 i143_20 (ob6 (m9_6_6 mA9_26)) rfl ?_
  refine Ev.iload_n H143 i143_23 rfl ?_
  refine Rd.iaload H143 i143_24 (ar6_1 (m9_6_6 mA9_26)) h (fun h => ?_)
  refine Rd.istore_n H143 i143_25 (Nat.le_of_ble_eq_true rfl) (lv2 := fun x4 => [(2, .int x4), (0, .ref 0), (1, .int v1)]) (fun _ => rfl) h (fun x4 h => ?_)
  refine Ev.aload_n H143 i143_26 rfl ?_
  refine Rd.getR H143 i143_27 ob10 rfl ?_
  refine Ev.iload_n H143 i143_30 rfl ?_
  refine Ev.iconst H143 i143_31 kI_4 ?_
  refine Rd.cV2uN H143 i143_32 cal119 (ob9 mA9_26) (Nat.le_of_ble_eq_true rfl) (Nat.le_of_ble_eq_true rfl) (Nat.lt_of_lt_of_le (by decide) hd) (fun q hq => c119 mA9_26 hq) h (fun s5 h => ?_)
  refine Ev.aload_n H143 i143_35 rfl ?_
  refine Rd.getR H143 i143_36 ob10 rfl ?_
  refine Rd.cV0uN H143 i143_39 cal125 (ob9 mA9_26) (Nat.le_of_ble_eq_true rfl) (Nat.le_of_ble_eq_true rfl) (Nat.lt_of_lt_of_le (by decide) hd) (fun q hq => c125 mA9_26 hq) h (fun s6 h => ?_)
  refine Ev.iload_n H143 i143_42 rfl ?_
  exact Rd.ireturn H143 i143_43 rfl h
theorem i144_0 : mm_cd 144 0 = some (.iload_n 1, 1, 0, 0) := rfl
theorem i144_1 : mm_cd 144 1 = some (.ifCond .lt 9, 3, 0, 0) := rfl
theorem i144_4 : mm_cd 144 4 = some (.iload_n 1, 1, 0, 0) := rfl
theorem i144_5 : mm_cd 144 5 = some (.bipush 6, 2, 0, 0) := rfl
theorem i144_7 : mm_cd 144 7 = some (.if_icmp .le 14, 3, 0, 0) := rfl
theorem i144_10 : mm_cd 144 10 = some (.new 107, 3, 1, 6) := rfl
theorem i144_21 : mm_cd 144 21 = some (.aload_n 0, 1, 0, 0) := rfl
theorem i144_22 : mm_cd 144 22 = some (.invokevirtual 267, 3, 0, 177) := rfl
theorem i144_25 : mm_cd 144 25 = some (.aload_n 0, 1, 0, 0) := rfl
theorem i144_26 : mm_cd 144 26 = some (.getfield 40, 3, ((10 : Nat) : Int), 4) := rfl
theorem i144_29 : mm_cd 144 29 = some (.getfield 311, 3, ((9 : Nat) : Int), 10) := rfl
theorem i144_32 : mm_cd 144 32 = some (.istore_n 2, 1, 0, 0) := rfl
theorem i144_33 : mm_cd 144 33 = some (.aload_n 0, 1, 0, 0) := rfl
theorem i144_34 : mm_cd 144 34 = some (.getfield 40, 3, ((10 : Nat) : Int), 4) := rfl
theorem i144_37 : mm_cd 144 37 = some (.iload_n 1, 1, 0, 0) := rfl
theorem i144_38 : mm_cd 144 38 = some (.putfield 311, 3, ((9 : Nat) : Int), 10) := rfl
theorem i144_41 : mm_cd 144 41 = some (.aload_n 0, 1, 0, 0) := rfl
theorem i144_42 : mm_cd 144 42 = some (.getfield 40, 3, ((10 : Nat) : Int), 4) := rfl
theorem i144_45 : mm_cd 144 45 = some (.invokevirtual 122, 3, 0, 125) := rfl
theorem i144_48 : mm_cd 144 48 = some (.iload_n 2, 1, 0, 0) := rfl
theorem i144_49 : mm_cd 144 49 = some (.ireturn, 1, 0, 0) := rfl
def q144_10 (s : mS) : Option mQ := rx 0 s
theorem t144_10 {L : Nat} {xs : Nat → Int32} {d : Nat} (hd : 3 ≤ d) {s : mS} {r : mQ} (h : q144_10 s = some r) : Ev L xs d 144 10 [] [] (hp s) (hr r) := by
  unfold q144_10 at h
  exact Rd.throw H144 i144_10 (by decide +kernel) (Nat.le_of_ble_eq_true rfl) h
/-- SerialGate.keep(I)I -/
def q144 (v1 : Int32) (s : mS) : Option mQ := if v1 < 0 then (q144_10 s) else (if v1 ≤ (6 : Int32) then (bM (q177 s) fun s1 => bx (s1.1 26 10) fun x2 => sp (sI s1 26 10 v1) fun s3 => bM (q125 26 s3) fun s4 => rv x2 s4) else (q144_10 s))
theorem c144 {L : Nat} {xs : Nat → Int32} {v1 : Int32} {s : mS} {r : mQ} (h : q144 v1 s = some r) : ∀ d, 3 ≤ d → Cl L xs d 144 [.ref 0, .int v1] (hp s) (hr r) := by
  intro d hd
  show Ev L xs d 144 0 [(0, .ref 0), (1, .int v1)] [] (hp s) (hr r)
  unfold q144 at h
  refine Ev.iload_n H144 i144_0 rfl ?_
  refine Rd.if_lt H144 i144_1 (t := 10) (by decide) h (fun hc h => ?_) (fun hc h => ?_)
  · exact Ev.sub (l := []) rfl rfl mm_sub_n (t144_10 hd h)
  · refine Ev.iload_n H144 i144_4 rfl ?_
    refine Ev.bipush H144 i144_5 kB_6 ?_
    refine Rd.ic_le H144 i144_7 (t := 21) (by decide) h (fun hc h => ?_) (fun hc h => ?_)
    · refine Ev.aload_n H144 i144_21 rfl ?_
      refine Rd.cV0uN H144 i144_22 cal177 ob10 (Nat.le_of_ble_eq_true rfl) (Nat.le_of_ble_eq_true rfl) (Nat.lt_of_lt_of_le (by decide) hd) (fun q hq => c177 hq) h (fun s1 h => ?_)
      refine Ev.aload_n H144 i144_25 rfl ?_
      refine Rd.getR H144 i144_26 ob10 rfl ?_
      refine Rd.getI H144 i144_29 (ob9 mA9_26) rfl ?_
      refine Rd.istore_n H144 i144_32 (Nat.le_of_ble_eq_true rfl) (lv2 := fun x2 => [(2, .int x2), (0, .ref 0), (1, .int v1)]) (fun _ => rfl) h (fun x2 h => ?_)
      refine Ev.aload_n H144 i144_33 rfl ?_
      refine Rd.getR H144 i144_34 ob10 rfl ?_
      refine Ev.iload_n H144 i144_37 rfl ?_
      refine Rd.putI H144 i144_38 (ob9 mA9_26) rfl ty9_10.1 ty9_10.2 h (fun s3 h => ?_)
      refine Ev.aload_n H144 i144_41 rfl ?_
      refine Rd.getR H144 i144_42 ob10 rfl ?_
      refine Rd.cV0uN H144 i144_45 cal125 (ob9 mA9_26) (Nat.le_of_ble_eq_true rfl) (Nat.le_of_ble_eq_true rfl) (Nat.lt_of_lt_of_le (by decide) hd) (fun q hq => c125 mA9_26 hq) h (fun s4 h => ?_)
      refine Ev.iload_n H144 i144_48 rfl ?_
      exact Rd.ireturn H144 i144_49 rfl h
    · exact Ev.sub (l := []) rfl rfl mm_sub_n (t144_10 hd h)
theorem i145_0 : mm_cd 145 0 = some (.aload_n 0, 1, 0, 0) := rfl
theorem i145_1 : mm_cd 145 1 = some (.getfield 40, 3, ((10 : Nat) : Int), 4) := rfl
theorem i145_4 : mm_cd 145 4 = some (.getfield 314, 3, ((9 : Nat) : Int), 12) := rfl
theorem i145_7 : mm_cd 145 7 = some (.istore_n 2, 1, 0, 0) := rfl
theorem i145_8 : mm_cd 145 8 = some (.aload_n 0, 1, 0, 0) := rfl
theorem i145_9 : mm_cd 145 9 = some (.getfield 40, 3, ((10 : Nat) : Int), 4) := rfl
theorem i145_12 : mm_cd 145 12 = some (.iload_n 1, 1, 0, 0) := rfl
theorem i145_13 : mm_cd 145 13 = some (.putfield 314, 3, ((9 : Nat) : Int), 12) := rfl
theorem i145_16 : mm_cd 145 16 = some (.iload_n 2, 1, 0, 0) := rfl
theorem i145_17 : mm_cd 145 17 = some (.ireturn, 1, 0, 0) := rfl
/-- SerialGate.seed(I)I -/
def q145 (v1 : Int32) (s : mS) : Option mQ := bx (s.1 26 12) fun x1 => sp (sI s 26 12 v1) fun s2 => rv x1 s2
theorem c145 {L : Nat} {xs : Nat → Int32} {v1 : Int32} {s : mS} {r : mQ} (h : q145 v1 s = some r) : ∀ d, 0 ≤ d → Cl L xs d 145 [.ref 0, .int v1] (hp s) (hr r) := by
  intro d hd
  show Ev L xs d 145 0 [(0, .ref 0), (1, .int v1)] [] (hp s) (hr r)
  unfold q145 at h
  refine Ev.aload_n H145 i145_0 rfl ?_
  refine Rd.getR H145 i145_1 ob10 rfl ?_
  refine Rd.getI H145 i145_4 (ob9 mA9_26) rfl ?_
  refine Rd.istore_n H145 i145_7 (Nat.le_of_ble_eq_true rfl) (lv2 := fun x1 => [(2, .int x1), (0, .ref 0), (1, .int v1)]) (fun _ => rfl) h (fun x1 h => ?_)
  refine Ev.aload_n H145 i145_8 rfl ?_
  refine Rd.getR H145 i145_9 ob10 rfl ?_
  refine Ev.iload_n H145 i145_12 rfl ?_
  refine Rd.putI H145 i145_13 (ob9 mA9_26) rfl ty9_12.1 ty9_12.2 h (fun s2 h => ?_)
  refine Ev.iload_n H145 i145_16 rfl ?_
  exact Rd.ireturn H145 i145_17 rfl h
theorem i146_0 : mm_cd 146 0 = some (.iload_n 1, 1, 0, 0) := rfl
theorem i146_1 : mm_cd 146 1 = some (.invokestatic 145, 3, 0, 179) := rfl
theorem i146_4 : mm_cd 146 4 = some (.iload_n 2, 1, 0, 0) := rfl
theorem i146_5 : mm_cd 146 5 = some (.iconst 2, 1, 0, 0) := rfl
theorem i146_6 : mm_cd 146 6 = some (.if_icmp .eq 7, 3, 0, 0) := rfl
theorem i146_9 : mm_cd 146 9 = some (.iload_n 3, 1, 0, 0) := rfl
theorem i146_10 : mm_cd 146 10 = some (.invokestatic 212, 3, 0, 180) := rfl
theorem i146_13 : mm_cd 146 13 = some (.iload_n 2, 1, 0, 0) := rfl
theorem i146_14 : mm_cd 146 14 = some (.ifCond .lt 8, 3, 0, 0) := rfl
theorem i146_17 : mm_cd 146 17 = some (.iload_n 2, 1, 0, 0) := rfl
theorem i146_18 : mm_cd 146 18 = some (.iconst 2, 1, 0, 0) := rfl
theorem i146_19 : mm_cd 146 19 = some (.if_icmp .le 14, 3, 0, 0) := rfl
theorem i146_22 : mm_cd 146 22 = some (.new 107, 3, 1, 7) := rfl
theorem i146_33 : mm_cd 146 33 = some (.aload_n 0, 1, 0, 0) := rfl
theorem i146_34 : mm_cd 146 34 = some (.iload_n 1, 1, 0, 0) := rfl
theorem i146_35 : mm_cd 146 35 = some (.invokevirtual 285, 3, 0, 183) := rfl
theorem i146_38 : mm_cd 146 38 = some (.aload_n 0, 1, 0, 0) := rfl
theorem i146_39 : mm_cd 146 39 = some (.getfield 40, 3, ((10 : Nat) : Int), 4) := rfl
theorem i146_42 : mm_cd 146 42 = some (.getfield 152, 3, ((9 : Nat) : Int), 2) := rfl
theorem i146_45 : mm_cd 146 45 = some (.astore 4, 2, 0, 0) := rfl
theorem i146_47 : mm_cd 146 47 = some (.iload_n 2, 1, 0, 0) := rfl
theorem i146_48 : mm_cd 146 48 = some (.iconst 1, 1, 0, 0) := rfl
theorem i146_49 : mm_cd 146 49 = some (.if_icmp .ne 24, 3, 0, 0) := rfl
theorem i146_52 : mm_cd 146 52 = some (.aload 4, 2, 0, 0) := rfl
theorem i146_54 : mm_cd 146 54 = some (.iload_n 1, 1, 0, 0) := rfl
theorem i146_55 : mm_cd 146 55 = some (.invokevirtual 291, 3, 0, 66) := rfl
theorem i146_58 : mm_cd 146 58 = some (.ifCond .ne 13, 3, 0, 0) := rfl
theorem i146_61 : mm_cd 146 61 = some (.aload 4, 2, 0, 0) := rfl
theorem i146_63 : mm_cd 146 63 = some (.iload_n 1, 1, 0, 0) := rfl
theorem i146_64 : mm_cd 146 64 = some (.iload_n 3, 1, 0, 0) := rfl
theorem i146_65 : mm_cd 146 65 = some (.invokevirtual 292, 3, 0, 73) := rfl
theorem i146_68 : mm_cd 146 68 = some (.ifCond .eq 5, 3, 0, 0) := rfl
theorem i146_71 : mm_cd 146 71 = some (.iconst 0, 1, 0, 0) := rfl
theorem i146_72 : mm_cd 146 72 = some (.ireturn, 1, 0, 0) := rfl
theorem i146_73 : mm_cd 146 73 = some (.aload_n 0, 1, 0, 0) := rfl
theorem i146_74 : mm_cd 146 74 = some (.getfield 44, 3, ((10 : Nat) : Int), 5) := rfl
theorem i146_77 : mm_cd 146 77 = some (.aload_n 0, 1, 0, 0) := rfl
theorem i146_78 : mm_cd 146 78 = some (.getfield 40, 3, ((10 : Nat) : Int), 4) := rfl
theorem i146_81 : mm_cd 146 81 = some (.invokevirtual 95, 3, 0, 111) := rfl
theorem i146_84 : mm_cd 146 84 = some (.iconst 0, 1, 0, 0) := rfl
theorem i146_85 : mm_cd 146 85 = some (.istore 5, 2, 0, 0) := rfl
theorem i146_87 : mm_cd 146 87 = some (.iload_n 2, 1, 0, 0) := rfl
theorem i146_88 : mm_cd 146 88 = some (.ifCond .ne 15, 3, 0, 0) := rfl
theorem i146_91 : mm_cd 146 91 = some (.aload_n 0, 1, 0, 0) := rfl
theorem i146_92 : mm_cd 146 92 = some (.getfield 44, 3, ((10 : Nat) : Int), 5) := rfl
theorem i146_95 : mm_cd 146 95 = some (.iload_n 1, 1, 0, 0) := rfl
theorem i146_96 : mm_cd 146 96 = some (.iload_n 3, 1, 0, 0) := rfl
theorem i146_97 : mm_cd 146 97 = some (.invokevirtual 288, 3, 0, 116) := rfl
theorem i146_100 : mm_cd 146 100 = some (.goto 34, 3, 0, 0) := rfl
theorem i146_103 : mm_cd 146 103 = some (.iload_n 2, 1, 0, 0) := rfl
theorem i146_104 : mm_cd 146 104 = some (.iconst 1, 1, 0, 0) := rfl
theorem i146_105 : mm_cd 146 105 = some (.if_icmp .ne 15, 3, 0, 0) := rfl
theorem i146_108 : mm_cd 146 108 = some (.aload_n 0, 1, 0, 0) := rfl
theorem i146_109 : mm_cd 146 109 = some (.getfield 44, 3, ((10 : Nat) : Int), 5) := rfl
theorem i146_112 : mm_cd 146 112 = some (.iload_n 1, 1, 0, 0) := rfl
theorem i146_113 : mm_cd 146 113 = some (.iload_n 3, 1, 0, 0) := rfl
theorem i146_114 : mm_cd 146 114 = some (.invokevirtual 298, 3, 0, 117) := rfl
theorem i146_117 : mm_cd 146 117 = some (.goto 17, 3, 0, 0) := rfl
theorem i146_120 : mm_cd 146 120 = some (.aload_n 0, 1, 0, 0) := rfl
theorem i146_121 : mm_cd 146 121 = some (.getfield 44, 3, ((10 : Nat) : Int), 5) := rfl
theorem i146_124 : mm_cd 146 124 = some (.iload_n 1, 1, 0, 0) := rfl
theorem i146_125 : mm_cd 146 125 = some (.invokevirtual 301, 3, 0, 118) := rfl
theorem i146_128 : mm_cd 146 128 = some (.pop, 1, 0, 0) := rfl
theorem i146_129 : mm_cd 146 129 = some (.iconst 1, 1, 0, 0) := rfl
theorem i146_130 : mm_cd 146 130 = some (.iload_n 1, 1, 0, 0) := rfl
theorem i146_131 : mm_cd 146 131 = some (.ishl, 1, 0, 0) := rfl
theorem i146_132 : mm_cd 146 132 = some (.istore 5, 2, 0, 0) := rfl
theorem i146_134 : mm_cd 146 134 = some (.aload 4, 2, 0, 0) := rfl
theorem i146_136 : mm_cd 146 136 = some (.getfield 319, 3, ((6 : Nat) : Int), 0) := rfl
theorem i146_139 : mm_cd 146 139 = some (.aload_n 0, 1, 0, 0) := rfl
theorem i146_140 : mm_cd 146 140 = some (.getfield 44, 3, ((10 : Nat) : Int), 5) := rfl
theorem i146_143 : mm_cd 146 143 = some (.getfield 152, 3, ((9 : Nat) : Int), 2) := rfl
theorem i146_146 : mm_cd 146 146 = some (.getfield 319, 3, ((6 : Nat) : Int), 0) := rfl
theorem i146_149 : mm_cd 146 149 = some (.iconst (-1), 1, 0, 0) := rfl
theorem i146_150 : mm_cd 146 150 = some (.ixor, 1, 0, 0) := rfl
theorem i146_151 : mm_cd 146 151 = some (.iand, 1, 0, 0) := rfl
theorem i146_152 : mm_cd 146 152 = some (.iload 5, 2, 0, 0) := rfl
theorem i146_154 : mm_cd 146 154 = some (.iconst (-1), 1, 0, 0) := rfl
theorem i146_155 : mm_cd 146 155 = some (.ixor, 1, 0, 0) := rfl
theorem i146_156 : mm_cd 146 156 = some (.iand, 1, 0, 0) := rfl
theorem i146_157 : mm_cd 146 157 = some (.ireturn, 1, 0, 0) := rfl
def q146_22 (s : mS) : Option mQ := rx 0 s
theorem t146_22 {L : Nat} {xs : Nat → Int32} {d : Nat} (hd : 6 ≤ d) {s : mS} {r : mQ} (h : q146_22 s = some r) : Ev L xs d 146 22 [] [] (hp s) (hr r) := by
  unfold q146_22 at h
  exact Rd.throw H146 i146_22 (by decide +kernel) (Nat.le_of_ble_eq_true rfl) h
def q146_134 (v5 : Int32) (s : mS) : Option mQ := rv (((s.1 (26 + 6) 0) &&& ((s.1 (58 + 6) 0) ^^^ (-1 : Int32))) &&& (v5 ^^^ (-1 : Int32))) s
theorem t146_134 {L : Nat} {xs : Nat → Int32} {d : Nat} (hd : 6 ≤ d) {v5 : Int32} {s : mS} {r : mQ} (h : q146_134 v5 s = some r) : Ev L xs d 146 134 [(0, .ref 0), (4, .ref (26 + 6)), (5, .int v5)] [] (hp s) (hr r) := by
  unfold q146_134 at h
  refine Ev.aload H146 i146_134 rfl ?_
  refine Rd.getI H146 i146_136 (ob6 (m9_6_6 mA9_26)) rfl ?_
  refine Ev.aload_n H146 i146_139 rfl ?_
  refine Rd.getR H146 i146_140 ob10 rfl ?_
  refine Rd.getR H146 i146_143 (ob9 mA9_58) rfl ?_
  refine Rd.getI H146 i146_146 (ob6 (m9_6_6 mA9_58)) rfl ?_
  refine Ev.iconst H146 i146_149 kI_m1 ?_
  refine Ev.ixor H146 i146_150 ?_
  refine Ev.iand H146 i146_151 ?_
  refine Ev.iload H146 i146_152 rfl ?_
  refine Ev.iconst H146 i146_154 kI_m1 ?_
  refine Ev.ixor H146 i146_155 ?_
  refine Ev.iand H146 i146_156 ?_
  exact Rd.ireturn H146 i146_157 rfl h
def q146_73 (v1 : Int32) (v2 : Int32) (v3 : Int32) (s : mS) : Option mQ := bM (q111 58 26 s) fun s1 => if ¬ v2 = 0 then (if ¬ v2 = (1 : Int32) then (bN (q118 58 v1 s1) fun x3 s2 => bx (shlI (1 : Int32) v1) fun x4 => q146_134 x4 s2) else (bM (q117 58 v1 v3 s1) fun s5 => q146_134 (0 : Int32) s5)) else (bM (q116 58 v1 v3 s1) fun s6 => q146_134 (0 : Int32) s6)
theorem t146_73 {L : Nat} {xs : Nat → Int32} {d : Nat} (hd : 6 ≤ d) {v1 : Int32} {v2 : Int32} {v3 : Int32} {s : mS} {r : mQ} (h : q146_73 v1 v2 v3 s = some r) : Ev L xs d 146 73 [(0, .ref 0), (1, .int v1), (2, .int v2), (3, .int v3), (4, .ref (26 + 6))] [] (hp s) (hr r) := by
  unfold q146_73 at h
  refine Ev.aload_n H146 i146_73 rfl ?_
  refine Rd.getR H146 i146_74 ob10 rfl ?_
  refine Ev.aload_n H146 i146_77 rfl ?_
  refine Rd.getR H146 i146_78 ob10 rfl ?_
  refine Rd.cV1uN H146 i146_81 cal111 (ob9 mA9_58) (Nat.le_of_ble_eq_true rfl) (Nat.le_of_ble_eq_true rfl) (Nat.lt_of_lt_of_le (by decide) hd) (fun q hq => c111 mA9_58 mA9_26 hq) h (fun s1 h => ?_)
  refine Ev.iconst H146 i146_84 kI_0 ?_
  refine Ev.istore H146 i146_85 (Nat.le_of_ble_eq_true rfl) (lv2 := [(5, .int (0 : Int32)), (0, .ref 0), (1, .int v1), (2, .int v2), (3, .int v3), (4, .ref (26 + 6))]) rfl ?_
  refine Ev.iload_n H146 i146_87 rfl ?_
  refine Rd.if_ne H146 i146_88 (t := 103) (by decide) h (fun hc h => ?_) (fun hc h => ?_)
  · refine Ev.iload_n H146 i146_103 rfl ?_
    refine Ev.iconst H146 i146_104 kI_1 ?_
    refine Rd.ic_ne H146 i146_105 (t := 120) (by decide) h (fun hc h => ?_) (fun hc h => ?_)
    · refine Ev.aload_n H146 i146_120 rfl ?_
      refine Rd.getR H146 i146_121 ob10 rfl ?_
      refine Ev.iload_n H146 i146_124 rfl ?_
      refine Rd.cV1vN H146 i146_125 cal118 (ob9 mA9_58) (Nat.le_of_ble_eq_true rfl) (Nat.le_of_ble_eq_true rfl) (Nat.lt_of_lt_of_le (by decide) hd) (fun q hq => c118 mA9_58 hq) h (fun x3 s2 h => ?_)
      refine Ev.pop H146 i146_128 rfl ?_
      refine Ev.iconst H146 i146_129 kI_1 ?_
      refine Ev.iload_n H146 i146_130 rfl ?_
      refine Rd.ishl H146 i146_131 ?_
      refine Rd.istore H146 i146_132 (Nat.le_of_ble_eq_true rfl) (lv2 := fun x4 => [(5, .int x4), (0, .ref 0), (1, .int v1), (2, .int v2), (3, .int v3), (4, .ref (26 + 6))]) (fun _ => rfl) h (fun x4 h => ?_)
      exact Ev.sub (l := [(0, .ref 0), (4, .ref (26 + 6)), (5, .int x4)]) rfl rfl (mm_sub_c rfl (mm_sub_c rfl (mm_sub_c rfl mm_sub_n))) (t146_134 hd h)
    · refine Ev.aload_n H146 i146_108 rfl ?_
      refine Rd.getR H146 i146_109 ob10 rfl ?_
      refine Ev.iload_n H146 i146_112 rfl ?_
      refine Ev.iload_n H146 i146_113 rfl ?_
      refine Rd.cV2uN H146 i146_114 cal117 (ob9 mA9_58) (Nat.le_of_ble_eq_true rfl) (Nat.le_of_ble_eq_true rfl) (Nat.lt_of_lt_of_le (by decide) hd) (fun q hq => c117 mA9_58 hq) h (fun s5 h => ?_)
      refine Ev.goto H146 i146_117 (t := 134) (by decide) ?_
      exact Ev.sub (l := [(0, .ref 0), (4, .ref (26 + 6)), (5, .int (0 : Int32))]) rfl rfl (mm_sub_c rfl (mm_sub_c rfl (mm_sub_c rfl mm_sub_n))) (t146_134 hd h)
  · refine Ev.aload_n H146 i146_91 rfl ?_
    refine Rd.getR H146 i146_92 ob10 rfl ?_
    refine Ev.iload_n H146 i146_95 rfl ?_
    refine Ev.iload_n H146 i146_96 rfl ?_
    refine Rd.cV2uN H146 i146_97 cal116 (ob9 mA9_58) (Nat.le_of_ble_eq_true rfl) (Nat.le_of_ble_eq_true rfl) (Nat.lt_of_lt_of_le (by decide) hd) (fun q hq => c116 mA9_58 hq) h (fun s6 h => ?_)
    refine Ev.goto H146 i146_100 (t := 134) (by decide) ?_
    exact Ev.sub (l := [(0, .ref 0), (4, .ref (26 + 6)), (5, .int (0 : Int32))]) rfl rfl (mm_sub_c rfl (mm_sub_c rfl (mm_sub_c rfl mm_sub_n))) (t146_134 hd h)
def q146_13 (v1 : Int32) (v2 : Int32) (v3 : Int32) (s : mS) : Option mQ := if v2 < 0 then (q146_22 s) else (if v2 ≤ (2 : Int32) then (bU (q183 v1 s) fun s7 => if ¬ v2 = (1 : Int32) then (q146_73 v1 v2 v3 s7) else (bN (q66 (26 + 6) v1 s7) fun x9 s8 => if ¬ x9 = 0 then (rv (0 : Int32) s8) else (bN (q73 (26 + 6) v1 v3 s8) fun x11 s10 => if x11 = 0 then (q146_73 v1 v2 v3 s10) else (rv (0 : Int32) s10)))) else (q146_22 s))
theorem t146_13 {L : Nat} {xs : Nat → Int32} {d : Nat} (hd : 6 ≤ d) {v1 : Int32} {v2 : Int32} {v3 : Int32} {s : mS} {r : mQ} (h : q146_13 v1 v2 v3 s = some r) : Ev L xs d 146 13 [(0, .ref 0), (1, .int v1), (2, .int v2), (3, .int v3)] [] (hp s) (hr r) := by
  unfold q146_13 at h
  refine Ev.iload_n H146 i146_13 rfl ?_
  refine Rd.if_lt H146 i146_14 (t := 22) (by decide) h (fun hc h => ?_) (fun hc h => ?_)
  · exact Ev.sub (l := []) rfl rfl mm_sub_n (t146_22 hd h)
  · refine Ev.iload_n H146 i146_17 rfl ?_
    refine Ev.iconst H146 i146_18 kI_2 ?_
    refine Rd.ic_le H146 i146_19 (t := 33) (by decide) h (fun hc h => ?_) (fun hc h => ?_)
    · refine Ev.aload_n H146 i146_33 rfl ?_
      refine Ev.iload_n H146 i146_34 rfl ?_
      refine Rd.cV1uT H146 i146_35 cal183 ob10 (Nat.le_of_ble_eq_true rfl) (Nat.le_of_ble_eq_true rfl) rfl rfl (Nat.lt_of_lt_of_le (by decide) hd) (fun q hq => c183 hq) h (fun s7 h => ?_)
      refine Ev.aload_n H146 i146_38 rfl ?_
      refine Rd.getR H146 i146_39 ob10 rfl ?_
      refine Rd.getR H146 i146_42 (ob9 mA9_26) rfl ?_
      refine Ev.astore H146 i146_45 (Nat.le_of_ble_eq_true rfl) (lv2 := [(4, .ref (26 + 6)), (0, .ref 0), (1, .int v1), (2, .int v2), (3, .int v3)]) rfl ?_
      refine Ev.iload_n H146 i146_47 rfl ?_
      refine Ev.iconst H146 i146_48 kI_1 ?_
      refine Rd.ic_ne H146 i146_49 (t := 73) (by decide) h (fun hc h => ?_) (fun hc h => ?_)
      · exact Ev.sub (l := [(0, .ref 0), (1, .int v1), (2, .int v2), (3, .int v3), (4, .ref (26 + 6))]) rfl rfl (mm_sub_c rfl (mm_sub_c rfl (mm_sub_c rfl (mm_sub_c rfl (mm_sub_c rfl mm_sub_n))))) (t146_73 hd h)
      · refine Ev.aload H146 i146_52 rfl ?_
        refine Ev.iload_n H146 i146_54 rfl ?_
        refine Rd.cV1vN H146 i146_55 cal66 (ob6 (m9_6_6 mA9_26)) (Nat.le_of_ble_eq_true rfl) (Nat.le_of_ble_eq_true rfl) (Nat.lt_of_lt_of_le (by decide) hd) (fun q hq => c66 (m9_6_6 mA9_26) hq) h (fun x9 s8 h => ?_)
        refine Rd.if_ne H146 i146_58 (t := 71) (by decide) h (fun hc h => ?_) (fun hc h => ?_)
        · refine Ev.iconst H146 i146_71 kI_0 ?_
          exact Rd.ireturn H146 i146_72 rfl h
        · refine Ev.aload H146 i146_61 rfl ?_
          refine Ev.iload_n H146 i146_63 rfl ?_
          refine Ev.iload_n H146 i146_64 rfl ?_
          refine Rd.cV2vN H146 i146_65 cal73 (ob6 (m9_6_6 mA9_26)) (Nat.le_of_ble_eq_true rfl) (Nat.le_of_ble_eq_true rfl) (Nat.lt_of_lt_of_le (by decide) hd) (fun q hq => c73 (m9_6_6 mA9_26) hq) h (fun x11 s10 h => ?_)
          refine Rd.if_eq H146 i146_68 (t := 73) (by decide) h (fun hc h => ?_) (fun hc h => ?_)
          · exact Ev.sub (l := [(0, .ref 0), (1, .int v1), (2, .int v2), (3, .int v3), (4, .ref (26 + 6))]) rfl rfl (mm_sub_c rfl (mm_sub_c rfl (mm_sub_c rfl (mm_sub_c rfl (mm_sub_c rfl mm_sub_n))))) (t146_73 hd h)
          · refine Ev.iconst H146 i146_71 kI_0 ?_
            exact Rd.ireturn H146 i146_72 rfl h
    · exact Ev.sub (l := []) rfl rfl mm_sub_n (t146_22 hd h)
/-- SerialGate.dooms(III)I -/
def q146 (v1 : Int32) (v2 : Int32) (v3 : Int32) (s : mS) : Option mQ := bU (q179 v1 s) fun s12 => if v2 = (2 : Int32) then (q146_13 v1 v2 v3 s12) else (bU (q180 v3 s12) fun s13 => q146_13 v1 v2 v3 s13)
theorem c146 {L : Nat} {xs : Nat → Int32} {v1 : Int32} {v2 : Int32} {v3 : Int32} {s : mS} {r : mQ} (h : q146 v1 v2 v3 s = some r) : ∀ d, 6 ≤ d → Cl L xs d 146 [.ref 0, .int v1, .int v2, .int v3] (hp s) (hr r) := by
  intro d hd
  show Ev L xs d 146 0 [(0, .ref 0), (1, .int v1), (2, .int v2), (3, .int v3)] [] (hp s) (hr r)
  unfold q146 at h
  refine Ev.iload_n H146 i146_0 rfl ?_
  refine Rd.cS1uT H146 i146_1 cal179 (Nat.le_of_ble_eq_true rfl) (Nat.le_of_ble_eq_true rfl) rfl rfl (Nat.lt_of_lt_of_le (by decide) hd) (fun q hq => c179 hq) h (fun s12 h => ?_)
  refine Ev.iload_n H146 i146_4 rfl ?_
  refine Ev.iconst H146 i146_5 kI_2 ?_
  refine Rd.ic_eq H146 i146_6 (t := 13) (by decide) h (fun hc h => ?_) (fun hc h => ?_)
  · exact Ev.sub (l := [(0, .ref 0), (1, .int v1), (2, .int v2), (3, .int v3)]) rfl rfl (mm_sub_c rfl (mm_sub_c rfl (mm_sub_c rfl (mm_sub_c rfl mm_sub_n)))) (t146_13 hd h)
  · refine Ev.iload_n H146 i146_9 rfl ?_
    refine Rd.cS1uT H146 i146_10 cal180 (Nat.le_of_ble_eq_true rfl) (Nat.le_of_ble_eq_true rfl) rfl rfl (Nat.lt_of_lt_of_le (by decide) hd) (fun q hq => c180 hq) h (fun s13 h => ?_)
    exact Ev.sub (l := [(0, .ref 0), (1, .int v1), (2, .int v2), (3, .int v3)]) rfl rfl (mm_sub_c rfl (mm_sub_c rfl (mm_sub_c rfl (mm_sub_c rfl mm_sub_n)))) (t146_13 hd h)
theorem i147_0 : mm_cd 147 0 = some (.iconst 0, 1, 0, 0) := rfl
theorem i147_1 : mm_cd 147 1 = some (.istore_n 1, 1, 0, 0) := rfl
theorem i147_2 : mm_cd 147 2 = some (.iconst 0, 1, 0, 0) := rfl
theorem i147_3 : mm_cd 147 3 = some (.istore_n 2, 1, 0, 0) := rfl
theorem i147_4 : mm_cd 147 4 = some (.iload_n 2, 1, 0, 0) := rfl
theorem i147_5 : mm_cd 147 5 = some (.bipush 8, 2, 0, 0) := rfl
theorem i147_7 : mm_cd 147 7 = some (.if_icmp .ge 43, 3, 0, 0) := rfl
theorem i147_10 : mm_cd 147 10 = some (.aload_n 0, 1, 0, 0) := rfl
theorem i147_11 : mm_cd 147 11 = some (.getfield 40, 3, ((10 : Nat) : Int), 4) := rfl
theorem i147_14 : mm_cd 147 14 = some (.getfield 152, 3, ((9 : Nat) : Int), 2) := rfl
theorem i147_17 : mm_cd 147 17 = some (.iload_n 2, 1, 0, 0) := rfl
theorem i147_18 : mm_cd 147 18 = some (.invokevirtual 162, 3, 0, 65) := rfl
theorem i147_21 : mm_cd 147 21 = some (.ifCond .eq 23, 3, 0, 0) := rfl
theorem i147_24 : mm_cd 147 24 = some (.aload_n 0, 1, 0, 0) := rfl
theorem i147_25 : mm_cd 147 25 = some (.getfield 40, 3, ((10 : Nat) : Int), 4) := rfl
theorem i147_28 : mm_cd 147 28 = some (.getfield 152, 3, ((9 : Nat) : Int), 2) := rfl
theorem i147_31 : mm_cd 147 31 = some (.iload_n 2, 1, 0, 0) := rfl
theorem i147_32 : mm_cd 147 32 = some (.invokevirtual 322, 3, 0, 69) := rfl
theorem i147_35 : mm_cd 147 35 = some (.ifCond .eq 9, 3, 0, 0) := rfl
theorem i147_38 : mm_cd 147 38 = some (.iload_n 1, 1, 0, 0) := rfl
theorem i147_39 : mm_cd 147 39 = some (.iconst 1, 1, 0, 0) := rfl
theorem i147_40 : mm_cd 147 40 = some (.iload_n 2, 1, 0, 0) := rfl
theorem i147_41 : mm_cd 147 41 = some (.ishl, 1, 0, 0) := rfl
theorem i147_42 : mm_cd 147 42 = some (.ior, 1, 0, 0) := rfl
theorem i147_43 : mm_cd 147 43 = some (.istore_n 1, 1, 0, 0) := rfl
theorem i147_44 : mm_cd 147 44 = some (.iinc 2 1, 3, 0, 0) := rfl
theorem i147_47 : mm_cd 147 47 = some (.goto (-43), 3, 0, 0) := rfl
theorem i147_50 : mm_cd 147 50 = some (.iload_n 1, 1, 0, 0) := rfl
theorem i147_51 : mm_cd 147 51 = some (.ireturn, 1, 0, 0) := rfl
def q147_44 (k4 : Int32 → Int32 → mS → Option mQ) (v1 : Int32) (v2 : Int32) (s : mS) : Option mQ := bx (v2 + (1 : Int32)) fun x1 => k4 v1 x1 s
theorem t147_44 {L : Nat} {xs : Nat → Int32} {d : Nat} {k4 : Int32 → Int32 → mS → Option mQ} (hk4 : ∀ (v1 : Int32) (v2 : Int32) (s : mS) (r : mQ), k4 v1 v2 s = some r → Ev L xs d 147 4 [(0, .ref 0), (1, .int v1), (2, .int v2)] [] (hp s) (hr r)) (hd : 1 ≤ d) {v1 : Int32} {v2 : Int32} {s : mS} {r : mQ} (h : q147_44 k4 v1 v2 s = some r) : Ev L xs d 147 44 [(0, .ref 0), (1, .int v1), (2, .int v2)] [] (hp s) (hr r) := by
  unfold q147_44 at h
  refine Rd.iinc H147 i147_44 (Nat.le_of_ble_eq_true rfl) rfl kI_1 (lv2 := fun x1 => [(2, .int x1), (0, .ref 0), (1, .int v1)]) (fun _ => rfl) h (fun x1 h => ?_)
  refine Ev.goto H147 i147_47 (t := 4) (by decide) ?_
  exact Ev.sub (l := [(0, .ref 0), (1, .int v1), (2, .int x1)]) rfl rfl (mm_sub_c rfl (mm_sub_c rfl (mm_sub_c rfl mm_sub_n))) (hk4 _ _ _ _ h)
def q147_4 : Nat → Int32 → Int32 → mS → Option mQ
  | 0, _, _, _ => none
  | n + 1, v1, v2, s => if (8 : Int32) ≤ v2 then (rv v1 s) else (bN (q65 (26 + 6) v2 s) fun x3 s2 => if x3 = 0 then (q147_44 (q147_4 n) v1 v2 s2) else (bN (q69 (26 + 6) v2 s2) fun x5 s4 => if x5 = 0 then (q147_44 (q147_4 n) v1 v2 s4) else (bx (v1 ||| (shlI (1 : Int32) v2)) fun x6 => q147_44 (q147_4 n) x6 v2 s4)))
theorem t147_4 {L : Nat} {xs : Nat → Int32} {d : Nat} (hd : 1 ≤ d) : ∀ (n : Nat) (v1 : Int32) (v2 : Int32) (s : mS) (r : mQ), q147_4 n v1 v2 s = some r → Ev L xs d 147 4 [(0, .ref 0), (1, .int v1), (2, .int v2)] [] (hp s) (hr r) := by
  intro n
  induction n with
  | zero => intro v1 v2 s r h; rw [q147_4] at h; cases h
  | succ n ih =>
    intro v1 v2 s r h
    rw [q147_4] at h
    refine Ev.iload_n H147 i147_4 rfl ?_
    refine Ev.bipush H147 i147_5 kB_8 ?_
    refine Rd.ic_ge H147 i147_7 (t := 50) (by decide) h (fun hc h => ?_) (fun hc h => ?_)
    · refine Ev.iload_n H147 i147_50 rfl ?_
      exact Rd.ireturn H147 i147_51 rfl h
    · refine Ev.aload_n H147 i147_10 rfl ?_
      refine Rd.getR H147 i147_11 ob10 rfl ?_
      refine Rd.getR H147 i147_14 (ob9 mA9_26) rfl ?_
      refine Ev.iload_n H147 i147_17 rfl ?_
      refine Rd.cV1vN H147 i147_18 cal65 (ob6 (m9_6_6 mA9_26)) (Nat.le_of_ble_eq_true rfl) (Nat.le_of_ble_eq_true rfl) (Nat.lt_of_lt_of_le (by decide) hd) (fun q hq => c65 (m9_6_6 mA9_26) hq) h (fun x3 s2 h => ?_)
      refine Rd.if_eq H147 i147_21 (t := 44) (by decide) h (fun hc h => ?_) (fun hc h => ?_)
      · exact Ev.sub (l := [(0, .ref 0), (1, .int v1), (2, .int v2)]) rfl rfl (mm_sub_c rfl (mm_sub_c rfl (mm_sub_c rfl mm_sub_n))) (t147_44 (k4 := (q147_4 n)) (fun _ _ _ _ h => ih _ _ _ _ h) hd h)
      · refine Ev.aload_n H147 i147_24 rfl ?_
        refine Rd.getR H147 i147_25 ob10 rfl ?_
        refine Rd.getR H147 i147_28 (ob9 mA9_26) rfl ?_
        refine Ev.iload_n H147 i147_31 rfl ?_
        refine Rd.cV1vN H147 i147_32 cal69 (ob6 (m9_6_6 mA9_26)) (Nat.le_of_ble_eq_true rfl) (Nat.le_of_ble_eq_true rfl) (Nat.lt_of_lt_of_le (by decide) hd) (fun q hq => c69 (m9_6_6 mA9_26) hq) h (fun x5 s4 h => ?_)
        refine Rd.if_eq H147 i147_35 (t := 44) (by decide) h (fun hc h => ?_) (fun hc h => ?_)
        · exact Ev.sub (l := [(0, .ref 0), (1, .int v1), (2, .int v2)]) rfl rfl (mm_sub_c rfl (mm_sub_c rfl (mm_sub_c rfl mm_sub_n))) (t147_44 (k4 := (q147_4 n)) (fun _ _ _ _ h => ih _ _ _ _ h) hd h)
        · refine Ev.iload_n H147 i147_38 rfl ?_
          refine Ev.iconst H147 i147_39 kI_1 ?_
          refine Ev.iload_n H147 i147_40 rfl ?_
          refine Rd.ishl H147 i147_41 ?_
          refine Ev.ior H147 i147_42 ?_
          refine Rd.istore_n H147 i147_43 (Nat.le_of_ble_eq_true rfl) (lv2 := fun x6 => [(1, .int x6), (0, .ref 0), (2, .int v2)]) (fun _ => rfl) h (fun x6 h => ?_)
          exact Ev.sub (l := [(0, .ref 0), (1, .int x6), (2, .int v2)]) rfl rfl (mm_sub_c rfl (mm_sub_c rfl (mm_sub_c rfl mm_sub_n))) (t147_44 (k4 := (q147_4 n)) (fun _ _ _ _ h => ih _ _ _ _ h) hd h)
/-- SerialGate.pivots()I -/
def q147 (s : mS) : Option mQ := q147_4 10000 (0 : Int32) (0 : Int32) s
theorem c147 {L : Nat} {xs : Nat → Int32} {s : mS} {r : mQ} (h : q147 s = some r) : ∀ d, 1 ≤ d → Cl L xs d 147 [.ref 0] (hp s) (hr r) := by
  intro d hd
  show Ev L xs d 147 0 [(0, .ref 0)] [] (hp s) (hr r)
  unfold q147 at h
  refine Ev.iconst H147 i147_0 kI_0 ?_
  refine Ev.istore_n H147 i147_1 (Nat.le_of_ble_eq_true rfl) (lv2 := [(1, .int (0 : Int32)), (0, .ref 0)]) rfl ?_
  refine Ev.iconst H147 i147_2 kI_0 ?_
  refine Ev.istore_n H147 i147_3 (Nat.le_of_ble_eq_true rfl) (lv2 := [(2, .int (0 : Int32)), (1, .int (0 : Int32)), (0, .ref 0)]) rfl ?_
  exact Ev.sub (l := [(0, .ref 0), (1, .int (0 : Int32)), (2, .int (0 : Int32))]) rfl rfl (mm_sub_c rfl (mm_sub_c rfl (mm_sub_c rfl mm_sub_n))) (t147_4 hd 10000 _ _ _ _ h)
theorem i148_0 : mm_cd 148 0 = some (.aload_n 0, 1, 0, 0) := rfl
theorem i148_1 : mm_cd 148 1 = some (.getfield 40, 3, ((10 : Nat) : Int), 4) := rfl
theorem i148_4 : mm_cd 148 4 = some (.getfield 152, 3, ((9 : Nat) : Int), 2) := rfl
theorem i148_7 : mm_cd 148 7 = some (.invokevirtual 325, 3, 0, 89) := rfl
theorem i148_10 : mm_cd 148 10 = some (.ireturn, 1, 0, 0) := rfl
/-- SerialGate.cut()I -/
def q148 (s : mS) : Option mQ := bN (q89 (26 + 6) s) fun x2 s1 => rv x2 s1
theorem c148 {L : Nat} {xs : Nat → Int32} {s : mS} {r : mQ} (h : q148 s = some r) : ∀ d, 2 ≤ d → Cl L xs d 148 [.ref 0] (hp s) (hr r) := by
  intro d hd
  show Ev L xs d 148 0 [(0, .ref 0)] [] (hp s) (hr r)
  unfold q148 at h
  refine Ev.aload_n H148 i148_0 rfl ?_
  refine Rd.getR H148 i148_1 ob10 rfl ?_
  refine Rd.getR H148 i148_4 (ob9 mA9_26) rfl ?_
  refine Rd.cV0vN H148 i148_7 cal89 (ob6 (m9_6_6 mA9_26)) (Nat.le_of_ble_eq_true rfl) (Nat.le_of_ble_eq_true rfl) (Nat.lt_of_lt_of_le (by decide) hd) (fun q hq => c89 (m9_6_6 mA9_26) hq) h (fun x2 s1 h => ?_)
  exact Rd.ireturn H148 i148_10 rfl h
theorem i149_0 : mm_cd 149 0 = some (.iload_n 2, 1, 0, 0) := rfl
theorem i149_1 : mm_cd 149 1 = some (.iconst 3, 1, 0, 0) := rfl
theorem i149_2 : mm_cd 149 2 = some (.invokestatic 148, 3, 0, 184) := rfl
theorem i149_5 : mm_cd 149 5 = some (.aload_n 0, 1, 0, 0) := rfl
theorem i149_6 : mm_cd 149 6 = some (.getfield 40, 3, ((10 : Nat) : Int), 4) := rfl
theorem i149_9 : mm_cd 149 9 = some (.getfield 328, 3, ((9 : Nat) : Int), 3) := rfl
theorem i149_12 : mm_cd 149 12 = some (.astore_n 3, 1, 0, 0) := rfl
theorem i149_13 : mm_cd 149 13 = some (.iload_n 1, 1, 0, 0) := rfl
theorem i149_14 : mm_cd 149 14 = some (.ifCond .lt 11, 3, 0, 0) := rfl
theorem i149_17 : mm_cd 149 17 = some (.iload_n 1, 1, 0, 0) := rfl
theorem i149_18 : mm_cd 149 18 = some (.aload_n 3, 1, 0, 0) := rfl
theorem i149_19 : mm_cd 149 19 = some (.getfield 332, 3, ((1 : Nat) : Int), 0) := rfl
theorem i149_22 : mm_cd 149 22 = some (.if_icmp .lt 5, 3, 0, 0) := rfl
theorem i149_25 : mm_cd 149 25 = some (.iconst (-1), 1, 0, 0) := rfl
theorem i149_26 : mm_cd 149 26 = some (.ireturn, 1, 0, 0) := rfl
theorem i149_27 : mm_cd 149 27 = some (.aload_n 3, 1, 0, 0) := rfl
theorem i149_28 : mm_cd 149 28 = some (.iload_n 1, 1, 0, 0) := rfl
theorem i149_29 : mm_cd 149 29 = some (.invokevirtual 337, 3, 0, 14) := rfl
theorem i149_32 : mm_cd 149 32 = some (.istore 4, 2, 0, 0) := rfl
theorem i149_34 : mm_cd 149 34 = some (.iload_n 2, 1, 0, 0) := rfl
theorem i149_35 : mm_cd 149 35 = some (.tableswitch 49 0 2 #[25, 33, 41], 25, 0, 0) := rfl
theorem i149_60 : mm_cd 149 60 = some (.aload_n 3, 1, 0, 0) := rfl
theorem i149_61 : mm_cd 149 61 = some (.getfield 340, 3, ((1 : Nat) : Int), 2) := rfl
theorem i149_64 : mm_cd 149 64 = some (.iload 4, 2, 0, 0) := rfl
theorem i149_66 : mm_cd 149 66 = some (.iaload, 1, 0, 0) := rfl
theorem i149_67 : mm_cd 149 67 = some (.ireturn, 1, 0, 0) := rfl
theorem i149_68 : mm_cd 149 68 = some (.aload_n 3, 1, 0, 0) := rfl
theorem i149_69 : mm_cd 149 69 = some (.getfield 341, 3, ((1 : Nat) : Int), 3) := rfl
theorem i149_72 : mm_cd 149 72 = some (.iload 4, 2, 0, 0) := rfl
theorem i149_74 : mm_cd 149 74 = some (.iaload, 1, 0, 0) := rfl
theorem i149_75 : mm_cd 149 75 = some (.ireturn, 1, 0, 0) := rfl
theorem i149_76 : mm_cd 149 76 = some (.aload_n 3, 1, 0, 0) := rfl
theorem i149_77 : mm_cd 149 77 = some (.getfield 342, 3, ((1 : Nat) : Int), 4) := rfl
theorem i149_80 : mm_cd 149 80 = some (.iload 4, 2, 0, 0) := rfl
theorem i149_82 : mm_cd 149 82 = some (.iaload, 1, 0, 0) := rfl
theorem i149_83 : mm_cd 149 83 = some (.ireturn, 1, 0, 0) := rfl
theorem i149_84 : mm_cd 149 84 = some (.aload_n 3, 1, 0, 0) := rfl
theorem i149_85 : mm_cd 149 85 = some (.getfield 345, 3, ((1 : Nat) : Int), 5) := rfl
theorem i149_88 : mm_cd 149 88 = some (.iload 4, 2, 0, 0) := rfl
theorem i149_90 : mm_cd 149 90 = some (.iaload, 1, 0, 0) := rfl
theorem i149_91 : mm_cd 149 91 = some (.ireturn, 1, 0, 0) := rfl
/-- SerialGate.history(II)I -/
def q149 (v1 : Int32) (v2 : Int32) (s : mS) : Option mQ := bU (q184 v2 (3 : Int32) s) fun s1 => if v1 < 0 then (rv (-1 : Int32) s1) else (if v1 < (s1.1 (26 + 18) 0) then (bN (q14 (26 + 18) v1 s1) fun x3 s2 => if v2 = (0 : Int32) then (gA 12 x3 <| rv (s2.1 ((26 + 18) + 1) x3.toNatClampNeg) s2) else if v2 = (1 : Int32) then (gA 12 x3 <| rv (s2.1 ((26 + 18) + 2) x3.toNatClampNeg) s2) else if v2 = (2 : Int32) then (gA 12 x3 <| rv (s2.1 ((26 + 18) + 3) x3.toNatClampNeg) s2) else (gA 12 x3 <| rv (s2.1 ((26 + 18) + 4) x3.toNatClampNeg) s2)) else (rv (-1 : Int32) s1))
theorem c149 {L : Nat} {xs : Nat → Int32} {v1 : Int32} {v2 : Int32} {s : mS} {r : mQ} (h : q149 v1 v2 s = some r) : ∀ d, 1 ≤ d → Cl L xs d 149 [.ref 0, .int v1, .int v2] (hp s) (hr r) := by
  intro d hd
  show Ev L xs d 149 0 [(0, .ref 0), (1, .int v1), (2, .int v2)] [] (hp s) (hr r)
  unfold q149 at h
  refine Ev.iload_n H149 i149_0 rfl ?_
  refine Ev.iconst H149 i149_1 kI_3 ?_
  refine Rd.cS2uT H149 i149_2 cal184 (Nat.le_of_ble_eq_true rfl) (Nat.le_of_ble_eq_true rfl) rfl rfl (Nat.lt_of_lt_of_le (by decide) hd) (fun q hq => c184 hq) h (fun s1 h => ?_)
  refine Ev.aload_n H149 i149_5 rfl ?_
  refine Rd.getR H149 i149_6 ob10 rfl ?_
  refine Rd.getR H149 i149_9 (ob9 mA9_26) rfl ?_
  refine Ev.astore_n H149 i149_12 (Nat.le_of_ble_eq_true rfl) (lv2 := [(3, .ref (26 + 18)), (0, .ref 0), (1, .int v1), (2, .int v2)]) rfl ?_
  refine Ev.iload_n H149 i149_13 rfl ?_
  refine Rd.if_lt H149 i149_14 (t := 25) (by decide) h (fun hc h => ?_) (fun hc h => ?_)
  · refine Ev.iconst H149 i149_25 kI_m1 ?_
    exact Rd.ireturn H149 i149_26 rfl h
  · refine Ev.iload_n H149 i149_17 rfl ?_
    refine Ev.aload_n H149 i149_18 rfl ?_
    refine Rd.getI H149 i149_19 (ob1 (m9_1_18 mA9_26)) rfl ?_
    refine Rd.ic_lt H149 i149_22 (t := 27) (by decide) h (fun hc h => ?_) (fun hc h => ?_)
    · refine Ev.aload_n H149 i149_27 rfl ?_
      refine Ev.iload_n H149 i149_28 rfl ?_
      refine Rd.cV1vN H149 i149_29 cal14 (ob1 (m9_1_18 mA9_26)) (Nat.le_of_ble_eq_true rfl) (Nat.le_of_ble_eq_true rfl) (Nat.lt_of_lt_of_le (by decide) hd) (fun q hq => c14 (m9_1_18 mA9_26) hq) h (fun x3 s2 h => ?_)
      refine Ev.istore H149 i149_32 (Nat.le_of_ble_eq_true rfl) (lv2 := [(4, .int x3), (3, .ref (26 + 18)), (0, .ref 0), (1, .int v1), (2, .int v2)]) rfl ?_
      refine Ev.iload_n H149 i149_34 rfl ?_
      refine Rd.sw h (fun hc h => ?_) (fun hc0 h => ?_)
      · refine Rd.tsw H149 i149_35 (t := 60) (by rw [hc]; decide) ?_
        refine Ev.aload_n H149 i149_60 rfl ?_
        refine Rd.getR H149 i149_61 (ob1 (m9_1_18 mA9_26)) rfl ?_
        refine Ev.iload H149 i149_64 rfl ?_
        refine Rd.iaload H149 i149_66 (ar1_1 (m9_1_18 mA9_26)) h (fun h => ?_)
        exact Rd.ireturn H149 i149_67 rfl h
      refine Rd.sw h (fun hc h => ?_) (fun hc1 h => ?_)
      · refine Rd.tsw H149 i149_35 (t := 68) (by rw [hc]; decide) ?_
        refine Ev.aload_n H149 i149_68 rfl ?_
        refine Rd.getR H149 i149_69 (ob1 (m9_1_18 mA9_26)) rfl ?_
        refine Ev.iload H149 i149_72 rfl ?_
        refine Rd.iaload H149 i149_74 (ar1_2 (m9_1_18 mA9_26)) h (fun h => ?_)
        exact Rd.ireturn H149 i149_75 rfl h
      refine Rd.sw h (fun hc h => ?_) (fun hc2 h => ?_)
      · refine Rd.tsw H149 i149_35 (t := 76) (by rw [hc]; decide) ?_
        refine Ev.aload_n H149 i149_76 rfl ?_
        refine Rd.getR H149 i149_77 (ob1 (m9_1_18 mA9_26)) rfl ?_
        refine Ev.iload H149 i149_80 rfl ?_
        refine Rd.iaload H149 i149_82 (ar1_3 (m9_1_18 mA9_26)) h (fun h => ?_)
        exact Rd.ireturn H149 i149_83 rfl h
      have hsw : ∀ k : Nat, k < 3 → ¬ v2 = Int32.ofInt (0 + k) := fun k hk => match k, hk with
        | 0, _ => hc0
        | 1, _ => hc1
        | 2, _ => hc2
        | k + 3, hk => absurd hk (by omega)
      have hsq : v2.toInt < 0 ∨ 2 < v2.toInt := by have hq := mm_sw hsw; omega
      refine Rd.tsw H149 i149_35 (t := 84) (by rw [if_pos hsq]; decide) ?_
      refine Ev.aload_n H149 i149_84 rfl ?_
      refine Rd.getR H149 i149_85 (ob1 (m9_1_18 mA9_26)) rfl ?_
      refine Ev.iload H149 i149_88 rfl ?_
      refine Rd.iaload H149 i149_90 (ar1_4 (m9_1_18 mA9_26)) h (fun h => ?_)
      exact Rd.ireturn H149 i149_91 rfl h
    · refine Ev.iconst H149 i149_25 kI_m1 ?_
      exact Rd.ireturn H149 i149_26 rfl h
theorem i150_0 : mm_cd 150 0 = some (.iload_n 2, 1, 0, 0) := rfl
theorem i150_1 : mm_cd 150 1 = some (.invokestatic 212, 3, 0, 180) := rfl
theorem i150_4 : mm_cd 150 4 = some (.aload_n 0, 1, 0, 0) := rfl
theorem i150_5 : mm_cd 150 5 = some (.getfield 40, 3, ((10 : Nat) : Int), 4) := rfl
theorem i150_8 : mm_cd 150 8 = some (.getfield 328, 3, ((9 : Nat) : Int), 3) := rfl
theorem i150_11 : mm_cd 150 11 = some (.astore 4, 2, 0, 0) := rfl
theorem i150_13 : mm_cd 150 13 = some (.iload_n 1, 1, 0, 0) := rfl
theorem i150_14 : mm_cd 150 14 = some (.ifCond .lt 12, 3, 0, 0) := rfl
theorem i150_17 : mm_cd 150 17 = some (.iload_n 1, 1, 0, 0) := rfl
theorem i150_18 : mm_cd 150 18 = some (.aload 4, 2, 0, 0) := rfl
theorem i150_20 : mm_cd 150 20 = some (.getfield 332, 3, ((1 : Nat) : Int), 0) := rfl
theorem i150_23 : mm_cd 150 23 = some (.if_icmp .lt 5, 3, 0, 0) := rfl
theorem i150_26 : mm_cd 150 26 = some (.iconst (-1), 1, 0, 0) := rfl
theorem i150_27 : mm_cd 150 27 = some (.ireturn, 1, 0, 0) := rfl
theorem i150_28 : mm_cd 150 28 = some (.aload 4, 2, 0, 0) := rfl
theorem i150_30 : mm_cd 150 30 = some (.iload_n 1, 1, 0, 0) := rfl
theorem i150_31 : mm_cd 150 31 = some (.invokevirtual 337, 3, 0, 14) := rfl
theorem i150_34 : mm_cd 150 34 = some (.istore 5, 2, 0, 0) := rfl
theorem i150_36 : mm_cd 150 36 = some (.iload_n 3, 1, 0, 0) := rfl
theorem i150_37 : mm_cd 150 37 = some (.ifCond .eq 14, 3, 0, 0) := rfl
theorem i150_40 : mm_cd 150 40 = some (.aload 4, 2, 0, 0) := rfl
theorem i150_42 : mm_cd 150 42 = some (.getfield 345, 3, ((1 : Nat) : Int), 5) := rfl
theorem i150_45 : mm_cd 150 45 = some (.iload 5, 2, 0, 0) := rfl
theorem i150_47 : mm_cd 150 47 = some (.iaload, 1, 0, 0) := rfl
theorem i150_48 : mm_cd 150 48 = some (.goto 11, 3, 0, 0) := rfl
theorem i150_51 : mm_cd 150 51 = some (.aload 4, 2, 0, 0) := rfl
theorem i150_53 : mm_cd 150 53 = some (.getfield 342, 3, ((1 : Nat) : Int), 4) := rfl
theorem i150_56 : mm_cd 150 56 = some (.iload 5, 2, 0, 0) := rfl
theorem i150_58 : mm_cd 150 58 = some (.iaload, 1, 0, 0) := rfl
theorem i150_59 : mm_cd 150 59 = some (.istore 6, 2, 0, 0) := rfl
theorem i150_61 : mm_cd 150 61 = some (.iload 6, 2, 0, 0) := rfl
theorem i150_63 : mm_cd 150 63 = some (.iload_n 2, 1, 0, 0) := rfl
theorem i150_64 : mm_cd 150 64 = some (.ishr, 1, 0, 0) := rfl
theorem i150_65 : mm_cd 150 65 = some (.iconst 1, 1, 0, 0) := rfl
theorem i150_66 : mm_cd 150 66 = some (.iand, 1, 0, 0) := rfl
theorem i150_67 : mm_cd 150 67 = some (.ifCond .ne 5, 3, 0, 0) := rfl
theorem i150_70 : mm_cd 150 70 = some (.iconst (-1), 1, 0, 0) := rfl
theorem i150_71 : mm_cd 150 71 = some (.ireturn, 1, 0, 0) := rfl
theorem i150_72 : mm_cd 150 72 = some (.iload_n 3, 1, 0, 0) := rfl
theorem i150_73 : mm_cd 150 73 = some (.ifCond .eq 19, 3, 0, 0) := rfl
theorem i150_76 : mm_cd 150 76 = some (.aload 4, 2, 0, 0) := rfl
theorem i150_78 : mm_cd 150 78 = some (.getfield 348, 3, ((1 : Nat) : Int), 7) := rfl
theorem i150_81 : mm_cd 150 81 = some (.iload 5, 2, 0, 0) := rfl
theorem i150_83 : mm_cd 150 83 = some (.bipush 10, 2, 0, 0) := rfl
theorem i150_85 : mm_cd 150 85 = some (.imul, 1, 0, 0) := rfl
theorem i150_86 : mm_cd 150 86 = some (.iload_n 2, 1, 0, 0) := rfl
theorem i150_87 : mm_cd 150 87 = some (.iadd, 1, 0, 0) := rfl
theorem i150_88 : mm_cd 150 88 = some (.iaload, 1, 0, 0) := rfl
theorem i150_89 : mm_cd 150 89 = some (.goto 16, 3, 0, 0) := rfl
theorem i150_92 : mm_cd 150 92 = some (.aload 4, 2, 0, 0) := rfl
theorem i150_94 : mm_cd 150 94 = some (.getfield 351, 3, ((1 : Nat) : Int), 6) := rfl
theorem i150_97 : mm_cd 150 97 = some (.iload 5, 2, 0, 0) := rfl
theorem i150_99 : mm_cd 150 99 = some (.bipush 10, 2, 0, 0) := rfl
theorem i150_101 : mm_cd 150 101 = some (.imul, 1, 0, 0) := rfl
theorem i150_102 : mm_cd 150 102 = some (.iload_n 2, 1, 0, 0) := rfl
theorem i150_103 : mm_cd 150 103 = some (.iadd, 1, 0, 0) := rfl
theorem i150_104 : mm_cd 150 104 = some (.iaload, 1, 0, 0) := rfl
theorem i150_105 : mm_cd 150 105 = some (.ireturn, 1, 0, 0) := rfl
def q150_59 (v2 : Int32) (v3 : Int32) (v5 : Int32) (y0 : Int32) (s : mS) : Option mQ := if ¬ ((shrI y0 v2) &&& (1 : Int32)) = 0 then (if v3 = 0 then (gA 120 ((v5 * (10 : Int32)) + v2) <| rv (s.1 ((26 + 18) + 5) ((v5 * (10 : Int32)) + v2).toNatClampNeg) s) else (gA 120 ((v5 * (10 : Int32)) + v2) <| rv (s.1 ((26 + 18) + 6) ((v5 * (10 : Int32)) + v2).toNatClampNeg) s)) else (rv (-1 : Int32) s)
theorem t150_59 {L : Nat} {xs : Nat → Int32} {d : Nat} (hd : 1 ≤ d) {v2 : Int32} {v3 : Int32} {v5 : Int32} {y0 : Int32} {s : mS} {r : mQ} (h : q150_59 v2 v3 v5 y0 s = some r) : Ev L xs d 150 59 [(2, .int v2), (3, .int v3), (4, .ref (26 + 18)), (5, .int v5)] [.int y0] (hp s) (hr r) := by
  unfold q150_59 at h
  refine Ev.istore H150 i150_59 (Nat.le_of_ble_eq_true rfl) (lv2 := [(6, .int y0), (2, .int v2), (3, .int v3), (4, .ref (26 + 18)), (5, .int v5)]) rfl ?_
  refine Ev.iload H150 i150_61 rfl ?_
  refine Ev.iload_n H150 i150_63 rfl ?_
  refine Rd.ishr H150 i150_64 ?_
  refine Ev.iconst H150 i150_65 kI_1 ?_
  refine Ev.iand H150 i150_66 ?_
  refine Rd.if_ne H150 i150_67 (t := 72) (by decide) h (fun hc h => ?_) (fun hc h => ?_)
  · refine Ev.iload_n H150 i150_72 rfl ?_
    refine Rd.if_eq H150 i150_73 (t := 92) (by decide) h (fun hc h => ?_) (fun hc h => ?_)
    · refine Ev.aload H150 i150_92 rfl ?_
      refine Rd.getR H150 i150_94 (ob1 (m9_1_18 mA9_26)) rfl ?_
      refine Ev.iload H150 i150_97 rfl ?_
      refine Ev.bipush H150 i150_99 kB_10 ?_
      refine Ev.imul H150 i150_101 ?_
      refine Ev.iload_n H150 i150_102 rfl ?_
      refine Ev.iadd H150 i150_103 ?_
      refine Rd.iaload H150 i150_104 (ar1_5 (m9_1_18 mA9_26)) h (fun h => ?_)
      exact Rd.ireturn H150 i150_105 rfl h
    · refine Ev.aload H150 i150_76 rfl ?_
      refine Rd.getR H150 i150_78 (ob1 (m9_1_18 mA9_26)) rfl ?_
      refine Ev.iload H150 i150_81 rfl ?_
      refine Ev.bipush H150 i150_83 kB_10 ?_
      refine Ev.imul H150 i150_85 ?_
      refine Ev.iload_n H150 i150_86 rfl ?_
      refine Ev.iadd H150 i150_87 ?_
      refine Rd.iaload H150 i150_88 (ar1_6 (m9_1_18 mA9_26)) h (fun h => ?_)
      refine Ev.goto H150 i150_89 (t := 105) (by decide) ?_
      exact Rd.ireturn H150 i150_105 rfl h
  · refine Ev.iconst H150 i150_70 kI_m1 ?_
    exact Rd.ireturn H150 i150_71 rfl h
/-- SerialGate.version(IIZ)I -/
def q150 (v1 : Int32) (v2 : Int32) (v3 : Int32) (s : mS) : Option mQ := bU (q180 v2 s) fun s1 => if v1 < 0 then (rv (-1 : Int32) s1) else (if v1 < (s1.1 (26 + 18) 0) then (bN (q14 (26 + 18) v1 s1) fun x3 s2 => if v3 = 0 then (gA 12 x3 <| q150_59 v2 v3 x3 (s2.1 ((26 + 18) + 3) x3.toNatClampNeg) s2) else (gA 12 x3 <| q150_59 v2 v3 x3 (s2.1 ((26 + 18) + 4) x3.toNatClampNeg) s2)) else (rv (-1 : Int32) s1))
theorem c150 {L : Nat} {xs : Nat → Int32} {v1 : Int32} {v2 : Int32} {v3 : Int32} {s : mS} {r : mQ} (h : q150 v1 v2 v3 s = some r) : ∀ d, 1 ≤ d → Cl L xs d 150 [.ref 0, .int v1, .int v2, .int v3] (hp s) (hr r) := by
  intro d hd
  show Ev L xs d 150 0 [(0, .ref 0), (1, .int v1), (2, .int v2), (3, .int v3)] [] (hp s) (hr r)
  unfold q150 at h
  refine Ev.iload_n H150 i150_0 rfl ?_
  refine Rd.cS1uT H150 i150_1 cal180 (Nat.le_of_ble_eq_true rfl) (Nat.le_of_ble_eq_true rfl) rfl rfl (Nat.lt_of_lt_of_le (by decide) hd) (fun q hq => c180 hq) h (fun s1 h => ?_)
  refine Ev.aload_n H150 i150_4 rfl ?_
  refine Rd.getR H150 i150_5 ob10 rfl ?_
  refine Rd.getR H150 i150_8 (ob9 mA9_26) rfl ?_
  refine Ev.astore H150 i150_11 (Nat.le_of_ble_eq_true rfl) (lv2 := [(4, .ref (26 + 18)), (0, .ref 0), (1, .int v1), (2, .int v2), (3, .int v3)]) rfl ?_
  refine Ev.iload_n H150 i150_13 rfl ?_
  refine Rd.if_lt H150 i150_14 (t := 26) (by decide) h (fun hc h => ?_) (fun hc h => ?_)
  · refine Ev.iconst H150 i150_26 kI_m1 ?_
    exact Rd.ireturn H150 i150_27 rfl h
  · refine Ev.iload_n H150 i150_17 rfl ?_
    refine Ev.aload H150 i150_18 rfl ?_
    refine Rd.getI H150 i150_20 (ob1 (m9_1_18 mA9_26)) rfl ?_
    refine Rd.ic_lt H150 i150_23 (t := 28) (by decide) h (fun hc h => ?_) (fun hc h => ?_)
    · refine Ev.aload H150 i150_28 rfl ?_
      refine Ev.iload_n H150 i150_30 rfl ?_
      refine Rd.cV1vN H150 i150_31 cal14 (ob1 (m9_1_18 mA9_26)) (Nat.le_of_ble_eq_true rfl) (Nat.le_of_ble_eq_true rfl) (Nat.lt_of_lt_of_le (by decide) hd) (fun q hq => c14 (m9_1_18 mA9_26) hq) h (fun x3 s2 h => ?_)
      refine Ev.istore H150 i150_34 (Nat.le_of_ble_eq_true rfl) (lv2 := [(5, .int x3), (4, .ref (26 + 18)), (0, .ref 0), (1, .int v1), (2, .int v2), (3, .int v3)]) rfl ?_
      refine Ev.iload_n H150 i150_36 rfl ?_
      refine Rd.if_eq H150 i150_37 (t := 51) (by decide) h (fun hc h => ?_) (fun hc h => ?_)
      · refine Ev.aload H150 i150_51 rfl ?_
        refine Rd.getR H150 i150_53 (ob1 (m9_1_18 mA9_26)) rfl ?_
        refine Ev.iload H150 i150_56 rfl ?_
        refine Rd.iaload H150 i150_58 (ar1_3 (m9_1_18 mA9_26)) h (fun h => ?_)
        exact Ev.sub (l := [(2, .int v2), (3, .int v3), (4, .ref (26 + 18)), (5, .int x3)]) rfl rfl (mm_sub_c rfl (mm_sub_c rfl (mm_sub_c rfl (mm_sub_c rfl mm_sub_n)))) (t150_59 hd h)
      · refine Ev.aload H150 i150_40 rfl ?_
        refine Rd.getR H150 i150_42 (ob1 (m9_1_18 mA9_26)) rfl ?_
        refine Ev.iload H150 i150_45 rfl ?_
        refine Rd.iaload H150 i150_47 (ar1_4 (m9_1_18 mA9_26)) h (fun h => ?_)
        refine Ev.goto H150 i150_48 (t := 59) (by decide) ?_
        exact Ev.sub (l := [(2, .int v2), (3, .int v3), (4, .ref (26 + 18)), (5, .int x3)]) rfl rfl (mm_sub_c rfl (mm_sub_c rfl (mm_sub_c rfl (mm_sub_c rfl mm_sub_n)))) (t150_59 hd h)
    · refine Ev.iconst H150 i150_26 kI_m1 ?_
      exact Rd.ireturn H150 i150_27 rfl h
theorem i151_0 : mm_cd 151 0 = some (.aload_n 0, 1, 0, 0) := rfl
theorem i151_1 : mm_cd 151 1 = some (.getfield 40, 3, ((10 : Nat) : Int), 4) := rfl
theorem i151_4 : mm_cd 151 4 = some (.getfield 328, 3, ((9 : Nat) : Int), 3) := rfl
theorem i151_7 : mm_cd 151 7 = some (.iload_n 1, 1, 0, 0) := rfl
theorem i151_8 : mm_cd 151 8 = some (.invokevirtual 354, 3, 0, 16) := rfl
theorem i151_11 : mm_cd 151 11 = some (.ireturn, 1, 0, 0) := rfl
/-- SerialGate.serial(I)I -/
def q151 (v1 : Int32) (s : mS) : Option mQ := bN (q16 (26 + 18) v1 s) fun x2 s1 => rv x2 s1
theorem c151 {L : Nat} {xs : Nat → Int32} {v1 : Int32} {s : mS} {r : mQ} (h : q151 v1 s = some r) : ∀ d, 3 ≤ d → Cl L xs d 151 [.ref 0, .int v1] (hp s) (hr r) := by
  intro d hd
  show Ev L xs d 151 0 [(0, .ref 0), (1, .int v1)] [] (hp s) (hr r)
  unfold q151 at h
  refine Ev.aload_n H151 i151_0 rfl ?_
  refine Rd.getR H151 i151_1 ob10 rfl ?_
  refine Rd.getR H151 i151_4 (ob9 mA9_26) rfl ?_
  refine Ev.iload_n H151 i151_7 rfl ?_
  refine Rd.cV1vN H151 i151_8 cal16 (ob1 (m9_1_18 mA9_26)) (Nat.le_of_ble_eq_true rfl) (Nat.le_of_ble_eq_true rfl) (Nat.lt_of_lt_of_le (by decide) hd) (fun q hq => c16 (m9_1_18 mA9_26) hq) h (fun x2 s1 h => ?_)
  exact Rd.ireturn H151 i151_11 rfl h
theorem i152_0 : mm_cd 152 0 = some (.aload_n 0, 1, 0, 0) := rfl
theorem i152_1 : mm_cd 152 1 = some (.iload_n 1, 1, 0, 0) := rfl
theorem i152_2 : mm_cd 152 2 = some (.invokevirtual 233, 3, 0, 181) := rfl
theorem i152_5 : mm_cd 152 5 = some (.iload_n 2, 1, 0, 0) := rfl
theorem i152_6 : mm_cd 152 6 = some (.ifCond .eq 17, 3, 0, 0) := rfl
theorem i152_9 : mm_cd 152 9 = some (.aload_n 0, 1, 0, 0) := rfl
theorem i152_10 : mm_cd 152 10 = some (.getfield 40, 3, ((10 : Nat) : Int), 4) := rfl
theorem i152_13 : mm_cd 152 13 = some (.getfield 357, 3, ((9 : Nat) : Int), 4) := rfl
theorem i152_16 : mm_cd 152 16 = some (.iload_n 1, 1, 0, 0) := rfl
theorem i152_17 : mm_cd 152 17 = some (.invokevirtual 361, 3, 0, 47) := rfl
theorem i152_20 : mm_cd 152 20 = some (.goto 14, 3, 0, 0) := rfl
theorem i152_23 : mm_cd 152 23 = some (.aload_n 0, 1, 0, 0) := rfl
theorem i152_24 : mm_cd 152 24 = some (.getfield 40, 3, ((10 : Nat) : Int), 4) := rfl
theorem i152_27 : mm_cd 152 27 = some (.getfield 357, 3, ((9 : Nat) : Int), 4) := rfl
theorem i152_30 : mm_cd 152 30 = some (.iload_n 1, 1, 0, 0) := rfl
theorem i152_31 : mm_cd 152 31 = some (.invokevirtual 364, 3, 0, 46) := rfl
theorem i152_34 : mm_cd 152 34 = some (.ireturn, 1, 0, 0) := rfl
/-- SerialGate.led(IZ)I -/
def q152 (v1 : Int32) (v2 : Int32) (s : mS) : Option mQ := bU (q181 v1 s) fun s1 => if v2 = 0 then (bN (q46 (26 + 26) v1 s1) fun x3 s2 => rv x3 s2) else (bN (q47 (26 + 26) v1 s1) fun x5 s4 => rv x5 s4)
theorem c152 {L : Nat} {xs : Nat → Int32} {v1 : Int32} {v2 : Int32} {s : mS} {r : mQ} (h : q152 v1 v2 s = some r) : ∀ d, 3 ≤ d → Cl L xs d 152 [.ref 0, .int v1, .int v2] (hp s) (hr r) := by
  intro d hd
  show Ev L xs d 152 0 [(0, .ref 0), (1, .int v1), (2, .int v2)] [] (hp s) (hr r)
  unfold q152 at h
  refine Ev.aload_n H152 i152_0 rfl ?_
  refine Ev.iload_n H152 i152_1 rfl ?_
  refine Rd.cV1uT H152 i152_2 cal181 ob10 (Nat.le_of_ble_eq_true rfl) (Nat.le_of_ble_eq_true rfl) rfl rfl (Nat.lt_of_lt_of_le (by decide) hd) (fun q hq => c181 hq) h (fun s1 h => ?_)
  refine Ev.iload_n H152 i152_5 rfl ?_
  refine Rd.if_eq H152 i152_6 (t := 23) (by decide) h (fun hc h => ?_) (fun hc h => ?_)
  · refine Ev.aload_n H152 i152_23 rfl ?_
    refine Rd.getR H152 i152_24 ob10 rfl ?_
    refine Rd.getR H152 i152_27 (ob9 mA9_26) rfl ?_
    refine Ev.iload_n H152 i152_30 rfl ?_
    refine Rd.cV1vN H152 i152_31 cal46 (ob4 (m9_4_26 mA9_26)) (Nat.le_of_ble_eq_true rfl) (Nat.le_of_ble_eq_true rfl) (Nat.lt_of_lt_of_le (by decide) hd) (fun q hq => c46 (m9_4_26 mA9_26) hq) h (fun x3 s2 h => ?_)
    exact Rd.ireturn H152 i152_34 rfl h
  · refine Ev.aload_n H152 i152_9 rfl ?_
    refine Rd.getR H152 i152_10 ob10 rfl ?_
    refine Rd.getR H152 i152_13 (ob9 mA9_26) rfl ?_
    refine Ev.iload_n H152 i152_16 rfl ?_
    refine Rd.cV1vN H152 i152_17 cal47 (ob4 (m9_4_26 mA9_26)) (Nat.le_of_ble_eq_true rfl) (Nat.le_of_ble_eq_true rfl) (Nat.lt_of_lt_of_le (by decide) hd) (fun q hq => c47 (m9_4_26 mA9_26) hq) h (fun x5 s4 h => ?_)
    refine Ev.goto H152 i152_20 (t := 34) (by decide) ?_
    exact Rd.ireturn H152 i152_34 rfl h
