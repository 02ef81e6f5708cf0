theorem i322_0 : mm_cd 322 0 = some (.iload_n 3, 1, 0, 0) := rfl
theorem i322_1 : mm_cd 322 1 = some (.ifCond .ne 28, 3, 0, 0) := rfl
theorem i322_4 : mm_cd 322 4 = some (.iload 4, 2, 0, 0) := rfl
theorem i322_6 : mm_cd 322 6 = some (.ifCond .ne 21, 3, 0, 0) := rfl
theorem i322_9 : mm_cd 322 9 = some (.aload_n 0, 1, 0, 0) := rfl
theorem i322_10 : mm_cd 322 10 = some (.iload_n 1, 1, 0, 0) := rfl
theorem i322_11 : mm_cd 322 11 = some (.iload_n 2, 1, 0, 0) := rfl
theorem i322_12 : mm_cd 322 12 = some (.invokevirtual 429, 3, 0, 302) := rfl
theorem i322_15 : mm_cd 322 15 = some (.ifCond .eq 8, 3, 0, 0) := rfl
theorem i322_18 : mm_cd 322 18 = some (.bipush (-2), 2, 0, 0) := rfl
theorem i322_20 : mm_cd 322 20 = some (.goto 8, 3, 0, 0) := rfl
theorem i322_23 : mm_cd 322 23 = some (.iconst 2, 1, 0, 0) := rfl
theorem i322_24 : mm_cd 322 24 = some (.goto 4, 3, 0, 0) := rfl
theorem i322_27 : mm_cd 322 27 = some (.iconst 3, 1, 0, 0) := rfl
theorem i322_28 : mm_cd 322 28 = some (.ireturn, 1, 0, 0) := rfl
theorem i322_29 : mm_cd 322 29 = some (.iload 4, 2, 0, 0) := rfl
theorem i322_31 : mm_cd 322 31 = some (.ifCond .ne 13, 3, 0, 0) := rfl
theorem i322_34 : mm_cd 322 34 = some (.aload_n 0, 1, 0, 0) := rfl
theorem i322_35 : mm_cd 322 35 = some (.iload_n 1, 1, 0, 0) := rfl
theorem i322_36 : mm_cd 322 36 = some (.iconst 3, 1, 0, 0) := rfl
theorem i322_37 : mm_cd 322 37 = some (.invokevirtual 72, 3, 0, 202) := rfl
theorem i322_40 : mm_cd 322 40 = some (.ineg, 1, 0, 0) := rfl
theorem i322_41 : mm_cd 322 41 = some (.goto 4, 3, 0, 0) := rfl
theorem i322_44 : mm_cd 322 44 = some (.iconst 0, 1, 0, 0) := rfl
theorem i322_45 : mm_cd 322 45 = some (.ireturn, 1, 0, 0) := rfl
/-- SerialGateModel.goerHas(IIII)I -/
def q322 (v1 : Int32) (v2 : Int32) (v3 : Int32) (v4 : Int32) (s : mS) : Option mQ := if ¬ v3 = 0 then (if ¬ v4 = 0 then (rv (0 : Int32) s) else (bN (q202 v1 (3 : Int32) s) fun x2 s1 => rv (-x2) s1)) else (if ¬ v4 = 0 then (rv (3 : Int32) s) else (bN (q302 v1 v2 s) fun x4 s3 => if x4 = 0 then (rv (2 : Int32) s3) else (rv (-2 : Int32) s3)))
theorem c322 {L : Nat} {xs : Nat → Int32} {v1 : Int32} {v2 : Int32} {v3 : Int32} {v4 : Int32} {s : mS} {r : mQ} (h : q322 v1 v2 v3 v4 s = some r) : ∀ d, 4 ≤ d → Cl L xs d 322 [.ref 512, .int v1, .int v2, .int v3, .int v4] (hp s) (hr r) := by
  intro d hd
  show Ev L xs d 322 0 [(0, .ref 512), (1, .int v1), (2, .int v2), (3, .int v3), (4, .int v4)] [] (hp s) (hr r)
  unfold q322 at h
  refine Ev.iload_n H322 i322_0 rfl ?_
  refine Rd.if_ne H322 i322_1 (t := 29) (by decide) h (fun hc h => ?_) (fun hc h => ?_)
  · refine Ev.iload H322 i322_29 rfl ?_
    refine Rd.if_ne H322 i322_31 (t := 44) (by decide) h (fun hc h => ?_) (fun hc h => ?_)
    · refine Ev.iconst H322 i322_44 kI_0 ?_
      exact Rd.ireturn H322 i322_45 rfl h
    · refine Ev.aload_n H322 i322_34 rfl ?_
      refine Ev.iload_n H322 i322_35 rfl ?_
      refine Ev.iconst H322 i322_36 kI_3 ?_
      refine Rd.cV2vN H322 i322_37 cal202 ob11 (Nat.le_of_ble_eq_true rfl) (Nat.le_of_ble_eq_true rfl) (Nat.lt_of_lt_of_le (by decide) hd) (fun q hq => c202 hq) h (fun x2 s1 h => ?_)
      refine Ev.ineg H322 i322_40 ?_
      refine Ev.goto H322 i322_41 (t := 45) (by decide) ?_
      exact Rd.ireturn H322 i322_45 rfl h
  · refine Ev.iload H322 i322_4 rfl ?_
    refine Rd.if_ne H322 i322_6 (t := 27) (by decide) h (fun hc h => ?_) (fun hc h => ?_)
    · refine Ev.iconst H322 i322_27 kI_3 ?_
      exact Rd.ireturn H322 i322_28 rfl h
    · refine Ev.aload_n H322 i322_9 rfl ?_
      refine Ev.iload_n H322 i322_10 rfl ?_
      refine Ev.iload_n H322 i322_11 rfl ?_
      refine Rd.cV2vN H322 i322_12 cal302 ob11 (Nat.le_of_ble_eq_true rfl) (Nat.le_of_ble_eq_true rfl) (Nat.lt_of_lt_of_le (by decide) hd) (fun q hq => c302 hq) h (fun x4 s3 h => ?_)
      refine Rd.if_eq H322 i322_15 (t := 23) (by decide) h (fun hc h => ?_) (fun hc h => ?_)
      · refine Ev.iconst H322 i322_23 kI_2 ?_
        refine Ev.goto H322 i322_24 (t := 28) (by decide) ?_
        exact Rd.ireturn H322 i322_28 rfl h
      · refine Ev.bipush H322 i322_18 kB_m2 ?_
        refine Ev.goto H322 i322_20 (t := 28) (by decide) ?_
        exact Rd.ireturn H322 i322_28 rfl h
theorem i323_0 : mm_cd 323 0 = some (.aload_n 0, 1, 0, 0) := rfl
theorem i323_1 : mm_cd 323 1 = some (.iload_n 1, 1, 0, 0) := rfl
theorem i323_2 : mm_cd 323 2 = some (.iload_n 2, 1, 0, 0) := rfl
theorem i323_3 : mm_cd 323 3 = some (.invokevirtual 426, 3, 0, 303) := rfl
theorem i323_6 : mm_cd 323 6 = some (.ifCond .eq 5, 3, 0, 0) := rfl
theorem i323_9 : mm_cd 323 9 = some (.iconst 0, 1, 0, 0) := rfl
theorem i323_10 : mm_cd 323 10 = some (.ireturn, 1, 0, 0) := rfl
theorem i323_11 : mm_cd 323 11 = some (.iconst 0, 1, 0, 0) := rfl
theorem i323_12 : mm_cd 323 12 = some (.istore_n 3, 1, 0, 0) := rfl
theorem i323_13 : mm_cd 323 13 = some (.iconst 0, 1, 0, 0) := rfl
theorem i323_14 : mm_cd 323 14 = some (.istore 4, 2, 0, 0) := rfl
theorem i323_16 : mm_cd 323 16 = some (.iload 4, 2, 0, 0) := rfl
theorem i323_18 : mm_cd 323 18 = some (.iconst 2, 1, 0, 0) := rfl
theorem i323_19 : mm_cd 323 19 = some (.if_icmp .ge 90, 3, 0, 0) := rfl
theorem i323_22 : mm_cd 323 22 = some (.iconst 0, 1, 0, 0) := rfl
theorem i323_23 : mm_cd 323 23 = some (.istore 5, 2, 0, 0) := rfl
theorem i323_25 : mm_cd 323 25 = some (.iload 5, 2, 0, 0) := rfl
theorem i323_27 : mm_cd 323 27 = some (.iconst 2, 1, 0, 0) := rfl
theorem i323_28 : mm_cd 323 28 = some (.if_icmp .ge 75, 3, 0, 0) := rfl
theorem i323_31 : mm_cd 323 31 = some (.iload_n 3, 1, 0, 0) := rfl
theorem i323_32 : mm_cd 323 32 = some (.aload_n 0, 1, 0, 0) := rfl
theorem i323_33 : mm_cd 323 33 = some (.iload_n 1, 1, 0, 0) := rfl
theorem i323_34 : mm_cd 323 34 = some (.iload_n 2, 1, 0, 0) := rfl
theorem i323_35 : mm_cd 323 35 = some (.iload 4, 2, 0, 0) := rfl
theorem i323_37 : mm_cd 323 37 = some (.iload 5, 2, 0, 0) := rfl
theorem i323_39 : mm_cd 323 39 = some (.invokevirtual 463, 3, 0, 322) := rfl
theorem i323_42 : mm_cd 323 42 = some (.aload_n 0, 1, 0, 0) := rfl
theorem i323_43 : mm_cd 323 43 = some (.iload_n 1, 1, 0, 0) := rfl
theorem i323_44 : mm_cd 323 44 = some (.iload_n 2, 1, 0, 0) := rfl
theorem i323_45 : mm_cd 323 45 = some (.iconst 1, 1, 0, 0) := rfl
theorem i323_46 : mm_cd 323 46 = some (.iload 4, 2, 0, 0) := rfl
theorem i323_48 : mm_cd 323 48 = some (.isub, 1, 0, 0) := rfl
theorem i323_49 : mm_cd 323 49 = some (.iload 5, 2, 0, 0) := rfl
theorem i323_51 : mm_cd 323 51 = some (.invokevirtual 463, 3, 0, 322) := rfl
theorem i323_54 : mm_cd 323 54 = some (.if_icmp .lt 40, 3, 0, 0) := rfl
theorem i323_57 : mm_cd 323 57 = some (.aload_n 0, 1, 0, 0) := rfl
theorem i323_58 : mm_cd 323 58 = some (.iload_n 2, 1, 0, 0) := rfl
theorem i323_59 : mm_cd 323 59 = some (.iload_n 1, 1, 0, 0) := rfl
theorem i323_60 : mm_cd 323 60 = some (.iload 5, 2, 0, 0) := rfl
theorem i323_62 : mm_cd 323 62 = some (.iload 4, 2, 0, 0) := rfl
theorem i323_64 : mm_cd 323 64 = some (.invokevirtual 463, 3, 0, 322) := rfl
theorem i323_67 : mm_cd 323 67 = some (.aload_n 0, 1, 0, 0) := rfl
theorem i323_68 : mm_cd 323 68 = some (.iload_n 2, 1, 0, 0) := rfl
theorem i323_69 : mm_cd 323 69 = some (.iload_n 1, 1, 0, 0) := rfl
theorem i323_70 : mm_cd 323 70 = some (.iconst 1, 1, 0, 0) := rfl
theorem i323_71 : mm_cd 323 71 = some (.iload 5, 2, 0, 0) := rfl
theorem i323_73 : mm_cd 323 73 = some (.isub, 1, 0, 0) := rfl
theorem i323_74 : mm_cd 323 74 = some (.iload 4, 2, 0, 0) := rfl
theorem i323_76 : mm_cd 323 76 = some (.invokevirtual 463, 3, 0, 322) := rfl
theorem i323_79 : mm_cd 323 79 = some (.if_icmp .lt 15, 3, 0, 0) := rfl
theorem i323_82 : mm_cd 323 82 = some (.iconst 1, 1, 0, 0) := rfl
theorem i323_83 : mm_cd 323 83 = some (.iconst 2, 1, 0, 0) := rfl
theorem i323_84 : mm_cd 323 84 = some (.iload 4, 2, 0, 0) := rfl
theorem i323_86 : mm_cd 323 86 = some (.imul, 1, 0, 0) := rfl
theorem i323_87 : mm_cd 323 87 = some (.iload 5, 2, 0, 0) := rfl
theorem i323_89 : mm_cd 323 89 = some (.iadd, 1, 0, 0) := rfl
theorem i323_90 : mm_cd 323 90 = some (.ishl, 1, 0, 0) := rfl
theorem i323_91 : mm_cd 323 91 = some (.goto 4, 3, 0, 0) := rfl
theorem i323_94 : mm_cd 323 94 = some (.iconst 0, 1, 0, 0) := rfl
theorem i323_95 : mm_cd 323 95 = some (.ior, 1, 0, 0) := rfl
theorem i323_96 : mm_cd 323 96 = some (.istore_n 3, 1, 0, 0) := rfl
theorem i323_97 : mm_cd 323 97 = some (.iinc 5 1, 3, 0, 0) := rfl
theorem i323_100 : mm_cd 323 100 = some (.goto (-75), 3, 0, 0) := rfl
theorem i323_103 : mm_cd 323 103 = some (.iinc 4 1, 3, 0, 0) := rfl
theorem i323_106 : mm_cd 323 106 = some (.goto (-90), 3, 0, 0) := rfl
theorem i323_109 : mm_cd 323 109 = some (.iload_n 3, 1, 0, 0) := rfl
theorem i323_110 : mm_cd 323 110 = some (.ireturn, 1, 0, 0) := rfl
def q323_95 (k25 : Int32 → Int32 → Int32 → Int32 → Int32 → mS → Option mQ) (v1 : Int32) (v2 : Int32) (v4 : Int32) (v5 : Int32) (y0 : Int32) (y1 : Int32) (s : mS) : Option mQ := bx (y0 ||| y1) fun x1 => bx (v5 + (1 : Int32)) fun x2 => k25 v1 v2 x1 v4 x2 s
theorem t323_95 {L : Nat} {xs : Nat → Int32} {d : Nat} {k25 : Int32 → Int32 → Int32 → Int32 → Int32 → mS → Option mQ} (hk25 : ∀ (v1 : Int32) (v2 : Int32) (v3 : Int32) (v4 : Int32) (v5 : Int32) (s : mS) (r : mQ), k25 v1 v2 v3 v4 v5 s = some r → Ev L xs d 323 25 [(0, .ref 512), (1, .int v1), (2, .int v2), (3, .int v3), (4, .int v4), (5, .int v5)] [] (hp s) (hr r)) (hd : 5 ≤ d) {v1 : Int32} {v2 : Int32} {v4 : Int32} {v5 : Int32} {y0 : Int32} {y1 : Int32} {s : mS} {r : mQ} (h : q323_95 k25 v1 v2 v4 v5 y0 y1 s = some r) : Ev L xs d 323 95 [(0, .ref 512), (1, .int v1), (2, .int v2), (4, .int v4), (5, .int v5)] [.int y1, .int y0] (hp s) (hr r) := by
  unfold q323_95 at h
  refine Ev.ior H323 i323_95 ?_
  refine Rd.istore_n H323 i323_96 (Nat.le_of_ble_eq_true rfl) (lv2 := fun x1 => [(3, .int x1), (0, .ref 512), (1, .int v1), (2, .int v2), (4, .int v4), (5, .int v5)]) (fun _ => rfl) h (fun x1 h => ?_)
  refine Rd.iinc H323 i323_97 (Nat.le_of_ble_eq_true rfl) rfl kI_1 (lv2 := fun x2 => [(5, .int x2), (3, .int x1), (0, .ref 512), (1, .int v1), (2, .int v2), (4, .int v4)]) (fun _ => rfl) h (fun x2 h => ?_)
  refine Ev.goto H323 i323_100 (t := 25) (by decide) ?_
  exact Ev.sub (l := [(0, .ref 512), (1, .int v1), (2, .int v2), (3, .int x1), (4, .int v4), (5, .int x2)]) rfl rfl (mm_sub_c rfl (mm_sub_c rfl (mm_sub_c rfl (mm_sub_c rfl (mm_sub_c rfl (mm_sub_c rfl mm_sub_n)))))) (hk25 _ _ _ _ _ _ _ h)
def q323_94 (k25 : Int32 → Int32 → Int32 → Int32 → Int32 → mS → Option mQ) (v1 : Int32) (v2 : Int32) (v4 : Int32) (v5 : Int32) (y0 : Int32) (s : mS) : Option mQ := q323_95 k25 v1 v2 v4 v5 y0 (0 : Int32) s
theorem t323_94 {L : Nat} {xs : Nat → Int32} {d : Nat} {k25 : Int32 → Int32 → Int32 → Int32 → Int32 → mS → Option mQ} (hk25 : ∀ (v1 : Int32) (v2 : Int32) (v3 : Int32) (v4 : Int32) (v5 : Int32) (s : mS) (r : mQ), k25 v1 v2 v3 v4 v5 s = some r → Ev L xs d 323 25 [(0, .ref 512), (1, .int v1), (2, .int v2), (3, .int v3), (4, .int v4), (5, .int v5)] [] (hp s) (hr r)) (hd : 5 ≤ d) {v1 : Int32} {v2 : Int32} {v4 : Int32} {v5 : Int32} {y0 : Int32} {s : mS} {r : mQ} (h : q323_94 k25 v1 v2 v4 v5 y0 s = some r) : Ev L xs d 323 94 [(0, .ref 512), (1, .int v1), (2, .int v2), (4, .int v4), (5, .int v5)] [.int y0] (hp s) (hr r) := by
  unfold q323_94 at h
  refine Ev.iconst H323 i323_94 kI_0 ?_
  exact Ev.sub (l := [(0, .ref 512), (1, .int v1), (2, .int v2), (4, .int v4), (5, .int v5)]) rfl rfl (mm_sub_c rfl (mm_sub_c rfl (mm_sub_c rfl (mm_sub_c rfl (mm_sub_c rfl mm_sub_n))))) (t323_95 (k25 := k25) hk25 hd h)
def q323_25 (k103 : Int32 → Int32 → Int32 → Int32 → mS → Option mQ) : Nat → Int32 → Int32 → Int32 → Int32 → Int32 → mS → Option mQ
  | 0, _, _, _, _, _, _ => none
  | n + 1, v1, v2, v3, v4, v5, s => if (2 : Int32) ≤ v5 then (k103 v1 v2 v3 v4 s) else (bN (q322 v1 v2 v4 v5 s) fun x4 s3 => bN (q322 v1 v2 ((1 : Int32) - v4) v5 s3) fun x6 s5 => if x4 < x6 then (q323_94 (q323_25 k103 n) v1 v2 v4 v5 v3 s5) else (bN (q322 v2 v1 v5 v4 s5) fun x8 s7 => bN (q322 v2 v1 ((1 : Int32) - v5) v4 s7) fun x10 s9 => if x8 < x10 then (q323_94 (q323_25 k103 n) v1 v2 v4 v5 v3 s9) else (q323_95 (q323_25 k103 n) v1 v2 v4 v5 v3 (shlI (1 : Int32) (((2 : Int32) * v4) + v5)) s9)))
theorem t323_25 {L : Nat} {xs : Nat → Int32} {d : Nat} {k103 : Int32 → Int32 → Int32 → Int32 → mS → Option mQ} (hk103 : ∀ (v1 : Int32) (v2 : Int32) (v3 : Int32) (v4 : Int32) (s : mS) (r : mQ), k103 v1 v2 v3 v4 s = some r → Ev L xs d 323 103 [(0, .ref 512), (1, .int v1), (2, .int v2), (3, .int v3), (4, .int v4)] [] (hp s) (hr r)) (hd : 5 ≤ d) : ∀ (n : Nat) (v1 : Int32) (v2 : Int32) (v3 : Int32) (v4 : Int32) (v5 : Int32) (s : mS) (r : mQ), q323_25 k103 n v1 v2 v3 v4 v5 s = some r → Ev L xs d 323 25 [(0, .ref 512), (1, .int v1), (2, .int v2), (3, .int v3), (4, .int v4), (5, .int v5)] [] (hp s) (hr r) := by
  intro n
  induction n with
  | zero => intro v1 v2 v3 v4 v5 s r h; rw [q323_25] at h; cases h
  | succ n ih =>
    intro v1 v2 v3 v4 v5 s r h
    rw [q323_25] at h
    refine Ev.iload H323 i323_25 rfl ?_
    refine Ev.iconst H323 i323_27 kI_2 ?_
    refine Rd.ic_ge H323 i323_28 (t := 103) (by decide) h (fun hc h => ?_) (fun hc h => ?_)
    · exact Ev.sub (l := [(0, .ref 512), (1, .int v1), (2, .int v2), (3, .int v3), (4, .int v4)]) rfl rfl (mm_sub_c rfl (mm_sub_c rfl (mm_sub_c rfl (mm_sub_c rfl (mm_sub_c rfl mm_sub_n))))) (hk103 _ _ _ _ _ _ h)
    · refine Ev.iload_n H323 i323_31 rfl ?_
      refine Ev.aload_n H323 i323_32 rfl ?_
      refine Ev.iload_n H323 i323_33 rfl ?_
      refine Ev.iload_n H323 i323_34 rfl ?_
      refine Ev.iload H323 i323_35 rfl ?_
      refine Ev.iload H323 i323_37 rfl ?_
      refine Rd.cV4vN H323 i323_39 cal322 ob11 (Nat.le_of_ble_eq_true rfl) (Nat.le_of_ble_eq_true rfl) (Nat.lt_of_lt_of_le (by decide) hd) (fun q hq => c322 hq) h (fun x4 s3 h => ?_)
      refine Ev.aload_n H323 i323_42 rfl ?_
      refine Ev.iload_n H323 i323_43 rfl ?_
      refine Ev.iload_n H323 i323_44 rfl ?_
      refine Ev.iconst H323 i323_45 kI_1 ?_
      refine Ev.iload H323 i323_46 rfl ?_
      refine Ev.isub H323 i323_48 ?_
      refine Ev.iload H323 i323_49 rfl ?_
      refine Rd.cV4vN H323 i323_51 cal322 ob11 (Nat.le_of_ble_eq_true rfl) (Nat.le_of_ble_eq_true rfl) (Nat.lt_of_lt_of_le (by decide) hd) (fun q hq => c322 hq) h (fun x6 s5 h => ?_)
      refine Rd.ic_lt H323 i323_54 (t := 94) (by decide) h (fun hc h => ?_) (fun hc h => ?_)
      · exact Ev.sub (l := [(0, .ref 512), (1, .int v1), (2, .int v2), (4, .int v4), (5, .int v5)]) rfl rfl (mm_sub_c rfl (mm_sub_c rfl (mm_sub_c rfl (mm_sub_c rfl (mm_sub_c rfl mm_sub_n))))) (t323_94 (k25 := (q323_25 k103 n)) (fun _ _ _ _ _ _ _ h => ih _ _ _ _ _ _ _ h) hd h)
      · refine Ev.aload_n H323 i323_57 rfl ?_
        refine Ev.iload_n H323 i323_58 rfl ?_
        refine Ev.iload_n H323 i323_59 rfl ?_
        refine Ev.iload H323 i323_60 rfl ?_
        refine Ev.iload H323 i323_62 rfl ?_
        refine Rd.cV4vN H323 i323_64 cal322 ob11 (Nat.le_of_ble_eq_true rfl) (Nat.le_of_ble_eq_true rfl) (Nat.lt_of_lt_of_le (by decide) hd) (fun q hq => c322 hq) h (fun x8 s7 h => ?_)
        refine Ev.aload_n H323 i323_67 rfl ?_
        refine Ev.iload_n H323 i323_68 rfl ?_
        refine Ev.iload_n H323 i323_69 rfl ?_
        refine Ev.iconst H323 i323_70 kI_1 ?_
        refine Ev.iload H323 i323_71 rfl ?_
        refine Ev.isub H323 i323_73 ?_
        refine Ev.iload H323 i323_74 rfl ?_
        refine Rd.cV4vN H323 i323_76 cal322 ob11 (Nat.le_of_ble_eq_true rfl) (Nat.le_of_ble_eq_true rfl) (Nat.lt_of_lt_of_le (by decide) hd) (fun q hq => c322 hq) h (fun x10 s9 h => ?_)
        refine Rd.ic_lt H323 i323_79 (t := 94) (by decide) h (fun hc h => ?_) (fun hc h => ?_)
        · exact Ev.sub (l := [(0, .ref 512), (1, .int v1), (2, .int v2), (4, .int v4), (5, .int v5)]) rfl rfl (mm_sub_c rfl (mm_sub_c rfl (mm_sub_c rfl (mm_sub_c rfl (mm_sub_c rfl mm_sub_n))))) (t323_94 (k25 := (q323_25 k103 n)) (fun _ _ _ _ _ _ _ h => ih _ _ _ _ _ _ _ h) hd h)
        · refine Ev.iconst H323 i323_82 kI_1 ?_
          refine Ev.iconst H323 i323_83 kI_2 ?_
          refine Ev.iload H323 i323_84 rfl ?_
          refine Ev.imul H323 i323_86 ?_
          refine Ev.iload H323 i323_87 rfl ?_
          refine Ev.iadd H323 i323_89 ?_
          refine Rd.ishl H323 i323_90 ?_
          refine Ev.goto H323 i323_91 (t := 95) (by decide) ?_
          exact Ev.sub (l := [(0, .ref 512), (1, .int v1), (2, .int v2), (4, .int v4), (5, .int v5)]) rfl rfl (mm_sub_c rfl (mm_sub_c rfl (mm_sub_c rfl (mm_sub_c rfl (mm_sub_c rfl mm_sub_n))))) (t323_95 (k25 := (q323_25 k103 n)) (fun _ _ _ _ _ _ _ h => ih _ _ _ _ _ _ _ h) hd h)
def q323_103 (k16 : Int32 → Int32 → Int32 → Int32 → mS → Option mQ) (v1 : Int32) (v2 : Int32) (v3 : Int32) (v4 : Int32) (s : mS) : Option mQ := bx (v4 + (1 : Int32)) fun x11 => k16 v1 v2 v3 x11 s
theorem t323_103 {L : Nat} {xs : Nat → Int32} {d : Nat} {k16 : Int32 → Int32 → Int32 → Int32 → mS → Option mQ} (hk16 : ∀ (v1 : Int32) (v2 : Int32) (v3 : Int32) (v4 : Int32) (s : mS) (r : mQ), k16 v1 v2 v3 v4 s = some r → Ev L xs d 323 16 [(0, .ref 512), (1, .int v1), (2, .int v2), (3, .int v3), (4, .int v4)] [] (hp s) (hr r)) (hd : 5 ≤ d) {v1 : Int32} {v2 : Int32} {v3 : Int32} {v4 : Int32} {s : mS} {r : mQ} (h : q323_103 k16 v1 v2 v3 v4 s = some r) : Ev L xs d 323 103 [(0, .ref 512), (1, .int v1), (2, .int v2), (3, .int v3), (4, .int v4)] [] (hp s) (hr r) := by
  unfold q323_103 at h
  refine Rd.iinc H323 i323_103 (Nat.le_of_ble_eq_true rfl) rfl kI_1 (lv2 := fun x11 => [(4, .int x11), (0, .ref 512), (1, .int v1), (2, .int v2), (3, .int v3)]) (fun _ => rfl) h (fun x11 h => ?_)
  refine Ev.goto H323 i323_106 (t := 16) (by decide) ?_
  exact Ev.sub (l := [(0, .ref 512), (1, .int v1), (2, .int v2), (3, .int v3), (4, .int x11)]) rfl rfl (mm_sub_c rfl (mm_sub_c rfl (mm_sub_c rfl (mm_sub_c rfl (mm_sub_c rfl mm_sub_n))))) (hk16 _ _ _ _ _ _ h)
def q323_16 : Nat → Int32 → Int32 → Int32 → Int32 → mS → Option mQ
  | 0, _, _, _, _, _ => none
  | n + 1, v1, v2, v3, v4, s => if (2 : Int32) ≤ v4 then (rv v3 s) else (q323_25 (q323_103 (q323_16 n)) 10000 v1 v2 v3 v4 (0 : Int32) s)
theorem t323_16 {L : Nat} {xs : Nat → Int32} {d : Nat} (hd : 5 ≤ d) : ∀ (n : Nat) (v1 : Int32) (v2 : Int32) (v3 : Int32) (v4 : Int32) (s : mS) (r : mQ), q323_16 n v1 v2 v3 v4 s = some r → Ev L xs d 323 16 [(0, .ref 512), (1, .int v1), (2, .int v2), (3, .int v3), (4, .int v4)] [] (hp s) (hr r) := by
  intro n
  induction n with
  | zero => intro v1 v2 v3 v4 s r h; rw [q323_16] at h; cases h
  | succ n ih =>
    intro v1 v2 v3 v4 s r h
    rw [q323_16] at h
    refine Ev.iload H323 i323_16 rfl ?_
    refine Ev.iconst H323 i323_18 kI_2 ?_
    refine Rd.ic_ge H323 i323_19 (t := 109) (by decide) h (fun hc h => ?_) (fun hc h => ?_)
    · refine Ev.iload_n H323 i323_109 rfl ?_
      exact Rd.ireturn H323 i323_110 rfl h
    · refine Ev.iconst H323 i323_22 kI_0 ?_
      refine Ev.istore H323 i323_23 (Nat.le_of_ble_eq_true rfl) (lv2 := [(5, .int (0 : Int32)), (0, .ref 512), (1, .int v1), (2, .int v2), (3, .int v3), (4, .int v4)]) rfl ?_
      exact Ev.sub (l := [(0, .ref 512), (1, .int v1), (2, .int v2), (3, .int v3), (4, .int v4), (5, .int (0 : Int32))]) rfl rfl (mm_sub_c rfl (mm_sub_c rfl (mm_sub_c rfl (mm_sub_c rfl (mm_sub_c rfl (mm_sub_c rfl mm_sub_n)))))) (t323_25 (k103 := (q323_103 (q323_16 n))) (fun _ _ _ _ _ _ h => t323_103 (k16 := (q323_16 n)) (fun _ _ _ _ _ _ h => ih _ _ _ _ _ _ h) hd h) hd 10000 _ _ _ _ _ _ _ h)
/-- SerialGateModel.rests(II)I -/
def q323 (v1 : Int32) (v2 : Int32) (s : mS) : Option mQ := bN (q303 v1 v2 s) fun x13 s12 => if x13 = 0 then (q323_16 10000 v1 v2 (0 : Int32) (0 : Int32) s12) else (rv (0 : Int32) s12)
theorem c323 {L : Nat} {xs : Nat → Int32} {v1 : Int32} {v2 : Int32} {s : mS} {r : mQ} (h : q323 v1 v2 s = some r) : ∀ d, 5 ≤ d → Cl L xs d 323 [.ref 512, .int v1, .int v2] (hp s) (hr r) := by
  intro d hd
  show Ev L xs d 323 0 [(0, .ref 512), (1, .int v1), (2, .int v2)] [] (hp s) (hr r)
  unfold q323 at h
  refine Ev.aload_n H323 i323_0 rfl ?_
  refine Ev.iload_n H323 i323_1 rfl ?_
  refine Ev.iload_n H323 i323_2 rfl ?_
  refine Rd.cV2vN H323 i323_3 cal303 ob11 (Nat.le_of_ble_eq_true rfl) (Nat.le_of_ble_eq_true rfl) (Nat.lt_of_lt_of_le (by decide) hd) (fun q hq => c303 hq) h (fun x13 s12 h => ?_)
  refine Rd.if_eq H323 i323_6 (t := 11) (by decide) h (fun hc h => ?_) (fun hc h => ?_)
  · refine Ev.iconst H323 i323_11 kI_0 ?_
    refine Ev.istore_n H323 i323_12 (Nat.le_of_ble_eq_true rfl) (lv2 := [(3, .int (0 : Int32)), (0, .ref 512), (1, .int v1), (2, .int v2)]) rfl ?_
    refine Ev.iconst H323 i323_13 kI_0 ?_
    refine Ev.istore H323 i323_14 (Nat.le_of_ble_eq_true rfl) (lv2 := [(4, .int (0 : Int32)), (3, .int (0 : Int32)), (0, .ref 512), (1, .int v1), (2, .int v2)]) rfl ?_
    exact Ev.sub (l := [(0, .ref 512), (1, .int v1), (2, .int v2), (3, .int (0 : Int32)), (4, .int (0 : Int32))]) rfl rfl (mm_sub_c rfl (mm_sub_c rfl (mm_sub_c rfl (mm_sub_c rfl (mm_sub_c rfl mm_sub_n))))) (t323_16 hd 10000 _ _ _ _ _ _ h)
  · refine Ev.iconst H323 i323_9 kI_0 ?_
    exact Rd.ireturn H323 i323_10 rfl h
theorem i324_0 : mm_cd 324 0 = some (.aload_n 0, 1, 0, 0) := rfl
theorem i324_1 : mm_cd 324 1 = some (.iconst 0, 1, 0, 0) := rfl
theorem i324_2 : mm_cd 324 2 = some (.putfield 3, 3, ((11 : Nat) : Int), 0) := rfl
theorem i324_5 : mm_cd 324 5 = some (.aload_n 0, 1, 0, 0) := rfl
theorem i324_6 : mm_cd 324 6 = some (.iload_n 1, 1, 0, 0) := rfl
theorem i324_7 : mm_cd 324 7 = some (.iconst 0, 1, 0, 0) := rfl
theorem i324_8 : mm_cd 324 8 = some (.iconst 5, 1, 0, 0) := rfl
theorem i324_9 : mm_cd 324 9 = some (.invokestatic 371, 3, 0, 189) := rfl
theorem i324_12 : mm_cd 324 12 = some (.ifCond .eq 12, 3, 0, 0) := rfl
theorem i324_15 : mm_cd 324 15 = some (.iload_n 2, 1, 0, 0) := rfl
theorem i324_16 : mm_cd 324 16 = some (.iconst 0, 1, 0, 0) := rfl
theorem i324_17 : mm_cd 324 17 = some (.iconst 5, 1, 0, 0) := rfl
theorem i324_18 : mm_cd 324 18 = some (.invokestatic 371, 3, 0, 189) := rfl
theorem i324_21 : mm_cd 324 21 = some (.ifCond .ne 7, 3, 0, 0) := rfl
theorem i324_24 : mm_cd 324 24 = some (.iconst 1, 1, 0, 0) := rfl
theorem i324_25 : mm_cd 324 25 = some (.goto 4, 3, 0, 0) := rfl
theorem i324_28 : mm_cd 324 28 = some (.iconst 0, 1, 0, 0) := rfl
theorem i324_29 : mm_cd 324 29 = some (.iconst 1, 1, 0, 0) := rfl
theorem i324_30 : mm_cd 324 30 = some (.invokevirtual 249, 3, 0, 188) := rfl
theorem i324_33 : mm_cd 324 33 = some (.ifCond .eq 5, 3, 0, 0) := rfl
theorem i324_36 : mm_cd 324 36 = some (.iconst 0, 1, 0, 0) := rfl
theorem i324_37 : mm_cd 324 37 = some (.ireturn, 1, 0, 0) := rfl
theorem i324_38 : mm_cd 324 38 = some (.aload_n 0, 1, 0, 0) := rfl
theorem i324_39 : mm_cd 324 39 = some (.invokevirtual 129, 3, 0, 198) := rfl
theorem i324_42 : mm_cd 324 42 = some (.ifCond .ne 15, 3, 0, 0) := rfl
theorem i324_45 : mm_cd 324 45 = some (.iload_n 2, 1, 0, 0) := rfl
theorem i324_46 : mm_cd 324 46 = some (.ifCond .ne 9, 3, 0, 0) := rfl
theorem i324_49 : mm_cd 324 49 = some (.sipush 10000, 3, 0, 0) := rfl
theorem i324_52 : mm_cd 324 52 = some (.goto 4, 3, 0, 0) := rfl
theorem i324_55 : mm_cd 324 55 = some (.iconst 0, 1, 0, 0) := rfl
theorem i324_56 : mm_cd 324 56 = some (.ireturn, 1, 0, 0) := rfl
theorem i324_57 : mm_cd 324 57 = some (.lconst 1, 1, 0, 0) := rfl
theorem i324_58 : mm_cd 324 58 = some (.lstore_n 3, 1, 0, 0) := rfl
theorem i324_59 : mm_cd 324 59 = some (.iconst 0, 1, 0, 0) := rfl
theorem i324_60 : mm_cd 324 60 = some (.istore 5, 2, 0, 0) := rfl
theorem i324_62 : mm_cd 324 62 = some (.iload 5, 2, 0, 0) := rfl
theorem i324_64 : mm_cd 324 64 = some (.iconst 5, 1, 0, 0) := rfl
theorem i324_65 : mm_cd 324 65 = some (.if_icmp .gt 26, 3, 0, 0) := rfl
theorem i324_68 : mm_cd 324 68 = some (.aload_n 0, 1, 0, 0) := rfl
theorem i324_69 : mm_cd 324 69 = some (.getfield 48, 3, ((11 : Nat) : Int), 22) := rfl
theorem i324_72 : mm_cd 324 72 = some (.iload 5, 2, 0, 0) := rfl
theorem i324_74 : mm_cd 324 74 = some (.iload 5, 2, 0, 0) := rfl
theorem i324_76 : mm_cd 324 76 = some (.ifCond .ne 7, 3, 0, 0) := rfl
theorem i324_79 : mm_cd 324 79 = some (.lconst 1, 1, 0, 0) := rfl
theorem i324_80 : mm_cd 324 80 = some (.goto 4, 3, 0, 0) := rfl
theorem i324_83 : mm_cd 324 83 = some (.lconst 0, 1, 0, 0) := rfl
theorem i324_84 : mm_cd 324 84 = some (.lastore, 1, 0, 0) := rfl
theorem i324_85 : mm_cd 324 85 = some (.iinc 5 1, 3, 0, 0) := rfl
theorem i324_88 : mm_cd 324 88 = some (.goto (-26), 3, 0, 0) := rfl
theorem i324_91 : mm_cd 324 91 = some (.iconst 0, 1, 0, 0) := rfl
theorem i324_92 : mm_cd 324 92 = some (.istore 5, 2, 0, 0) := rfl
theorem i324_94 : mm_cd 324 94 = some (.iload 5, 2, 0, 0) := rfl
theorem i324_96 : mm_cd 324 96 = some (.iload_n 1, 1, 0, 0) := rfl
theorem i324_97 : mm_cd 324 97 = some (.if_icmp .ge 72, 3, 0, 0) := rfl
theorem i324_100 : mm_cd 324 100 = some (.iconst 5, 1, 0, 0) := rfl
theorem i324_101 : mm_cd 324 101 = some (.istore 6, 2, 0, 0) := rfl
theorem i324_103 : mm_cd 324 103 = some (.iload 6, 2, 0, 0) := rfl
theorem i324_105 : mm_cd 324 105 = some (.ifCond .lt 50, 3, 0, 0) := rfl
theorem i324_108 : mm_cd 324 108 = some (.aload_n 0, 1, 0, 0) := rfl
theorem i324_109 : mm_cd 324 109 = some (.getfield 48, 3, ((11 : Nat) : Int), 22) := rfl
theorem i324_112 : mm_cd 324 112 = some (.iload 6, 2, 0, 0) := rfl
theorem i324_114 : mm_cd 324 114 = some (.aload_n 0, 1, 0, 0) := rfl
theorem i324_115 : mm_cd 324 115 = some (.getfield 48, 3, ((11 : Nat) : Int), 22) := rfl
theorem i324_118 : mm_cd 324 118 = some (.iload 6, 2, 0, 0) := rfl
theorem i324_120 : mm_cd 324 120 = some (.laload, 1, 0, 0) := rfl
theorem i324_121 : mm_cd 324 121 = some (.aload_n 0, 1, 0, 0) := rfl
theorem i324_122 : mm_cd 324 122 = some (.invokevirtual 129, 3, 0, 198) := rfl
theorem i324_125 : mm_cd 324 125 = some (.iconst 1, 1, 0, 0) := rfl
theorem i324_126 : mm_cd 324 126 = some (.isub, 1, 0, 0) := rfl
theorem i324_127 : mm_cd 324 127 = some (.i2l, 1, 0, 0) := rfl
theorem i324_128 : mm_cd 324 128 = some (.lmul, 1, 0, 0) := rfl
theorem i324_129 : mm_cd 324 129 = some (.iload 6, 2, 0, 0) := rfl
theorem i324_131 : mm_cd 324 131 = some (.ifCond .ne 7, 3, 0, 0) := rfl
theorem i324_134 : mm_cd 324 134 = some (.lconst 0, 1, 0, 0) := rfl
theorem i324_135 : mm_cd 324 135 = some (.goto 12, 3, 0, 0) := rfl
theorem i324_138 : mm_cd 324 138 = some (.aload_n 0, 1, 0, 0) := rfl
theorem i324_139 : mm_cd 324 139 = some (.getfield 48, 3, ((11 : Nat) : Int), 22) := rfl
theorem i324_142 : mm_cd 324 142 = some (.iload 6, 2, 0, 0) := rfl
theorem i324_144 : mm_cd 324 144 = some (.iconst 1, 1, 0, 0) := rfl
theorem i324_145 : mm_cd 324 145 = some (.isub, 1, 0, 0) := rfl
theorem i324_146 : mm_cd 324 146 = some (.laload, 1, 0, 0) := rfl
theorem i324_147 : mm_cd 324 147 = some (.ladd, 1, 0, 0) := rfl
theorem i324_148 : mm_cd 324 148 = some (.lastore, 1, 0, 0) := rfl
theorem i324_149 : mm_cd 324 149 = some (.iinc 6 (-1), 3, 0, 0) := rfl
theorem i324_152 : mm_cd 324 152 = some (.goto (-49), 3, 0, 0) := rfl
theorem i324_155 : mm_cd 324 155 = some (.lload_n 3, 1, 0, 0) := rfl
theorem i324_156 : mm_cd 324 156 = some (.aload_n 0, 1, 0, 0) := rfl
theorem i324_157 : mm_cd 324 157 = some (.invokevirtual 129, 3, 0, 198) := rfl
theorem i324_160 : mm_cd 324 160 = some (.i2l, 1, 0, 0) := rfl
theorem i324_161 : mm_cd 324 161 = some (.lmul, 1, 0, 0) := rfl
theorem i324_162 : mm_cd 324 162 = some (.lstore_n 3, 1, 0, 0) := rfl
theorem i324_163 : mm_cd 324 163 = some (.iinc 5 1, 3, 0, 0) := rfl
theorem i324_166 : mm_cd 324 166 = some (.goto (-72), 3, 0, 0) := rfl
theorem i324_169 : mm_cd 324 169 = some (.lconst 0, 1, 0, 0) := rfl
theorem i324_170 : mm_cd 324 170 = some (.lstore 5, 2, 0, 0) := rfl
theorem i324_172 : mm_cd 324 172 = some (.iload_n 2, 1, 0, 0) := rfl
theorem i324_173 : mm_cd 324 173 = some (.istore 7, 2, 0, 0) := rfl
theorem i324_175 : mm_cd 324 175 = some (.iload 7, 2, 0, 0) := rfl
theorem i324_177 : mm_cd 324 177 = some (.iconst 5, 1, 0, 0) := rfl
theorem i324_178 : mm_cd 324 178 = some (.if_icmp .gt 21, 3, 0, 0) := rfl
theorem i324_181 : mm_cd 324 181 = some (.lload 5, 2, 0, 0) := rfl
theorem i324_183 : mm_cd 324 183 = some (.aload_n 0, 1, 0, 0) := rfl
theorem i324_184 : mm_cd 324 184 = some (.getfield 48, 3, ((11 : Nat) : Int), 22) := rfl
theorem i324_187 : mm_cd 324 187 = some (.iload 7, 2, 0, 0) := rfl
theorem i324_189 : mm_cd 324 189 = some (.laload, 1, 0, 0) := rfl
theorem i324_190 : mm_cd 324 190 = some (.ladd, 1, 0, 0) := rfl
theorem i324_191 : mm_cd 324 191 = some (.lstore 5, 2, 0, 0) := rfl
theorem i324_193 : mm_cd 324 193 = some (.iinc 7 1, 3, 0, 0) := rfl
theorem i324_196 : mm_cd 324 196 = some (.goto (-21), 3, 0, 0) := rfl
theorem i324_199 : mm_cd 324 199 = some (.ldc2_w 467, 3, 10000, 0) := rfl
theorem i324_202 : mm_cd 324 202 = some (.lload 5, 2, 0, 0) := rfl
theorem i324_204 : mm_cd 324 204 = some (.lmul, 1, 0, 0) := rfl
theorem i324_205 : mm_cd 324 205 = some (.lload_n 3, 1, 0, 0) := rfl
theorem i324_206 : mm_cd 324 206 = some (.ldiv, 1, 0, 0) := rfl
theorem i324_207 : mm_cd 324 207 = some (.l2i, 1, 0, 0) := rfl
theorem i324_208 : mm_cd 324 208 = some (.ireturn, 1, 0, 0) := rfl
def q324_84 (k62 : Int32 → Int32 → Int64 → Int32 → mS → Option mQ) (v1 : Int32) (v2 : Int32) (v3 : Int64) (v5 : Int32) (y1 : Int32) (y2 : Int64) (s : mS) : Option mQ := gA 6 y1 <| sp (sL s 523 y1.toNatClampNeg y2) fun s1 => bx (v5 + (1 : Int32)) fun x2 => k62 v1 v2 v3 x2 s1
theorem t324_84 {L : Nat} {xs : Nat → Int32} {d : Nat} {k62 : Int32 → Int32 → Int64 → Int32 → mS → Option mQ} (hk62 : ∀ (v1 : Int32) (v2 : Int32) (v3 : Int64) (v5 : Int32) (s : mS) (r : mQ), k62 v1 v2 v3 v5 s = some r → Ev L xs d 324 62 [(0, .ref 512), (1, .int v1), (2, .int v2), (3, .long v3), (5, .int v5)] [] (hp s) (hr r)) (hd : 1 ≤ d) {v1 : Int32} {v2 : Int32} {v3 : Int64} {v5 : Int32} {y1 : Int32} {y2 : Int64} {s : mS} {r : mQ} (h : q324_84 k62 v1 v2 v3 v5 y1 y2 s = some r) : Ev L xs d 324 84 [(0, .ref 512), (1, .int v1), (2, .int v2), (3, .long v3), (5, .int v5)] [.long y2, .int y1, .ref 523] (hp s) (hr r) := by
  unfold q324_84 at h
  refine Rd.lastore H324 i324_84 ar_523 h (fun s1 h => ?_)
  refine Rd.iinc H324 i324_85 (Nat.le_of_ble_eq_true rfl) rfl kI_1 (lv2 := fun x2 => [(5, .int x2), (0, .ref 512), (1, .int v1), (2, .int v2), (3, .long v3)]) (fun _ => rfl) h (fun x2 h => ?_)
  refine Ev.goto H324 i324_88 (t := 62) (by decide) ?_
  exact Ev.sub (l := [(0, .ref 512), (1, .int v1), (2, .int v2), (3, .long v3), (5, .int x2)]) rfl rfl (mm_sub_c rfl (mm_sub_c rfl (mm_sub_c rfl (mm_sub_c rfl (mm_sub_c rfl mm_sub_n))))) (hk62 _ _ _ _ _ _ h)
def q324_62 (k91 : Int32 → Int32 → Int64 → mS → Option mQ) : Nat → Int32 → Int32 → Int64 → Int32 → mS → Option mQ
  | 0, _, _, _, _, _ => none
  | n + 1, v1, v2, v3, v5, s => if (5 : Int32) < v5 then (k91 v1 v2 v3 s) else (if ¬ v5 = 0 then (q324_84 (q324_62 k91 n) v1 v2 v3 v5 v5 (0 : Int64) s) else (q324_84 (q324_62 k91 n) v1 v2 v3 v5 v5 (1 : Int64) s))
theorem t324_62 {L : Nat} {xs : Nat → Int32} {d : Nat} {k91 : Int32 → Int32 → Int64 → mS → Option mQ} (hk91 : ∀ (v1 : Int32) (v2 : Int32) (v3 : Int64) (s : mS) (r : mQ), k91 v1 v2 v3 s = some r → Ev L xs d 324 91 [(0, .ref 512), (1, .int v1), (2, .int v2), (3, .long v3)] [] (hp s) (hr r)) (hd : 1 ≤ d) : ∀ (n : Nat) (v1 : Int32) (v2 : Int32) (v3 : Int64) (v5 : Int32) (s : mS) (r : mQ), q324_62 k91 n v1 v2 v3 v5 s = some r → Ev L xs d 324 62 [(0, .ref 512), (1, .int v1), (2, .int v2), (3, .long v3), (5, .int v5)] [] (hp s) (hr r) := by
  intro n
  induction n with
  | zero => intro v1 v2 v3 v5 s r h; rw [q324_62] at h; cases h
  | succ n ih =>
    intro v1 v2 v3 v5 s r h
    rw [q324_62] at h
    refine Ev.iload H324 i324_62 rfl ?_
    refine Ev.iconst H324 i324_64 kI_5 ?_
    refine Rd.ic_gt H324 i324_65 (t := 91) (by decide) h (fun hc h => ?_) (fun hc h => ?_)
    · exact Ev.sub (l := [(0, .ref 512), (1, .int v1), (2, .int v2), (3, .long v3)]) rfl rfl (mm_sub_c rfl (mm_sub_c rfl (mm_sub_c rfl (mm_sub_c rfl mm_sub_n)))) (hk91 _ _ _ _ _ h)
    · refine Ev.aload_n H324 i324_68 rfl ?_
      refine Rd.getR H324 i324_69 ob11 rfl ?_
      refine Ev.iload H324 i324_72 rfl ?_
      refine Ev.iload H324 i324_74 rfl ?_
      refine Rd.if_ne H324 i324_76 (t := 83) (by decide) h (fun hc h => ?_) (fun hc h => ?_)
      · refine Ev.lconst H324 i324_83 kL_0 ?_
        exact Ev.sub (l := [(0, .ref 512), (1, .int v1), (2, .int v2), (3, .long v3), (5, .int v5)]) rfl rfl (mm_sub_c rfl (mm_sub_c rfl (mm_sub_c rfl (mm_sub_c rfl (mm_sub_c rfl mm_sub_n))))) (t324_84 (k62 := (q324_62 k91 n)) (fun _ _ _ _ _ _ h => ih _ _ _ _ _ _ h) hd h)
      · refine Ev.lconst H324 i324_79 kL_1 ?_
        refine Ev.goto H324 i324_80 (t := 84) (by decide) ?_
        exact Ev.sub (l := [(0, .ref 512), (1, .int v1), (2, .int v2), (3, .long v3), (5, .int v5)]) rfl rfl (mm_sub_c rfl (mm_sub_c rfl (mm_sub_c rfl (mm_sub_c rfl (mm_sub_c rfl mm_sub_n))))) (t324_84 (k62 := (q324_62 k91 n)) (fun _ _ _ _ _ _ h => ih _ _ _ _ _ _ h) hd h)
def q324_147 (k103 : Int32 → Int32 → Int64 → Int32 → Int32 → mS → Option mQ) (v1 : Int32) (v2 : Int32) (v3 : Int64) (v5 : Int32) (v6 : Int32) (y1 : Int32) (y2 : Int64) (y3 : Int64) (s : mS) : Option mQ := gA 6 y1 <| sp (sL s 523 y1.toNatClampNeg (y2 + y3)) fun s3 => bx (v6 + (-1 : Int32)) fun x4 => k103 v1 v2 v3 v5 x4 s3
theorem t324_147 {L : Nat} {xs : Nat → Int32} {d : Nat} {k103 : Int32 → Int32 → Int64 → Int32 → Int32 → mS → Option mQ} (hk103 : ∀ (v1 : Int32) (v2 : Int32) (v3 : Int64) (v5 : Int32) (v6 : Int32) (s : mS) (r : mQ), k103 v1 v2 v3 v5 v6 s = some r → Ev L xs d 324 103 [(0, .ref 512), (1, .int v1), (2, .int v2), (3, .long v3), (5, .int v5), (6, .int v6)] [] (hp s) (hr r)) (hd : 1 ≤ d) {v1 : Int32} {v2 : Int32} {v3 : Int64} {v5 : Int32} {v6 : Int32} {y1 : Int32} {y2 : Int64} {y3 : Int64} {s : mS} {r : mQ} (h : q324_147 k103 v1 v2 v3 v5 v6 y1 y2 y3 s = some r) : Ev L xs d 324 147 [(0, .ref 512), (1, .int v1), (2, .int v2), (3, .long v3), (5, .int v5), (6, .int v6)] [.long y3, .long y2, .int y1, .ref 523] (hp s) (hr r) := by
  unfold q324_147 at h
  refine Ev.ladd H324 i324_147 ?_
  refine Rd.lastore H324 i324_148 ar_523 h (fun s3 h => ?_)
  refine Rd.iinc H324 i324_149 (Nat.le_of_ble_eq_true rfl) rfl kI_m1 (lv2 := fun x4 => [(6, .int x4), (0, .ref 512), (1, .int v1), (2, .int v2), (3, .long v3), (5, .int v5)]) (fun _ => rfl) h (fun x4 h => ?_)
  refine Ev.goto H324 i324_152 (t := 103) (by decide) ?_
  exact Ev.sub (l := [(0, .ref 512), (1, .int v1), (2, .int v2), (3, .long v3), (5, .int v5), (6, .int x4)]) rfl rfl (mm_sub_c rfl (mm_sub_c rfl (mm_sub_c rfl (mm_sub_c rfl (mm_sub_c rfl (mm_sub_c rfl mm_sub_n)))))) (hk103 _ _ _ _ _ _ _ h)
def q324_103 (k155 : Int32 → Int32 → Int64 → Int32 → mS → Option mQ) : Nat → Int32 → Int32 → Int64 → Int32 → Int32 → mS → Option mQ
  | 0, _, _, _, _, _, _ => none
  | n + 1, v1, v2, v3, v5, v6, s => if v6 < 0 then (k155 v1 v2 v3 v5 s) else (gA 6 v6 <| bN (q198 s) fun x6 s5 => if ¬ v6 = 0 then (gA 6 (v6 - (1 : Int32)) <| q324_147 (q324_103 k155 n) v1 v2 v3 v5 v6 v6 ((s.2.1 523 v6.toNatClampNeg) * ((x6 - (1 : Int32)).toInt64)) (s5.2.1 523 (v6 - (1 : Int32)).toNatClampNeg) s5) else (q324_147 (q324_103 k155 n) v1 v2 v3 v5 v6 v6 ((s.2.1 523 v6.toNatClampNeg) * ((x6 - (1 : Int32)).toInt64)) (0 : Int64) s5))
theorem t324_103 {L : Nat} {xs : Nat → Int32} {d : Nat} {k155 : Int32 → Int32 → Int64 → Int32 → mS → Option mQ} (hk155 : ∀ (v1 : Int32) (v2 : Int32) (v3 : Int64) (v5 : Int32) (s : mS) (r : mQ), k155 v1 v2 v3 v5 s = some r → Ev L xs d 324 155 [(0, .ref 512), (1, .int v1), (2, .int v2), (3, .long v3), (5, .int v5)] [] (hp s) (hr r)) (hd : 1 ≤ d) : ∀ (n : Nat) (v1 : Int32) (v2 : Int32) (v3 : Int64) (v5 : Int32) (v6 : Int32) (s : mS) (r : mQ), q324_103 k155 n v1 v2 v3 v5 v6 s = some r → Ev L xs d 324 103 [(0, .ref 512), (1, .int v1), (2, .int v2), (3, .long v3), (5, .int v5), (6, .int v6)] [] (hp s) (hr r) := by
  intro n
  induction n with
  | zero => intro v1 v2 v3 v5 v6 s r h; rw [q324_103] at h; cases h
  | succ n ih =>
    intro v1 v2 v3 v5 v6 s r h
    rw [q324_103] at h
    refine Ev.iload H324 i324_103 rfl ?_
    refine Rd.if_lt H324 i324_105 (t := 155) (by decide) h (fun hc h => ?_) (fun hc h => ?_)
    · exact Ev.sub (l := [(0, .ref 512), (1, .int v1), (2, .int v2), (3, .long v3), (5, .int v5)]) rfl rfl (mm_sub_c rfl (mm_sub_c rfl (mm_sub_c rfl (mm_sub_c rfl (mm_sub_c rfl mm_sub_n))))) (hk155 _ _ _ _ _ _ h)
    · refine Ev.aload_n H324 i324_108 rfl ?_
      refine Rd.getR H324 i324_109 ob11 rfl ?_
      refine Ev.iload H324 i324_112 rfl ?_
      refine Ev.aload_n H324 i324_114 rfl ?_
      refine Rd.getR H324 i324_115 ob11 rfl ?_
      refine Ev.iload H324 i324_118 rfl ?_
      refine Rd.laload H324 i324_120 ar_523 h (fun h => ?_)
      refine Ev.aload_n H324 i324_121 rfl ?_
      refine Rd.cV0vN H324 i324_122 cal198 ob11 (Nat.le_of_ble_eq_true rfl) (Nat.le_of_ble_eq_true rfl) (Nat.lt_of_lt_of_le (by decide) hd) (fun q hq => c198 hq) h (fun x6 s5 h => ?_)
      refine Ev.iconst H324 i324_125 kI_1 ?_
      refine Ev.isub H324 i324_126 ?_
      refine Ev.i2l H324 i324_127 ?_
      refine Ev.lmul H324 i324_128 ?_
      refine Ev.iload H324 i324_129 rfl ?_
      refine Rd.if_ne H324 i324_131 (t := 138) (by decide) h (fun hc h => ?_) (fun hc h => ?_)
      · refine Ev.aload_n H324 i324_138 rfl ?_
        refine Rd.getR H324 i324_139 ob11 rfl ?_
        refine Ev.iload H324 i324_142 rfl ?_
        refine Ev.iconst H324 i324_144 kI_1 ?_
        refine Ev.isub H324 i324_145 ?_
        refine Rd.laload H324 i324_146 ar_523 h (fun h => ?_)
        exact Ev.sub (l := [(0, .ref 512), (1, .int v1), (2, .int v2), (3, .long v3), (5, .int v5), (6, .int v6)]) rfl rfl (mm_sub_c rfl (mm_sub_c rfl (mm_sub_c rfl (mm_sub_c rfl (mm_sub_c rfl (mm_sub_c rfl mm_sub_n)))))) (t324_147 (k103 := (q324_103 k155 n)) (fun _ _ _ _ _ _ _ h => ih _ _ _ _ _ _ _ h) hd h)
      · refine Ev.lconst H324 i324_134 kL_0 ?_
        refine Ev.goto H324 i324_135 (t := 147) (by decide) ?_
        exact Ev.sub (l := [(0, .ref 512), (1, .int v1), (2, .int v2), (3, .long v3), (5, .int v5), (6, .int v6)]) rfl rfl (mm_sub_c rfl (mm_sub_c rfl (mm_sub_c rfl (mm_sub_c rfl (mm_sub_c rfl (mm_sub_c rfl mm_sub_n)))))) (t324_147 (k103 := (q324_103 k155 n)) (fun _ _ _ _ _ _ _ h => ih _ _ _ _ _ _ _ h) hd h)
def q324_155 (k94 : Int32 → Int32 → Int64 → Int32 → mS → Option mQ) (v1 : Int32) (v2 : Int32) (v3 : Int64) (v5 : Int32) (s : mS) : Option mQ := bN (q198 s) fun x8 s7 => by_ (v3 * x8.toInt64) fun x9 => bx (v5 + (1 : Int32)) fun x10 => k94 v1 v2 x9 x10 s7
theorem t324_155 {L : Nat} {xs : Nat → Int32} {d : Nat} {k94 : Int32 → Int32 → Int64 → Int32 → mS → Option mQ} (hk94 : ∀ (v1 : Int32) (v2 : Int32) (v3 : Int64) (v5 : Int32) (s : mS) (r : mQ), k94 v1 v2 v3 v5 s = some r → Ev L xs d 324 94 [(0, .ref 512), (1, .int v1), (2, .int v2), (3, .long v3), (5, .int v5)] [] (hp s) (hr r)) (hd : 1 ≤ d) {v1 : Int32} {v2 : Int32} {v3 : Int64} {v5 : Int32} {s : mS} {r : mQ} (h : q324_155 k94 v1 v2 v3 v5 s = some r) : Ev L xs d 324 155 [(0, .ref 512), (1, .int v1), (2, .int v2), (3, .long v3), (5, .int v5)] [] (hp s) (hr r) := by
  unfold q324_155 at h
  refine Ev.lload_n H324 i324_155 rfl ?_
  refine Ev.aload_n H324 i324_156 rfl ?_
  refine Rd.cV0vN H324 i324_157 cal198 ob11 (Nat.le_of_ble_eq_true rfl) (Nat.le_of_ble_eq_true rfl) (Nat.lt_of_lt_of_le (by decide) hd) (fun q hq => c198 hq) h (fun x8 s7 h => ?_)
  refine Ev.i2l H324 i324_160 ?_
  refine Ev.lmul H324 i324_161 ?_
  refine Rd.lstore_n H324 i324_162 (Nat.le_of_ble_eq_true rfl) (lv2 := fun x9 => [(3, .long x9), (0, .ref 512), (1, .int v1), (2, .int v2), (5, .int v5)]) (fun _ => rfl) h (fun x9 h => ?_)
  refine Rd.iinc H324 i324_163 (Nat.le_of_ble_eq_true rfl) rfl kI_1 (lv2 := fun x10 => [(5, .int x10), (3, .long x9), (0, .ref 512), (1, .int v1), (2, .int v2)]) (fun _ => rfl) h (fun x10 h => ?_)
  refine Ev.goto H324 i324_166 (t := 94) (by decide) ?_
  exact Ev.sub (l := [(0, .ref 512), (1, .int v1), (2, .int v2), (3, .long x9), (5, .int x10)]) rfl rfl (mm_sub_c rfl (mm_sub_c rfl (mm_sub_c rfl (mm_sub_c rfl (mm_sub_c rfl mm_sub_n))))) (hk94 _ _ _ _ _ _ h)
def q324_94 (k169 : Int32 → Int64 → mS → Option mQ) : Nat → Int32 → Int32 → Int64 → Int32 → mS → Option mQ
  | 0, _, _, _, _, _ => none
  | n + 1, v1, v2, v3, v5, s => if v1 ≤ v5 then (k169 v2 v3 s) else (q324_103 (q324_155 (q324_94 k169 n)) 10000 v1 v2 v3 v5 (5 : Int32) s)
theorem t324_94 {L : Nat} {xs : Nat → Int32} {d : Nat} {k169 : Int32 → Int64 → mS → Option mQ} (hk169 : ∀ (v2 : Int32) (v3 : Int64) (s : mS) (r : mQ), k169 v2 v3 s = some r → Ev L xs d 324 169 [(0, .ref 512), (2, .int v2), (3, .long v3)] [] (hp s) (hr r)) (hd : 1 ≤ d) : ∀ (n : Nat) (v1 : Int32) (v2 : Int32) (v3 : Int64) (v5 : Int32) (s : mS) (r : mQ), q324_94 k169 n v1 v2 v3 v5 s = some r → Ev L xs d 324 94 [(0, .ref 512), (1, .int v1), (2, .int v2), (3, .long v3), (5, .int v5)] [] (hp s) (hr r) := by
  intro n
  induction n with
  | zero => intro v1 v2 v3 v5 s r h; rw [q324_94] at h; cases h
  | succ n ih =>
    intro v1 v2 v3 v5 s r h
    rw [q324_94] at h
    refine Ev.iload H324 i324_94 rfl ?_
    refine Ev.iload_n H324 i324_96 rfl ?_
    refine Rd.ic_ge H324 i324_97 (t := 169) (by decide) h (fun hc h => ?_) (fun hc h => ?_)
    · exact Ev.sub (l := [(0, .ref 512), (2, .int v2), (3, .long v3)]) rfl rfl (mm_sub_c rfl (mm_sub_c rfl (mm_sub_c rfl mm_sub_n))) (hk169 _ _ _ _ h)
    · refine Ev.iconst H324 i324_100 kI_5 ?_
      refine Ev.istore H324 i324_101 (Nat.le_of_ble_eq_true rfl) (lv2 := [(6, .int (5 : Int32)), (0, .ref 512), (1, .int v1), (2, .int v2), (3, .long v3), (5, .int v5)]) rfl ?_
      exact Ev.sub (l := [(0, .ref 512), (1, .int v1), (2, .int v2), (3, .long v3), (5, .int v5), (6, .int (5 : Int32))]) rfl rfl (mm_sub_c rfl (mm_sub_c rfl (mm_sub_c rfl (mm_sub_c rfl (mm_sub_c rfl (mm_sub_c rfl mm_sub_n)))))) (t324_103 (k155 := (q324_155 (q324_94 k169 n))) (fun _ _ _ _ _ _ h => t324_155 (k94 := (q324_94 k169 n)) (fun _ _ _ _ _ _ h => ih _ _ _ _ _ _ h) hd h) hd 10000 _ _ _ _ _ _ _ h)
def q324_175 (k199 : Int64 → Int64 → mS → Option mQ) : Nat → Int64 → Int64 → Int32 → mS → Option mQ
  | 0, _, _, _, _ => none
  | n + 1, v3, v5, v7, s => if (5 : Int32) < v7 then (k199 v3 v5 s) else (gA 6 v7 <| by_ (v5 + (s.2.1 523 v7.toNatClampNeg)) fun x11 => bx (v7 + (1 : Int32)) fun x12 => q324_175 k199 n v3 x11 x12 s)
theorem t324_175 {L : Nat} {xs : Nat → Int32} {d : Nat} {k199 : Int64 → Int64 → mS → Option mQ} (hk199 : ∀ (v3 : Int64) (v5 : Int64) (s : mS) (r : mQ), k199 v3 v5 s = some r → Ev L xs d 324 199 [(3, .long v3), (5, .long v5)] [] (hp s) (hr r)) (hd : 1 ≤ d) : ∀ (n : Nat) (v3 : Int64) (v5 : Int64) (v7 : Int32) (s : mS) (r : mQ), q324_175 k199 n v3 v5 v7 s = some r → Ev L xs d 324 175 [(0, .ref 512), (3, .long v3), (5, .long v5), (7, .int v7)] [] (hp s) (hr r) := by
  intro n
  induction n with
  | zero => intro v3 v5 v7 s r h; rw [q324_175] at h; cases h
  | succ n ih =>
    intro v3 v5 v7 s r h
    rw [q324_175] at h
    refine Ev.iload H324 i324_175 rfl ?_
    refine Ev.iconst H324 i324_177 kI_5 ?_
    refine Rd.ic_gt H324 i324_178 (t := 199) (by decide) h (fun hc h => ?_) (fun hc h => ?_)
    · exact Ev.sub (l := [(3, .long v3), (5, .long v5)]) rfl rfl (mm_sub_c rfl (mm_sub_c rfl mm_sub_n)) (hk199 _ _ _ _ h)
    · refine Ev.lload H324 i324_181 rfl ?_
      refine Ev.aload_n H324 i324_183 rfl ?_
      refine Rd.getR H324 i324_184 ob11 rfl ?_
      refine Ev.iload H324 i324_187 rfl ?_
      refine Rd.laload H324 i324_189 ar_523 h (fun h => ?_)
      refine Ev.ladd H324 i324_190 ?_
      refine Rd.lstore H324 i324_191 (Nat.le_of_ble_eq_true rfl) (lv2 := fun x11 => [(5, .long x11), (0, .ref 512), (3, .long v3), (7, .int v7)]) (fun _ => rfl) h (fun x11 h => ?_)
      refine Rd.iinc H324 i324_193 (Nat.le_of_ble_eq_true rfl) rfl kI_1 (lv2 := fun x12 => [(7, .int x12), (5, .long x11), (0, .ref 512), (3, .long v3)]) (fun _ => rfl) h (fun x12 h => ?_)
      refine Ev.goto H324 i324_196 (t := 175) (by decide) ?_
      exact Ev.sub (l := [(0, .ref 512), (3, .long v3), (5, .long x11), (7, .int x12)]) rfl rfl (mm_sub_c rfl (mm_sub_c rfl (mm_sub_c rfl (mm_sub_c rfl mm_sub_n)))) (ih _ _ _ _ _ h)
def q324_199 (v3 : Int64) (v5 : Int64) (s : mS) : Option mQ := gY v3 <| rv ((((10000 : Int64) * v5) / v3).toInt32) s
theorem t324_199 {L : Nat} {xs : Nat → Int32} {d : Nat} (hd : 1 ≤ d) {v3 : Int64} {v5 : Int64} {s : mS} {r : mQ} (h : q324_199 v3 v5 s = some r) : Ev L xs d 324 199 [(3, .long v3), (5, .long v5)] [] (hp s) (hr r) := by
  unfold q324_199 at h
  refine Ev.ldc2_w H324 i324_199 kJ_10000 ?_
  refine Ev.lload H324 i324_202 rfl ?_
  refine Ev.lmul H324 i324_204 ?_
  refine Ev.lload_n H324 i324_205 rfl ?_
  refine Rd.ldiv H324 i324_206 h (fun h => ?_)
  refine Ev.l2i H324 i324_207 ?_
  exact Rd.ireturn H324 i324_208 rfl h
def q324_169 (v2 : Int32) (v3 : Int64) (s : mS) : Option mQ := q324_175 (q324_199) 10000 v3 (0 : Int64) v2 s
theorem t324_169 {L : Nat} {xs : Nat → Int32} {d : Nat} (hd : 1 ≤ d) {v2 : Int32} {v3 : Int64} {s : mS} {r : mQ} (h : q324_169 v2 v3 s = some r) : Ev L xs d 324 169 [(0, .ref 512), (2, .int v2), (3, .long v3)] [] (hp s) (hr r) := by
  unfold q324_169 at h
  refine Ev.lconst H324 i324_169 kL_0 ?_
  refine Ev.lstore H324 i324_170 (Nat.le_of_ble_eq_true rfl) (lv2 := [(5, .long (0 : Int64)), (0, .ref 512), (2, .int v2), (3, .long v3)]) rfl ?_
  refine Ev.iload_n H324 i324_172 rfl ?_
  refine Ev.istore H324 i324_173 (Nat.le_of_ble_eq_true rfl) (lv2 := [(7, .int v2), (5, .long (0 : Int64)), (0, .ref 512), (2, .int v2), (3, .long v3)]) rfl ?_
  exact Ev.sub (l := [(0, .ref 512), (3, .long v3), (5, .long (0 : Int64)), (7, .int v2)]) rfl rfl (mm_sub_c rfl (mm_sub_c rfl (mm_sub_c rfl (mm_sub_c rfl mm_sub_n)))) (t324_175 (k199 := (q324_199)) (fun _ _ _ _ h => t324_199 hd h) hd 10000 _ _ _ _ _ h)
def q324_91 (v1 : Int32) (v2 : Int32) (v3 : Int64) (s : mS) : Option mQ := q324_94 (q324_169) 10000 v1 v2 v3 (0 : Int32) s
theorem t324_91 {L : Nat} {xs : Nat → Int32} {d : Nat} (hd : 1 ≤ d) {v1 : Int32} {v2 : Int32} {v3 : Int64} {s : mS} {r : mQ} (h : q324_91 v1 v2 v3 s = some r) : Ev L xs d 324 91 [(0, .ref 512), (1, .int v1), (2, .int v2), (3, .long v3)] [] (hp s) (hr r) := by
  unfold q324_91 at h
  refine Ev.iconst H324 i324_91 kI_0 ?_
  refine Ev.istore H324 i324_92 (Nat.le_of_ble_eq_true rfl) (lv2 := [(5, .int (0 : Int32)), (0, .ref 512), (1, .int v1), (2, .int v2), (3, .long v3)]) rfl ?_
  exact Ev.sub (l := [(0, .ref 512), (1, .int v1), (2, .int v2), (3, .long v3), (5, .int (0 : Int32))]) rfl rfl (mm_sub_c rfl (mm_sub_c rfl (mm_sub_c rfl (mm_sub_c rfl (mm_sub_c rfl mm_sub_n))))) (t324_94 (k169 := (q324_169)) (fun _ _ _ _ h => t324_169 hd h) hd 10000 _ _ _ _ _ _ h)
def q324_29 (v1 : Int32) (v2 : Int32) (y1 : Int32) (s : mS) : Option mQ := bN (q188 y1 (1 : Int32) s) fun x14 s13 => if x14 = 0 then (bN (q198 s13) fun x16 s15 => if ¬ x16 = 0 then (q324_62 (q324_91) 10000 v1 v2 (1 : Int64) (0 : Int32) s15) else (if ¬ v2 = 0 then (rv (0 : Int32) s15) else (rv (10000 : Int32) s15))) else (rv (0 : Int32) s13)
theorem t324_29 {L : Nat} {xs : Nat → Int32} {d : Nat} (hd : 1 ≤ d) {v1 : Int32} {v2 : Int32} {y1 : Int32} {s : mS} {r : mQ} (h : q324_29 v1 v2 y1 s = some r) : Ev L xs d 324 29 [(0, .ref 512), (1, .int v1), (2, .int v2)] [.int y1, .ref 512] (hp s) (hr r) := by
  unfold q324_29 at h
  refine Ev.iconst H324 i324_29 kI_1 ?_
  refine Rd.cV2vN H324 i324_30 cal188 ob11 (Nat.le_of_ble_eq_true rfl) (Nat.le_of_ble_eq_true rfl) (Nat.lt_of_lt_of_le (by decide) hd) (fun q hq => c188 hq) h (fun x14 s13 h => ?_)
  refine Rd.if_eq H324 i324_33 (t := 38) (by decide) h (fun hc h => ?_) (fun hc h => ?_)
  · refine Ev.aload_n H324 i324_38 rfl ?_
    refine Rd.cV0vN H324 i324_39 cal198 ob11 (Nat.le_of_ble_eq_true rfl) (Nat.le_of_ble_eq_true rfl) (Nat.lt_of_lt_of_le (by decide) hd) (fun q hq => c198 hq) h (fun x16 s15 h => ?_)
    refine Rd.if_ne H324 i324_42 (t := 57) (by decide) h (fun hc h => ?_) (fun hc h => ?_)
    · refine Ev.lconst H324 i324_57 kL_1 ?_
      refine Ev.lstore_n H324 i324_58 (Nat.le_of_ble_eq_true rfl) (lv2 := [(3, .long (1 : Int64)), (0, .ref 512), (1, .int v1), (2, .int v2)]) rfl ?_
      refine Ev.iconst H324 i324_59 kI_0 ?_
      refine Ev.istore H324 i324_60 (Nat.le_of_ble_eq_true rfl) (lv2 := [(5, .int (0 : Int32)), (3, .long (1 : Int64)), (0, .ref 512), (1, .int v1), (2, .int v2)]) rfl ?_
      exact Ev.sub (l := [(0, .ref 512), (1, .int v1), (2, .int v2), (3, .long (1 : Int64)), (5, .int (0 : Int32))]) rfl rfl (mm_sub_c rfl (mm_sub_c rfl (mm_sub_c rfl (mm_sub_c rfl (mm_sub_c rfl mm_sub_n))))) (t324_62 (k91 := (q324_91)) (fun _ _ _ _ _ h => t324_91 hd h) hd 10000 _ _ _ _ _ _ h)
    · refine Ev.iload_n H324 i324_45 rfl ?_
      refine Rd.if_ne H324 i324_46 (t := 55) (by decide) h (fun hc h => ?_) (fun hc h => ?_)
      · refine Ev.iconst H324 i324_55 kI_0 ?_
        exact Rd.ireturn H324 i324_56 rfl h
      · refine Ev.sipush H324 i324_49 kS_10000 ?_
        refine Ev.goto H324 i324_52 (t := 56) (by decide) ?_
        exact Rd.ireturn H324 i324_56 rfl h
  · refine Ev.iconst H324 i324_36 kI_0 ?_
    exact Rd.ireturn H324 i324_37 rfl h
def q324_24 (v1 : Int32) (v2 : Int32) (s : mS) : Option mQ := q324_29 v1 v2 (1 : Int32) s
theorem t324_24 {L : Nat} {xs : Nat → Int32} {d : Nat} (hd : 1 ≤ d) {v1 : Int32} {v2 : Int32} {s : mS} {r : mQ} (h : q324_24 v1 v2 s = some r) : Ev L xs d 324 24 [(0, .ref 512), (1, .int v1), (2, .int v2)] [.ref 512] (hp s) (hr r) := by
  unfold q324_24 at h
  refine Ev.iconst H324 i324_24 kI_1 ?_
  refine Ev.goto H324 i324_25 (t := 29) (by decide) ?_
  exact Ev.sub (l := [(0, .ref 512), (1, .int v1), (2, .int v2)]) rfl rfl (mm_sub_c rfl (mm_sub_c rfl (mm_sub_c rfl mm_sub_n))) (t324_29 hd h)
/-- SerialGateModel.odds(II)I -/
def q324 (v1 : Int32) (v2 : Int32) (s : mS) : Option mQ := sp (sI s 512 0 (0 : Int32)) fun s17 => bN (q189 v1 (0 : Int32) (5 : Int32) s17) fun x19 s18 => if x19 = 0 then (q324_24 v1 v2 s18) else (bN (q189 v2 (0 : Int32) (5 : Int32) s18) fun x21 s20 => if ¬ x21 = 0 then (q324_29 v1 v2 (0 : Int32) s20) else (q324_24 v1 v2 s20))
theorem c324 {L : Nat} {xs : Nat → Int32} {v1 : Int32} {v2 : Int32} {s : mS} {r : mQ} (h : q324 v1 v2 s = some r) : ∀ d, 1 ≤ d → Cl L xs d 324 [.ref 512, .int v1, .int v2] (hp s) (hr r) := by
  intro d hd
  show Ev L xs d 324 0 [(0, .ref 512), (1, .int v1), (2, .int v2)] [] (hp s) (hr r)
  unfold q324 at h
  refine Ev.aload_n H324 i324_0 rfl ?_
  refine Ev.iconst H324 i324_1 kI_0 ?_
  refine Rd.putI H324 i324_2 ob11 rfl ty11_0.1 ty11_0.2 h (fun s17 h => ?_)
  refine Ev.aload_n H324 i324_5 rfl ?_
  refine Ev.iload_n H324 i324_6 rfl ?_
  refine Ev.iconst H324 i324_7 kI_0 ?_
  refine Ev.iconst H324 i324_8 kI_5 ?_
  refine Rd.cS3vN H324 i324_9 cal189 (Nat.le_of_ble_eq_true rfl) (Nat.le_of_ble_eq_true rfl) (Nat.lt_of_lt_of_le (by decide) hd) (fun q hq => c189 hq) h (fun x19 s18 h => ?_)
  refine Rd.if_eq H324 i324_12 (t := 24) (by decide) h (fun hc h => ?_) (fun hc h => ?_)
  · exact Ev.sub (l := [(0, .ref 512), (1, .int v1), (2, .int v2)]) rfl rfl (mm_sub_c rfl (mm_sub_c rfl (mm_sub_c rfl mm_sub_n))) (t324_24 hd h)
  · refine Ev.iload_n H324 i324_15 rfl ?_
    refine Ev.iconst H324 i324_16 kI_0 ?_
    refine Ev.iconst H324 i324_17 kI_5 ?_
    refine Rd.cS3vN H324 i324_18 cal189 (Nat.le_of_ble_eq_true rfl) (Nat.le_of_ble_eq_true rfl) (Nat.lt_of_lt_of_le (by decide) hd) (fun q hq => c189 hq) h (fun x21 s20 h => ?_)
    refine Rd.if_ne H324 i324_21 (t := 28) (by decide) h (fun hc h => ?_) (fun hc h => ?_)
    · refine Ev.iconst H324 i324_28 kI_0 ?_
      exact Ev.sub (l := [(0, .ref 512), (1, .int v1), (2, .int v2)]) rfl rfl (mm_sub_c rfl (mm_sub_c rfl (mm_sub_c rfl mm_sub_n))) (t324_29 hd h)
    · exact Ev.sub (l := [(0, .ref 512), (1, .int v1), (2, .int v2)]) rfl rfl (mm_sub_c rfl (mm_sub_c rfl (mm_sub_c rfl mm_sub_n))) (t324_24 hd h)
theorem i325_0 : mm_cd 325 0 = some (.iload_n 1, 1, 0, 0) := rfl
theorem i325_1 : mm_cd 325 1 = some (.ifCond .ne 12, 3, 0, 0) := rfl
theorem i325_4 : mm_cd 325 4 = some (.aload_n 0, 1, 0, 0) := rfl
theorem i325_5 : mm_cd 325 5 = some (.iload_n 2, 1, 0, 0) := rfl
theorem i325_6 : mm_cd 325 6 = some (.iconst 4, 1, 0, 0) := rfl
theorem i325_7 : mm_cd 325 7 = some (.invokevirtual 72, 3, 0, 202) := rfl
theorem i325_10 : mm_cd 325 10 = some (.goto 25, 3, 0, 0) := rfl
theorem i325_13 : mm_cd 325 13 = some (.iload_n 1, 1, 0, 0) := rfl
theorem i325_14 : mm_cd 325 14 = some (.iconst 1, 1, 0, 0) := rfl
theorem i325_15 : mm_cd 325 15 = some (.if_icmp .ne 12, 3, 0, 0) := rfl
theorem i325_18 : mm_cd 325 18 = some (.aload_n 0, 1, 0, 0) := rfl
theorem i325_19 : mm_cd 325 19 = some (.iload_n 2, 1, 0, 0) := rfl
theorem i325_20 : mm_cd 325 20 = some (.iconst 3, 1, 0, 0) := rfl
theorem i325_21 : mm_cd 325 21 = some (.invokevirtual 72, 3, 0, 202) := rfl
theorem i325_24 : mm_cd 325 24 = some (.goto 11, 3, 0, 0) := rfl
theorem i325_27 : mm_cd 325 27 = some (.aload_n 0, 1, 0, 0) := rfl
theorem i325_28 : mm_cd 325 28 = some (.iload_n 2, 1, 0, 0) := rfl
theorem i325_29 : mm_cd 325 29 = some (.invokevirtual 423, 3, 0, 301) := rfl
theorem i325_32 : mm_cd 325 32 = some (.invokestatic 258, 3, 0, 343) := rfl
theorem i325_35 : mm_cd 325 35 = some (.ireturn, 1, 0, 0) := rfl
/-- SerialGateModel.amountOf(II)I -/
def q325 (v1 : Int32) (v2 : Int32) (s : mS) : Option mQ := if ¬ v1 = 0 then (if ¬ v1 = (1 : Int32) then (bN (q301 v2 s) fun x2 s1 => bN (q343 x2 s1) fun x4 s3 => rv x4 s3) else (bN (q202 v2 (3 : Int32) s) fun x6 s5 => rv x6 s5)) else (bN (q202 v2 (4 : Int32) s) fun x8 s7 => rv x8 s7)
theorem c325 {L : Nat} {xs : Nat → Int32} {v1 : Int32} {v2 : Int32} {s : mS} {r : mQ} (h : q325 v1 v2 s = some r) : ∀ d, 3 ≤ d → Cl L xs d 325 [.ref 512, .int v1, .int v2] (hp s) (hr r) := by
  intro d hd
  show Ev L xs d 325 0 [(0, .ref 512), (1, .int v1), (2, .int v2)] [] (hp s) (hr r)
  unfold q325 at h
  refine Ev.iload_n H325 i325_0 rfl ?_
  refine Rd.if_ne H325 i325_1 (t := 13) (by decide) h (fun hc h => ?_) (fun hc h => ?_)
  · refine Ev.iload_n H325 i325_13 rfl ?_
    refine Ev.iconst H325 i325_14 kI_1 ?_
    refine Rd.ic_ne H325 i325_15 (t := 27) (by decide) h (fun hc h => ?_) (fun hc h => ?_)
    · refine Ev.aload_n H325 i325_27 rfl ?_
      refine Ev.iload_n H325 i325_28 rfl ?_
      refine Rd.cV1vN H325 i325_29 cal301 ob11 (Nat.le_of_ble_eq_true rfl) (Nat.le_of_ble_eq_true rfl) (Nat.lt_of_lt_of_le (by decide) hd) (fun q hq => c301 hq) h (fun x2 s1 h => ?_)
      refine Rd.cS1vN H325 i325_32 cal343 (Nat.le_of_ble_eq_true rfl) (Nat.le_of_ble_eq_true rfl) (Nat.lt_of_lt_of_le (by decide) hd) (fun q hq => c343 hq) h (fun x4 s3 h => ?_)
      exact Rd.ireturn H325 i325_35 rfl h
    · refine Ev.aload_n H325 i325_18 rfl ?_
      refine Ev.iload_n H325 i325_19 rfl ?_
      refine Ev.iconst H325 i325_20 kI_3 ?_
      refine Rd.cV2vN H325 i325_21 cal202 ob11 (Nat.le_of_ble_eq_true rfl) (Nat.le_of_ble_eq_true rfl) (Nat.lt_of_lt_of_le (by decide) hd) (fun q hq => c202 hq) h (fun x6 s5 h => ?_)
      refine Ev.goto H325 i325_24 (t := 35) (by decide) ?_
      exact Rd.ireturn H325 i325_35 rfl h
  · refine Ev.aload_n H325 i325_4 rfl ?_
    refine Ev.iload_n H325 i325_5 rfl ?_
    refine Ev.iconst H325 i325_6 kI_4 ?_
    refine Rd.cV2vN H325 i325_7 cal202 ob11 (Nat.le_of_ble_eq_true rfl) (Nat.le_of_ble_eq_true rfl) (Nat.lt_of_lt_of_le (by decide) hd) (fun q hq => c202 hq) h (fun x8 s7 h => ?_)
    refine Ev.goto H325 i325_10 (t := 35) (by decide) ?_
    exact Rd.ireturn H325 i325_35 rfl h
theorem i326_0 : mm_cd 326 0 = some (.aload_n 0, 1, 0, 0) := rfl
theorem i326_1 : mm_cd 326 1 = some (.iconst 0, 1, 0, 0) := rfl
theorem i326_2 : mm_cd 326 2 = some (.putfield 3, 3, ((11 : Nat) : Int), 0) := rfl
theorem i326_5 : mm_cd 326 5 = some (.aload_n 0, 1, 0, 0) := rfl
theorem i326_6 : mm_cd 326 6 = some (.iload_n 1, 1, 0, 0) := rfl
theorem i326_7 : mm_cd 326 7 = some (.iconst 0, 1, 0, 0) := rfl
theorem i326_8 : mm_cd 326 8 = some (.iconst 2, 1, 0, 0) := rfl
theorem i326_9 : mm_cd 326 9 = some (.invokestatic 371, 3, 0, 189) := rfl
theorem i326_12 : mm_cd 326 12 = some (.ifCond .ne 7, 3, 0, 0) := rfl
theorem i326_15 : mm_cd 326 15 = some (.iconst 1, 1, 0, 0) := rfl
theorem i326_16 : mm_cd 326 16 = some (.goto 4, 3, 0, 0) := rfl
theorem i326_19 : mm_cd 326 19 = some (.iconst 0, 1, 0, 0) := rfl
theorem i326_20 : mm_cd 326 20 = some (.iconst 1, 1, 0, 0) := rfl
theorem i326_21 : mm_cd 326 21 = some (.invokevirtual 249, 3, 0, 188) := rfl
theorem i326_24 : mm_cd 326 24 = some (.ifCond .eq 5, 3, 0, 0) := rfl
theorem i326_27 : mm_cd 326 27 = some (.iconst 0, 1, 0, 0) := rfl
theorem i326_28 : mm_cd 326 28 = some (.ireturn, 1, 0, 0) := rfl
theorem i326_29 : mm_cd 326 29 = some (.iconst (-1), 1, 0, 0) := rfl
theorem i326_30 : mm_cd 326 30 = some (.istore_n 2, 1, 0, 0) := rfl
theorem i326_31 : mm_cd 326 31 = some (.iconst 0, 1, 0, 0) := rfl
theorem i326_32 : mm_cd 326 32 = some (.istore_n 3, 1, 0, 0) := rfl
theorem i326_33 : mm_cd 326 33 = some (.iload_n 3, 1, 0, 0) := rfl
theorem i326_34 : mm_cd 326 34 = some (.aload_n 0, 1, 0, 0) := rfl
theorem i326_35 : mm_cd 326 35 = some (.invokevirtual 129, 3, 0, 198) := rfl
theorem i326_38 : mm_cd 326 38 = some (.if_icmp .ge 35, 3, 0, 0) := rfl
theorem i326_41 : mm_cd 326 41 = some (.iload_n 2, 1, 0, 0) := rfl
theorem i326_42 : mm_cd 326 42 = some (.iconst (-1), 1, 0, 0) := rfl
theorem i326_43 : mm_cd 326 43 = some (.if_icmp .eq 18, 3, 0, 0) := rfl
theorem i326_46 : mm_cd 326 46 = some (.aload_n 0, 1, 0, 0) := rfl
theorem i326_47 : mm_cd 326 47 = some (.iload_n 1, 1, 0, 0) := rfl
theorem i326_48 : mm_cd 326 48 = some (.iload_n 3, 1, 0, 0) := rfl
theorem i326_49 : mm_cd 326 49 = some (.invokevirtual 469, 3, 0, 325) := rfl
theorem i326_52 : mm_cd 326 52 = some (.aload_n 0, 1, 0, 0) := rfl
theorem i326_53 : mm_cd 326 53 = some (.iload_n 1, 1, 0, 0) := rfl
theorem i326_54 : mm_cd 326 54 = some (.iload_n 2, 1, 0, 0) := rfl
theorem i326_55 : mm_cd 326 55 = some (.invokevirtual 469, 3, 0, 325) := rfl
theorem i326_58 : mm_cd 326 58 = some (.if_icmp .le 7, 3, 0, 0) := rfl
theorem i326_61 : mm_cd 326 61 = some (.iload_n 3, 1, 0, 0) := rfl
theorem i326_62 : mm_cd 326 62 = some (.goto 4, 3, 0, 0) := rfl
theorem i326_65 : mm_cd 326 65 = some (.iload_n 2, 1, 0, 0) := rfl
theorem i326_66 : mm_cd 326 66 = some (.istore_n 2, 1, 0, 0) := rfl
theorem i326_67 : mm_cd 326 67 = some (.iinc 3 1, 3, 0, 0) := rfl
theorem i326_70 : mm_cd 326 70 = some (.goto (-37), 3, 0, 0) := rfl
theorem i326_73 : mm_cd 326 73 = some (.iload_n 2, 1, 0, 0) := rfl
theorem i326_74 : mm_cd 326 74 = some (.ireturn, 1, 0, 0) := rfl
def q326_66 (k33 : Int32 → Int32 → Int32 → mS → Option mQ) (v1 : Int32) (v3 : Int32) (y0 : Int32) (s : mS) : Option mQ := bx (v3 + (1 : Int32)) fun x1 => k33 v1 y0 x1 s
theorem t326_66 {L : Nat} {xs : Nat → Int32} {d : Nat} {k33 : Int32 → Int32 → Int32 → mS → Option mQ} (hk33 : ∀ (v1 : Int32) (v2 : Int32) (v3 : Int32) (s : mS) (r : mQ), k33 v1 v2 v3 s = some r → Ev L xs d 326 33 [(0, .ref 512), (1, .int v1), (2, .int v2), (3, .int v3)] [] (hp s) (hr r)) (hd : 4 ≤ d) {v1 : Int32} {v3 : Int32} {y0 : Int32} {s : mS} {r : mQ} (h : q326_66 k33 v1 v3 y0 s = some r) : Ev L xs d 326 66 [(0, .ref 512), (1, .int v1), (3, .int v3)] [.int y0] (hp s) (hr r) := by
  unfold q326_66 at h
  refine Ev.istore_n H326 i326_66 (Nat.le_of_ble_eq_true rfl) (lv2 := [(2, .int y0), (0, .ref 512), (1, .int v1), (3, .int v3)]) rfl ?_
  refine Rd.iinc H326 i326_67 (Nat.le_of_ble_eq_true rfl) rfl kI_1 (lv2 := fun x1 => [(3, .int x1), (2, .int y0), (0, .ref 512), (1, .int v1)]) (fun _ => rfl) h (fun x1 h => ?_)
  refine Ev.goto H326 i326_70 (t := 33) (by decide) ?_
  exact Ev.sub (l := [(0, .ref 512), (1, .int v1), (2, .int y0), (3, .int x1)]) rfl rfl (mm_sub_c rfl (mm_sub_c rfl (mm_sub_c rfl (mm_sub_c rfl mm_sub_n)))) (hk33 _ _ _ _ _ h)
def q326_61 (k33 : Int32 → Int32 → Int32 → mS → Option mQ) (v1 : Int32) (v3 : Int32) (s : mS) : Option mQ := q326_66 k33 v1 v3 v3 s
theorem t326_61 {L : Nat} {xs : Nat → Int32} {d : Nat} {k33 : Int32 → Int32 → Int32 → mS → Option mQ} (hk33 : ∀ (v1 : Int32) (v2 : Int32) (v3 : Int32) (s : mS) (r : mQ), k33 v1 v2 v3 s = some r → Ev L xs d 326 33 [(0, .ref 512), (1, .int v1), (2, .int v2), (3, .int v3)] [] (hp s) (hr r)) (hd : 4 ≤ d) {v1 : Int32} {v3 : Int32} {s : mS} {r : mQ} (h : q326_61 k33 v1 v3 s = some r) : Ev L xs d 326 61 [(0, .ref 512), (1, .int v1), (3, .int v3)] [] (hp s) (hr r) := by
  unfold q326_61 at h
  refine Ev.iload_n H326 i326_61 rfl ?_
  refine Ev.goto H326 i326_62 (t := 66) (by decide) ?_
  exact Ev.sub (l := [(0, .ref 512), (1, .int v1), (3, .int v3)]) rfl rfl (mm_sub_c rfl (mm_sub_c rfl (mm_sub_c rfl mm_sub_n))) (t326_66 (k33 := k33) hk33 hd h)
def q326_33 : Nat → Int32 → Int32 → Int32 → mS → Option mQ
  | 0, _, _, _, _ => none
  | n + 1, v1, v2, v3, s => bN (q198 s) fun x3 s2 => if x3 ≤ v3 then (rv v2 s2) else (if v2 = (-1 : Int32) then (q326_61 (q326_33 n) v1 v3 s2) else (bN (q325 v1 v3 s2) fun x5 s4 => bN (q325 v1 v2 s4) fun x7 s6 => if x5 ≤ x7 then (q326_66 (q326_33 n) v1 v3 v2 s6) else (q326_61 (q326_33 n) v1 v3 s6)))
theorem t326_33 {L : Nat} {xs : Nat → Int32} {d : Nat} (hd : 4 ≤ d) : ∀ (n : Nat) (v1 : Int32) (v2 : Int32) (v3 : Int32) (s : mS) (r : mQ), q326_33 n v1 v2 v3 s = some r → Ev L xs d 326 33 [(0, .ref 512), (1, .int v1), (2, .int v2), (3, .int v3)] [] (hp s) (hr r) := by
  intro n
  induction n with
  | zero => intro v1 v2 v3 s r h; rw [q326_33] at h; cases h
  | succ n ih =>
    intro v1 v2 v3 s r h
    rw [q326_33] at h
    refine Ev.iload_n H326 i326_33 rfl ?_
    refine Ev.aload_n H326 i326_34 rfl ?_
    refine Rd.cV0vN H326 i326_35 cal198 ob11 (Nat.le_of_ble_eq_true rfl) (Nat.le_of_ble_eq_true rfl) (Nat.lt_of_lt_of_le (by decide) hd) (fun q hq => c198 hq) h (fun x3 s2 h => ?_)
    refine Rd.ic_ge H326 i326_38 (t := 73) (by decide) h (fun hc h => ?_) (fun hc h => ?_)
    · refine Ev.iload_n H326 i326_73 rfl ?_
      exact Rd.ireturn H326 i326_74 rfl h
    · refine Ev.iload_n H326 i326_41 rfl ?_
      refine Ev.iconst H326 i326_42 kI_m1 ?_
      refine Rd.ic_eq H326 i326_43 (t := 61) (by decide) h (fun hc h => ?_) (fun hc h => ?_)
      · exact Ev.sub (l := [(0, .ref 512), (1, .int v1), (3, .int v3)]) rfl rfl (mm_sub_c rfl (mm_sub_c rfl (mm_sub_c rfl mm_sub_n))) (t326_61 (k33 := (q326_33 n)) (fun _ _ _ _ _ h => ih _ _ _ _ _ h) hd h)
      · refine Ev.aload_n H326 i326_46 rfl ?_
        refine Ev.iload_n H326 i326_47 rfl ?_
        refine Ev.iload_n H326 i326_48 rfl ?_
        refine Rd.cV2vN H326 i326_49 cal325 ob11 (Nat.le_of_ble_eq_true rfl) (Nat.le_of_ble_eq_true rfl) (Nat.lt_of_lt_of_le (by decide) hd) (fun q hq => c325 hq) h (fun x5 s4 h => ?_)
        refine Ev.aload_n H326 i326_52 rfl ?_
        refine Ev.iload_n H326 i326_53 rfl ?_
        refine Ev.iload_n H326 i326_54 rfl ?_
        refine Rd.cV2vN H326 i326_55 cal325 ob11 (Nat.le_of_ble_eq_true rfl) (Nat.le_of_ble_eq_true rfl) (Nat.lt_of_lt_of_le (by decide) hd) (fun q hq => c325 hq) h (fun x7 s6 h => ?_)
        refine Rd.ic_le H326 i326_58 (t := 65) (by decide) h (fun hc h => ?_) (fun hc h => ?_)
        · refine Ev.iload_n H326 i326_65 rfl ?_
          exact Ev.sub (l := [(0, .ref 512), (1, .int v1), (3, .int v3)]) rfl rfl (mm_sub_c rfl (mm_sub_c rfl (mm_sub_c rfl mm_sub_n))) (t326_66 (k33 := (q326_33 n)) (fun _ _ _ _ _ h => ih _ _ _ _ _ h) hd h)
        · exact Ev.sub (l := [(0, .ref 512), (1, .int v1), (3, .int v3)]) rfl rfl (mm_sub_c rfl (mm_sub_c rfl (mm_sub_c rfl mm_sub_n))) (t326_61 (k33 := (q326_33 n)) (fun _ _ _ _ _ h => ih _ _ _ _ _ h) hd h)
def q326_20 (v1 : Int32) (y1 : Int32) (s : mS) : Option mQ := bN (q188 y1 (1 : Int32) s) fun x9 s8 => if x9 = 0 then (q326_33 10000 v1 (-1 : Int32) (0 : Int32) s8) else (rv (0 : Int32) s8)
theorem t326_20 {L : Nat} {xs : Nat → Int32} {d : Nat} (hd : 4 ≤ d) {v1 : Int32} {y1 : Int32} {s : mS} {r : mQ} (h : q326_20 v1 y1 s = some r) : Ev L xs d 326 20 [(0, .ref 512), (1, .int v1)] [.int y1, .ref 512] (hp s) (hr r) := by
  unfold q326_20 at h
  refine Ev.iconst H326 i326_20 kI_1 ?_
  refine Rd.cV2vN H326 i326_21 cal188 ob11 (Nat.le_of_ble_eq_true rfl) (Nat.le_of_ble_eq_true rfl) (Nat.lt_of_lt_of_le (by decide) hd) (fun q hq => c188 hq) h (fun x9 s8 h => ?_)
  refine Rd.if_eq H326 i326_24 (t := 29) (by decide) h (fun hc h => ?_) (fun hc h => ?_)
  · refine Ev.iconst H326 i326_29 kI_m1 ?_
    refine Ev.istore_n H326 i326_30 (Nat.le_of_ble_eq_true rfl) (lv2 := [(2, .int (-1 : Int32)), (0, .ref 512), (1, .int v1)]) rfl ?_
    refine Ev.iconst H326 i326_31 kI_0 ?_
    refine Ev.istore_n H326 i326_32 (Nat.le_of_ble_eq_true rfl) (lv2 := [(3, .int (0 : Int32)), (2, .int (-1 : Int32)), (0, .ref 512), (1, .int v1)]) rfl ?_
    exact Ev.sub (l := [(0, .ref 512), (1, .int v1), (2, .int (-1 : Int32)), (3, .int (0 : Int32))]) rfl rfl (mm_sub_c rfl (mm_sub_c rfl (mm_sub_c rfl (mm_sub_c rfl mm_sub_n)))) (t326_33 hd 10000 _ _ _ _ _ h)
  · refine Ev.iconst H326 i326_27 kI_0 ?_
    exact Rd.ireturn H326 i326_28 rfl h
/-- SerialGateModel.most(I)I -/
def q326 (v1 : Int32) (s : mS) : Option mQ := sp (sI s 512 0 (0 : Int32)) fun s10 => bN (q189 v1 (0 : Int32) (2 : Int32) s10) fun x12 s11 => if ¬ x12 = 0 then (q326_20 v1 (0 : Int32) s11) else (q326_20 v1 (1 : Int32) s11)
theorem c326 {L : Nat} {xs : Nat → Int32} {v1 : Int32} {s : mS} {r : mQ} (h : q326 v1 s = some r) : ∀ d, 4 ≤ d → Cl L xs d 326 [.ref 512, .int v1] (hp s) (hr r) := by
  intro d hd
  show Ev L xs d 326 0 [(0, .ref 512), (1, .int v1)] [] (hp s) (hr r)
  unfold q326 at h
  refine Ev.aload_n H326 i326_0 rfl ?_
  refine Ev.iconst H326 i326_1 kI_0 ?_
  refine Rd.putI H326 i326_2 ob11 rfl ty11_0.1 ty11_0.2 h (fun s10 h => ?_)
  refine Ev.aload_n H326 i326_5 rfl ?_
  refine Ev.iload_n H326 i326_6 rfl ?_
  refine Ev.iconst H326 i326_7 kI_0 ?_
  refine Ev.iconst H326 i326_8 kI_2 ?_
  refine Rd.cS3vN H326 i326_9 cal189 (Nat.le_of_ble_eq_true rfl) (Nat.le_of_ble_eq_true rfl) (Nat.lt_of_lt_of_le (by decide) hd) (fun q hq => c189 hq) h (fun x12 s11 h => ?_)
  refine Rd.if_ne H326 i326_12 (t := 19) (by decide) h (fun hc h => ?_) (fun hc h => ?_)
  · refine Ev.iconst H326 i326_19 kI_0 ?_
    exact Ev.sub (l := [(0, .ref 512), (1, .int v1)]) rfl rfl (mm_sub_c rfl (mm_sub_c rfl mm_sub_n)) (t326_20 hd h)
  · refine Ev.iconst H326 i326_15 kI_1 ?_
    refine Ev.goto H326 i326_16 (t := 20) (by decide) ?_
    exact Ev.sub (l := [(0, .ref 512), (1, .int v1)]) rfl rfl (mm_sub_c rfl (mm_sub_c rfl mm_sub_n)) (t326_20 hd h)
theorem i327_0 : mm_cd 327 0 = some (.aload_n 0, 1, 0, 0) := rfl
theorem i327_1 : mm_cd 327 1 = some (.iconst 0, 1, 0, 0) := rfl
theorem i327_2 : mm_cd 327 2 = some (.putfield 3, 3, ((11 : Nat) : Int), 0) := rfl
theorem i327_5 : mm_cd 327 5 = some (.aload_n 0, 1, 0, 0) := rfl
theorem i327_6 : mm_cd 327 6 = some (.iconst 1, 1, 0, 0) := rfl
theorem i327_7 : mm_cd 327 7 = some (.invokevirtual 313, 3, 0, 208) := rfl
theorem i327_10 : mm_cd 327 10 = some (.ireturn, 1, 0, 0) := rfl
/-- SerialGateModel.running()I -/
def q327 (s : mS) : Option mQ := sp (sI s 512 0 (0 : Int32)) fun s1 => bN (q208 (1 : Int32) s1) fun x3 s2 => rv x3 s2
theorem c327 {L : Nat} {xs : Nat → Int32} {s : mS} {r : mQ} (h : q327 s = some r) : ∀ d, 3 ≤ d → Cl L xs d 327 [.ref 512] (hp s) (hr r) := by
  intro d hd
  show Ev L xs d 327 0 [(0, .ref 512)] [] (hp s) (hr r)
  unfold q327 at h
  refine Ev.aload_n H327 i327_0 rfl ?_
  refine Ev.iconst H327 i327_1 kI_0 ?_
  refine Rd.putI H327 i327_2 ob11 rfl ty11_0.1 ty11_0.2 h (fun s1 h => ?_)
  refine Ev.aload_n H327 i327_5 rfl ?_
  refine Ev.iconst H327 i327_6 kI_1 ?_
  refine Rd.cV1vN H327 i327_7 cal208 ob11 (Nat.le_of_ble_eq_true rfl) (Nat.le_of_ble_eq_true rfl) (Nat.lt_of_lt_of_le (by decide) hd) (fun q hq => c208 hq) h (fun x3 s2 h => ?_)
  exact Rd.ireturn H327 i327_10 rfl h
theorem i328_0 : mm_cd 328 0 = some (.aload_n 0, 1, 0, 0) := rfl
theorem i328_1 : mm_cd 328 1 = some (.iconst 0, 1, 0, 0) := rfl
theorem i328_2 : mm_cd 328 2 = some (.putfield 3, 3, ((11 : Nat) : Int), 0) := rfl
theorem i328_5 : mm_cd 328 5 = some (.aload_n 0, 1, 0, 0) := rfl
theorem i328_6 : mm_cd 328 6 = some (.iconst 2, 1, 0, 0) := rfl
theorem i328_7 : mm_cd 328 7 = some (.invokevirtual 313, 3, 0, 208) := rfl
theorem i328_10 : mm_cd 328 10 = some (.ireturn, 1, 0, 0) := rfl
/-- SerialGateModel.finished()I -/
def q328 (s : mS) : Option mQ := sp (sI s 512 0 (0 : Int32)) fun s1 => bN (q208 (2 : Int32) s1) fun x3 s2 => rv x3 s2
theorem c328 {L : Nat} {xs : Nat → Int32} {s : mS} {r : mQ} (h : q328 s = some r) : ∀ d, 3 ≤ d → Cl L xs d 328 [.ref 512] (hp s) (hr r) := by
  intro d hd
  show Ev L xs d 328 0 [(0, .ref 512)] [] (hp s) (hr r)
  unfold q328 at h
  refine Ev.aload_n H328 i328_0 rfl ?_
  refine Ev.iconst H328 i328_1 kI_0 ?_
  refine Rd.putI H328 i328_2 ob11 rfl ty11_0.1 ty11_0.2 h (fun s1 h => ?_)
  refine Ev.aload_n H328 i328_5 rfl ?_
  refine Ev.iconst H328 i328_6 kI_2 ?_
  refine Rd.cV1vN H328 i328_7 cal208 ob11 (Nat.le_of_ble_eq_true rfl) (Nat.le_of_ble_eq_true rfl) (Nat.lt_of_lt_of_le (by decide) hd) (fun q hq => c208 hq) h (fun x3 s2 h => ?_)
  exact Rd.ireturn H328 i328_10 rfl h
theorem i329_0 : mm_cd 329 0 = some (.iconst 0, 1, 0, 0) := rfl
theorem i329_1 : mm_cd 329 1 = some (.istore_n 2, 1, 0, 0) := rfl
theorem i329_2 : mm_cd 329 2 = some (.iconst 0, 1, 0, 0) := rfl
theorem i329_3 : mm_cd 329 3 = some (.istore_n 3, 1, 0, 0) := rfl
theorem i329_4 : mm_cd 329 4 = some (.iload_n 3, 1, 0, 0) := rfl
theorem i329_5 : mm_cd 329 5 = some (.aload_n 0, 1, 0, 0) := rfl
theorem i329_6 : mm_cd 329 6 = some (.invokevirtual 129, 3, 0, 198) := rfl
theorem i329_9 : mm_cd 329 9 = some (.if_icmp .ge 21, 3, 0, 0) := rfl
theorem i329_12 : mm_cd 329 12 = some (.iload_n 2, 1, 0, 0) := rfl
theorem i329_13 : mm_cd 329 13 = some (.aload_n 0, 1, 0, 0) := rfl
theorem i329_14 : mm_cd 329 14 = some (.iload_n 3, 1, 0, 0) := rfl
theorem i329_15 : mm_cd 329 15 = some (.invokevirtual 423, 3, 0, 301) := rfl
theorem i329_18 : mm_cd 329 18 = some (.iload_n 1, 1, 0, 0) := rfl
theorem i329_19 : mm_cd 329 19 = some (.ishr, 1, 0, 0) := rfl
theorem i329_20 : mm_cd 329 20 = some (.iconst 1, 1, 0, 0) := rfl
theorem i329_21 : mm_cd 329 21 = some (.iand, 1, 0, 0) := rfl
theorem i329_22 : mm_cd 329 22 = some (.iadd, 1, 0, 0) := rfl
theorem i329_23 : mm_cd 329 23 = some (.istore_n 2, 1, 0, 0) := rfl
theorem i329_24 : mm_cd 329 24 = some (.iinc 3 1, 3, 0, 0) := rfl
theorem i329_27 : mm_cd 329 27 = some (.goto (-23), 3, 0, 0) := rfl
theorem i329_30 : mm_cd 329 30 = some (.iload_n 2, 1, 0, 0) := rfl
theorem i329_31 : mm_cd 329 31 = some (.ireturn, 1, 0, 0) := rfl
def q329_4 : Nat → Int32 → Int32 → Int32 → mS → Option mQ
  | 0, _, _, _, _ => none
  | n + 1, v1, v2, v3, s => bN (q198 s) fun x2 s1 => if x2 ≤ v3 then (rv v2 s1) else (bN (q301 v3 s1) fun x4 s3 => bx (v2 + ((shrI x4 v1) &&& (1 : Int32))) fun x5 => bx (v3 + (1 : Int32)) fun x6 => q329_4 n v1 x5 x6 s3)
theorem t329_4 {L : Nat} {xs : Nat → Int32} {d : Nat} (hd : 3 ≤ d) : ∀ (n : Nat) (v1 : Int32) (v2 : Int32) (v3 : Int32) (s : mS) (r : mQ), q329_4 n v1 v2 v3 s = some r → Ev L xs d 329 4 [(0, .ref 512), (1, .int v1), (2, .int v2), (3, .int v3)] [] (hp s) (hr r) := by
  intro n
  induction n with
  | zero => intro v1 v2 v3 s r h; rw [q329_4] at h; cases h
  | succ n ih =>
    intro v1 v2 v3 s r h
    rw [q329_4] at h
    refine Ev.iload_n H329 i329_4 rfl ?_
    refine Ev.aload_n H329 i329_5 rfl ?_
    refine Rd.cV0vN H329 i329_6 cal198 ob11 (Nat.le_of_ble_eq_true rfl) (Nat.le_of_ble_eq_true rfl) (Nat.lt_of_lt_of_le (by decide) hd) (fun q hq => c198 hq) h (fun x2 s1 h => ?_)
    refine Rd.ic_ge H329 i329_9 (t := 30) (by decide) h (fun hc h => ?_) (fun hc h => ?_)
    · refine Ev.iload_n H329 i329_30 rfl ?_
      exact Rd.ireturn H329 i329_31 rfl h
    · refine Ev.iload_n H329 i329_12 rfl ?_
      refine Ev.aload_n H329 i329_13 rfl ?_
      refine Ev.iload_n H329 i329_14 rfl ?_
      refine Rd.cV1vN H329 i329_15 cal301 ob11 (Nat.le_of_ble_eq_true rfl) (Nat.le_of_ble_eq_true rfl) (Nat.lt_of_lt_of_le (by decide) hd) (fun q hq => c301 hq) h (fun x4 s3 h => ?_)
      refine Ev.iload_n H329 i329_18 rfl ?_
      refine Rd.ishr H329 i329_19 ?_
      refine Ev.iconst H329 i329_20 kI_1 ?_
      refine Ev.iand H329 i329_21 ?_
      refine Ev.iadd H329 i329_22 ?_
      refine Rd.istore_n H329 i329_23 (Nat.le_of_ble_eq_true rfl) (lv2 := fun x5 => [(2, .int x5), (0, .ref 512), (1, .int v1), (3, .int v3)]) (fun _ => rfl) h (fun x5 h => ?_)
      refine Rd.iinc H329 i329_24 (Nat.le_of_ble_eq_true rfl) rfl kI_1 (lv2 := fun x6 => [(3, .int x6), (2, .int x5), (0, .ref 512), (1, .int v1)]) (fun _ => rfl) h (fun x6 h => ?_)
      refine Ev.goto H329 i329_27 (t := 4) (by decide) ?_
      exact Ev.sub (l := [(0, .ref 512), (1, .int v1), (2, .int x5), (3, .int x6)]) rfl rfl (mm_sub_c rfl (mm_sub_c rfl (mm_sub_c rfl (mm_sub_c rfl mm_sub_n)))) (ih _ _ _ _ _ h)
/-- SerialGateModel.usersOf(I)I -/
def q329 (v1 : Int32) (s : mS) : Option mQ := q329_4 10000 v1 (0 : Int32) (0 : Int32) s
theorem c329 {L : Nat} {xs : Nat → Int32} {v1 : Int32} {s : mS} {r : mQ} (h : q329 v1 s = some r) : ∀ d, 3 ≤ d → Cl L xs d 329 [.ref 512, .int v1] (hp s) (hr r) := by
  intro d hd
  show Ev L xs d 329 0 [(0, .ref 512), (1, .int v1)] [] (hp s) (hr r)
  unfold q329 at h
  refine Ev.iconst H329 i329_0 kI_0 ?_
  refine Ev.istore_n H329 i329_1 (Nat.le_of_ble_eq_true rfl) (lv2 := [(2, .int (0 : Int32)), (0, .ref 512), (1, .int v1)]) rfl ?_
  refine Ev.iconst H329 i329_2 kI_0 ?_
  refine Ev.istore_n H329 i329_3 (Nat.le_of_ble_eq_true rfl) (lv2 := [(3, .int (0 : Int32)), (2, .int (0 : Int32)), (0, .ref 512), (1, .int v1)]) rfl ?_
  exact Ev.sub (l := [(0, .ref 512), (1, .int v1), (2, .int (0 : Int32)), (3, .int (0 : Int32))]) rfl rfl (mm_sub_c rfl (mm_sub_c rfl (mm_sub_c rfl (mm_sub_c rfl mm_sub_n)))) (t329_4 hd 10000 _ _ _ _ _ h)
theorem i330_0 : mm_cd 330 0 = some (.aload_n 0, 1, 0, 0) := rfl
theorem i330_1 : mm_cd 330 1 = some (.iconst 0, 1, 0, 0) := rfl
theorem i330_2 : mm_cd 330 2 = some (.putfield 3, 3, ((11 : Nat) : Int), 0) := rfl
theorem i330_5 : mm_cd 330 5 = some (.iconst 0, 1, 0, 0) := rfl
theorem i330_6 : mm_cd 330 6 = some (.istore_n 1, 1, 0, 0) := rfl
theorem i330_7 : mm_cd 330 7 = some (.iconst 1, 1, 0, 0) := rfl
theorem i330_8 : mm_cd 330 8 = some (.istore_n 2, 1, 0, 0) := rfl
theorem i330_9 : mm_cd 330 9 = some (.iload_n 2, 1, 0, 0) := rfl
theorem i330_10 : mm_cd 330 10 = some (.bipush 10, 2, 0, 0) := rfl
theorem i330_12 : mm_cd 330 12 = some (.if_icmp .ge 28, 3, 0, 0) := rfl
theorem i330_15 : mm_cd 330 15 = some (.aload_n 0, 1, 0, 0) := rfl
theorem i330_16 : mm_cd 330 16 = some (.iload_n 2, 1, 0, 0) := rfl
theorem i330_17 : mm_cd 330 17 = some (.invokevirtual 472, 3, 0, 329) := rfl
theorem i330_20 : mm_cd 330 20 = some (.aload_n 0, 1, 0, 0) := rfl
theorem i330_21 : mm_cd 330 21 = some (.iload_n 1, 1, 0, 0) := rfl
theorem i330_22 : mm_cd 330 22 = some (.invokevirtual 472, 3, 0, 329) := rfl
theorem i330_25 : mm_cd 330 25 = some (.if_icmp .le 7, 3, 0, 0) := rfl
theorem i330_28 : mm_cd 330 28 = some (.iload_n 2, 1, 0, 0) := rfl
theorem i330_29 : mm_cd 330 29 = some (.goto 4, 3, 0, 0) := rfl
theorem i330_32 : mm_cd 330 32 = some (.iload_n 1, 1, 0, 0) := rfl
theorem i330_33 : mm_cd 330 33 = some (.istore_n 1, 1, 0, 0) := rfl
theorem i330_34 : mm_cd 330 34 = some (.iinc 2 1, 3, 0, 0) := rfl
theorem i330_37 : mm_cd 330 37 = some (.goto (-28), 3, 0, 0) := rfl
theorem i330_40 : mm_cd 330 40 = some (.iload_n 1, 1, 0, 0) := rfl
theorem i330_41 : mm_cd 330 41 = some (.ireturn, 1, 0, 0) := rfl
def q330_33 (k9 : Int32 → Int32 → mS → Option mQ) (v2 : Int32) (y0 : Int32) (s : mS) : Option mQ := bx (v2 + (1 : Int32)) fun x1 => k9 y0 x1 s
theorem t330_33 {L : Nat} {xs : Nat → Int32} {d : Nat} {k9 : Int32 → Int32 → mS → Option mQ} (hk9 : ∀ (v1 : Int32) (v2 : Int32) (s : mS) (r : mQ), k9 v1 v2 s = some r → Ev L xs d 330 9 [(0, .ref 512), (1, .int v1), (2, .int v2)] [] (hp s) (hr r)) (hd : 4 ≤ d) {v2 : Int32} {y0 : Int32} {s : mS} {r : mQ} (h : q330_33 k9 v2 y0 s = some r) : Ev L xs d 330 33 [(0, .ref 512), (2, .int v2)] [.int y0] (hp s) (hr r) := by
  unfold q330_33 at h
  refine Ev.istore_n H330 i330_33 (Nat.le_of_ble_eq_true rfl) (lv2 := [(1, .int y0), (0, .ref 512), (2, .int v2)]) rfl ?_
  refine Rd.iinc H330 i330_34 (Nat.le_of_ble_eq_true rfl) rfl kI_1 (lv2 := fun x1 => [(2, .int x1), (1, .int y0), (0, .ref 512)]) (fun _ => rfl) h (fun x1 h => ?_)
  refine Ev.goto H330 i330_37 (t := 9) (by decide) ?_
  exact Ev.sub (l := [(0, .ref 512), (1, .int y0), (2, .int x1)]) rfl rfl (mm_sub_c rfl (mm_sub_c rfl (mm_sub_c rfl mm_sub_n))) (hk9 _ _ _ _ h)
def q330_9 : Nat → Int32 → Int32 → mS → Option mQ
  | 0, _, _, _ => none
  | n + 1, v1, v2, s => if (10 : Int32) ≤ v2 then (rv v1 s) else (bN (q329 v2 s) fun x3 s2 => bN (q329 v1 s2) fun x5 s4 => if x3 ≤ x5 then (q330_33 (q330_9 n) v2 v1 s4) else (q330_33 (q330_9 n) v2 v2 s4))
theorem t330_9 {L : Nat} {xs : Nat → Int32} {d : Nat} (hd : 4 ≤ d) : ∀ (n : Nat) (v1 : Int32) (v2 : Int32) (s : mS) (r : mQ), q330_9 n v1 v2 s = some r → Ev L xs d 330 9 [(0, .ref 512), (1, .int v1), (2, .int v2)] [] (hp s) (hr r) := by
  intro n
  induction n with
  | zero => intro v1 v2 s r h; rw [q330_9] at h; cases h
  | succ n ih =>
    intro v1 v2 s r h
    rw [q330_9] at h
    refine Ev.iload_n H330 i330_9 rfl ?_
    refine Ev.bipush H330 i330_10 kB_10 ?_
    refine Rd.ic_ge H330 i330_12 (t := 40) (by decide) h (fun hc h => ?_) (fun hc h => ?_)
    · refine Ev.iload_n H330 i330_40 rfl ?_
      exact Rd.ireturn H330 i330_41 rfl h
    · refine Ev.aload_n H330 i330_15 rfl ?_
      refine Ev.iload_n H330 i330_16 rfl ?_
      refine Rd.cV1vN H330 i330_17 cal329 ob11 (Nat.le_of_ble_eq_true rfl) (Nat.le_of_ble_eq_true rfl) (Nat.lt_of_lt_of_le (by decide) hd) (fun q hq => c329 hq) h (fun x3 s2 h => ?_)
      refine Ev.aload_n H330 i330_20 rfl ?_
      refine Ev.iload_n H330 i330_21 rfl ?_
      refine Rd.cV1vN H330 i330_22 cal329 ob11 (Nat.le_of_ble_eq_true rfl) (Nat.le_of_ble_eq_true rfl) (Nat.lt_of_lt_of_le (by decide) hd) (fun q hq => c329 hq) h (fun x5 s4 h => ?_)
      refine Rd.ic_le H330 i330_25 (t := 32) (by decide) h (fun hc h => ?_) (fun hc h => ?_)
      · refine Ev.iload_n H330 i330_32 rfl ?_
        exact Ev.sub (l := [(0, .ref 512), (2, .int v2)]) rfl rfl (mm_sub_c rfl (mm_sub_c rfl mm_sub_n)) (t330_33 (k9 := (q330_9 n)) (fun _ _ _ _ h => ih _ _ _ _ h) hd h)
      · refine Ev.iload_n H330 i330_28 rfl ?_
        refine Ev.goto H330 i330_29 (t := 33) (by decide) ?_
        exact Ev.sub (l := [(0, .ref 512), (2, .int v2)]) rfl rfl (mm_sub_c rfl (mm_sub_c rfl mm_sub_n)) (t330_33 (k9 := (q330_9 n)) (fun _ _ _ _ h => ih _ _ _ _ h) hd h)
/-- SerialGateModel.hot()I -/
def q330 (s : mS) : Option mQ := sp (sI s 512 0 (0 : Int32)) fun s6 => q330_9 10000 (0 : Int32) (1 : Int32) s6
theorem c330 {L : Nat} {xs : Nat → Int32} {s : mS} {r : mQ} (h : q330 s = some r) : ∀ d, 4 ≤ d → Cl L xs d 330 [.ref 512] (hp s) (hr r) := by
  intro d hd
  show Ev L xs d 330 0 [(0, .ref 512)] [] (hp s) (hr r)
  unfold q330 at h
  refine Ev.aload_n H330 i330_0 rfl ?_
  refine Ev.iconst H330 i330_1 kI_0 ?_
  refine Rd.putI H330 i330_2 ob11 rfl ty11_0.1 ty11_0.2 h (fun s6 h => ?_)
  refine Ev.iconst H330 i330_5 kI_0 ?_
  refine Ev.istore_n H330 i330_6 (Nat.le_of_ble_eq_true rfl) (lv2 := [(1, .int (0 : Int32)), (0, .ref 512)]) rfl ?_
  refine Ev.iconst H330 i330_7 kI_1 ?_
  refine Ev.istore_n H330 i330_8 (Nat.le_of_ble_eq_true rfl) (lv2 := [(2, .int (1 : Int32)), (1, .int (0 : Int32)), (0, .ref 512)]) rfl ?_
  exact Ev.sub (l := [(0, .ref 512), (1, .int (0 : Int32)), (2, .int (1 : Int32))]) rfl rfl (mm_sub_c rfl (mm_sub_c rfl (mm_sub_c rfl mm_sub_n))) (t330_9 hd 10000 _ _ _ _ h)
theorem i331_0 : mm_cd 331 0 = some (.aload_n 0, 1, 0, 0) := rfl
theorem i331_1 : mm_cd 331 1 = some (.iconst 0, 1, 0, 0) := rfl
theorem i331_2 : mm_cd 331 2 = some (.putfield 3, 3, ((11 : Nat) : Int), 0) := rfl
theorem i331_5 : mm_cd 331 5 = some (.iconst 0, 1, 0, 0) := rfl
theorem i331_6 : mm_cd 331 6 = some (.istore_n 1, 1, 0, 0) := rfl
theorem i331_7 : mm_cd 331 7 = some (.iconst 0, 1, 0, 0) := rfl
theorem i331_8 : mm_cd 331 8 = some (.istore_n 2, 1, 0, 0) := rfl
theorem i331_9 : mm_cd 331 9 = some (.iload_n 2, 1, 0, 0) := rfl
theorem i331_10 : mm_cd 331 10 = some (.aload_n 0, 1, 0, 0) := rfl
theorem i331_11 : mm_cd 331 11 = some (.invokevirtual 129, 3, 0, 198) := rfl
theorem i331_14 : mm_cd 331 14 = some (.if_icmp .ge 60, 3, 0, 0) := rfl
theorem i331_17 : mm_cd 331 17 = some (.iconst 0, 1, 0, 0) := rfl
theorem i331_18 : mm_cd 331 18 = some (.istore_n 3, 1, 0, 0) := rfl
theorem i331_19 : mm_cd 331 19 = some (.iload_n 3, 1, 0, 0) := rfl
theorem i331_20 : mm_cd 331 20 = some (.iload_n 2, 1, 0, 0) := rfl
theorem i331_21 : mm_cd 331 21 = some (.if_icmp .ge 47, 3, 0, 0) := rfl
theorem i331_24 : mm_cd 331 24 = some (.iload_n 1, 1, 0, 0) := rfl
theorem i331_25 : mm_cd 331 25 = some (.aload_n 0, 1, 0, 0) := rfl
theorem i331_26 : mm_cd 331 26 = some (.iload_n 2, 1, 0, 0) := rfl
theorem i331_27 : mm_cd 331 27 = some (.iconst 0, 1, 0, 0) := rfl
theorem i331_28 : mm_cd 331 28 = some (.invokevirtual 72, 3, 0, 202) := rfl
theorem i331_31 : mm_cd 331 31 = some (.aload_n 0, 1, 0, 0) := rfl
theorem i331_32 : mm_cd 331 32 = some (.iload_n 3, 1, 0, 0) := rfl
theorem i331_33 : mm_cd 331 33 = some (.iconst 0, 1, 0, 0) := rfl
theorem i331_34 : mm_cd 331 34 = some (.invokevirtual 72, 3, 0, 202) := rfl
theorem i331_37 : mm_cd 331 37 = some (.if_icmp .ne 22, 3, 0, 0) := rfl
theorem i331_40 : mm_cd 331 40 = some (.aload_n 0, 1, 0, 0) := rfl
theorem i331_41 : mm_cd 331 41 = some (.iload_n 2, 1, 0, 0) := rfl
theorem i331_42 : mm_cd 331 42 = some (.iconst 1, 1, 0, 0) := rfl
theorem i331_43 : mm_cd 331 43 = some (.invokevirtual 72, 3, 0, 202) := rfl
theorem i331_46 : mm_cd 331 46 = some (.aload_n 0, 1, 0, 0) := rfl
theorem i331_47 : mm_cd 331 47 = some (.iload_n 3, 1, 0, 0) := rfl
theorem i331_48 : mm_cd 331 48 = some (.iconst 1, 1, 0, 0) := rfl
theorem i331_49 : mm_cd 331 49 = some (.invokevirtual 72, 3, 0, 202) := rfl
theorem i331_52 : mm_cd 331 52 = some (.if_icmp .ne 7, 3, 0, 0) := rfl
theorem i331_55 : mm_cd 331 55 = some (.iconst 1, 1, 0, 0) := rfl
theorem i331_56 : mm_cd 331 56 = some (.goto 4, 3, 0, 0) := rfl
theorem i331_59 : mm_cd 331 59 = some (.iconst 0, 1, 0, 0) := rfl
theorem i331_60 : mm_cd 331 60 = some (.iadd, 1, 0, 0) := rfl
theorem i331_61 : mm_cd 331 61 = some (.istore_n 1, 1, 0, 0) := rfl
theorem i331_62 : mm_cd 331 62 = some (.iinc 3 1, 3, 0, 0) := rfl
theorem i331_65 : mm_cd 331 65 = some (.goto (-46), 3, 0, 0) := rfl
theorem i331_68 : mm_cd 331 68 = some (.iinc 2 1, 3, 0, 0) := rfl
theorem i331_71 : mm_cd 331 71 = some (.goto (-62), 3, 0, 0) := rfl
theorem i331_74 : mm_cd 331 74 = some (.iload_n 1, 1, 0, 0) := rfl
theorem i331_75 : mm_cd 331 75 = some (.ireturn, 1, 0, 0) := rfl
def q331_60 (k19 : Int32 → Int32 → Int32 → mS → Option mQ) (v2 : Int32) (v3 : Int32) (y0 : Int32) (y1 : Int32) (s : mS) : Option mQ := bx (y0 + y1) fun x1 => bx (v3 + (1 : Int32)) fun x2 => k19 x1 v2 x2 s
theorem t331_60 {L : Nat} {xs : Nat → Int32} {d : Nat} {k19 : Int32 → Int32 → Int32 → mS → Option mQ} (hk19 : ∀ (v1 : Int32) (v2 : Int32) (v3 : Int32) (s : mS) (r : mQ), k19 v1 v2 v3 s = some r → Ev L xs d 331 19 [(0, .ref 512), (1, .int v1), (2, .int v2), (3, .int v3)] [] (hp s) (hr r)) (hd : 2 ≤ d) {v2 : Int32} {v3 : Int32} {y0 : Int32} {y1 : Int32} {s : mS} {r : mQ} (h : q331_60 k19 v2 v3 y0 y1 s = some r) : Ev L xs d 331 60 [(0, .ref 512), (2, .int v2), (3, .int v3)] [.int y1, .int y0] (hp s) (hr r) := by
  unfold q331_60 at h
  refine Ev.iadd H331 i331_60 ?_
  refine Rd.istore_n H331 i331_61 (Nat.le_of_ble_eq_true rfl) (lv2 := fun x1 => [(1, .int x1), (0, .ref 512), (2, .int v2), (3, .int v3)]) (fun _ => rfl) h (fun x1 h => ?_)
  refine Rd.iinc H331 i331_62 (Nat.le_of_ble_eq_true rfl) rfl kI_1 (lv2 := fun x2 => [(3, .int x2), (1, .int x1), (0, .ref 512), (2, .int v2)]) (fun _ => rfl) h (fun x2 h => ?_)
  refine Ev.goto H331 i331_65 (t := 19) (by decide) ?_
  exact Ev.sub (l := [(0, .ref 512), (1, .int x1), (2, .int v2), (3, .int x2)]) rfl rfl (mm_sub_c rfl (mm_sub_c rfl (mm_sub_c rfl (mm_sub_c rfl mm_sub_n)))) (hk19 _ _ _ _ _ h)
def q331_59 (k19 : Int32 → Int32 → Int32 → mS → Option mQ) (v2 : Int32) (v3 : Int32) (y0 : Int32) (s : mS) : Option mQ := q331_60 k19 v2 v3 y0 (0 : Int32) s
theorem t331_59 {L : Nat} {xs : Nat → Int32} {d : Nat} {k19 : Int32 → Int32 → Int32 → mS → Option mQ} (hk19 : ∀ (v1 : Int32) (v2 : Int32) (v3 : Int32) (s : mS) (r : mQ), k19 v1 v2 v3 s = some r → Ev L xs d 331 19 [(0, .ref 512), (1, .int v1), (2, .int v2), (3, .int v3)] [] (hp s) (hr r)) (hd : 2 ≤ d) {v2 : Int32} {v3 : Int32} {y0 : Int32} {s : mS} {r : mQ} (h : q331_59 k19 v2 v3 y0 s = some r) : Ev L xs d 331 59 [(0, .ref 512), (2, .int v2), (3, .int v3)] [.int y0] (hp s) (hr r) := by
  unfold q331_59 at h
  refine Ev.iconst H331 i331_59 kI_0 ?_
  exact Ev.sub (l := [(0, .ref 512), (2, .int v2), (3, .int v3)]) rfl rfl (mm_sub_c rfl (mm_sub_c rfl (mm_sub_c rfl mm_sub_n))) (t331_60 (k19 := k19) hk19 hd h)
def q331_19 (k68 : Int32 → Int32 → mS → Option mQ) : Nat → Int32 → Int32 → Int32 → mS → Option mQ
  | 0, _, _, _, _ => none
  | n + 1, v1, v2, v3, s => if v2 ≤ v3 then (k68 v1 v2 s) else (bN (q202 v2 (0 : Int32) s) fun x4 s3 => bN (q202 v3 (0 : Int32) s3) fun x6 s5 => if ¬ x4 = x6 then (q331_59 (q331_19 k68 n) v2 v3 v1 s5) else (bN (q202 v2 (1 : Int32) s5) fun x8 s7 => bN (q202 v3 (1 : Int32) s7) fun x10 s9 => if ¬ x8 = x10 then (q331_59 (q331_19 k68 n) v2 v3 v1 s9) else (q331_60 (q331_19 k68 n) v2 v3 v1 (1 : Int32) s9)))
theorem t331_19 {L : Nat} {xs : Nat → Int32} {d : Nat} {k68 : Int32 → Int32 → mS → Option mQ} (hk68 : ∀ (v1 : Int32) (v2 : Int32) (s : mS) (r : mQ), k68 v1 v2 s = some r → Ev L xs d 331 68 [(0, .ref 512), (1, .int v1), (2, .int v2)] [] (hp s) (hr r)) (hd : 2 ≤ d) : ∀ (n : Nat) (v1 : Int32) (v2 : Int32) (v3 : Int32) (s : mS) (r : mQ), q331_19 k68 n v1 v2 v3 s = some r → Ev L xs d 331 19 [(0, .ref 512), (1, .int v1), (2, .int v2), (3, .int v3)] [] (hp s) (hr r) := by
  intro n
  induction n with
  | zero => intro v1 v2 v3 s r h; rw [q331_19] at h; cases h
  | succ n ih =>
    intro v1 v2 v3 s r h
    rw [q331_19] at h
    refine Ev.iload_n H331 i331_19 rfl ?_
    refine Ev.iload_n H331 i331_20 rfl ?_
    refine Rd.ic_ge H331 i331_21 (t := 68) (by decide) h (fun hc h => ?_) (fun hc h => ?_)
    · exact Ev.sub (l := [(0, .ref 512), (1, .int v1), (2, .int v2)]) rfl rfl (mm_sub_c rfl (mm_sub_c rfl (mm_sub_c rfl mm_sub_n))) (hk68 _ _ _ _ h)
    · refine Ev.iload_n H331 i331_24 rfl ?_
      refine Ev.aload_n H331 i331_25 rfl ?_
      refine Ev.iload_n H331 i331_26 rfl ?_
      refine Ev.iconst H331 i331_27 kI_0 ?_
      refine Rd.cV2vN H331 i331_28 cal202 ob11 (Nat.le_of_ble_eq_true rfl) (Nat.le_of_ble_eq_true rfl) (Nat.lt_of_lt_of_le (by decide) hd) (fun q hq => c202 hq) h (fun x4 s3 h => ?_)
      refine Ev.aload_n H331 i331_31 rfl ?_
      refine Ev.iload_n H331 i331_32 rfl ?_
      refine Ev.iconst H331 i331_33 kI_0 ?_
      refine Rd.cV2vN H331 i331_34 cal202 ob11 (Nat.le_of_ble_eq_true rfl) (Nat.le_of_ble_eq_true rfl) (Nat.lt_of_lt_of_le (by decide) hd) (fun q hq => c202 hq) h (fun x6 s5 h => ?_)
      refine Rd.ic_ne H331 i331_37 (t := 59) (by decide) h (fun hc h => ?_) (fun hc h => ?_)
      · exact Ev.sub (l := [(0, .ref 512), (2, .int v2), (3, .int v3)]) rfl rfl (mm_sub_c rfl (mm_sub_c rfl (mm_sub_c rfl mm_sub_n))) (t331_59 (k19 := (q331_19 k68 n)) (fun _ _ _ _ _ h => ih _ _ _ _ _ h) hd h)
      · refine Ev.aload_n H331 i331_40 rfl ?_
        refine Ev.iload_n H331 i331_41 rfl ?_
        refine Ev.iconst H331 i331_42 kI_1 ?_
        refine Rd.cV2vN H331 i331_43 cal202 ob11 (Nat.le_of_ble_eq_true rfl) (Nat.le_of_ble_eq_true rfl) (Nat.lt_of_lt_of_le (by decide) hd) (fun q hq => c202 hq) h (fun x8 s7 h => ?_)
        refine Ev.aload_n H331 i331_46 rfl ?_
        refine Ev.iload_n H331 i331_47 rfl ?_
        refine Ev.iconst H331 i331_48 kI_1 ?_
        refine Rd.cV2vN H331 i331_49 cal202 ob11 (Nat.le_of_ble_eq_true rfl) (Nat.le_of_ble_eq_true rfl) (Nat.lt_of_lt_of_le (by decide) hd) (fun q hq => c202 hq) h (fun x10 s9 h => ?_)
        refine Rd.ic_ne H331 i331_52 (t := 59) (by decide) h (fun hc h => ?_) (fun hc h => ?_)
        · exact Ev.sub (l := [(0, .ref 512), (2, .int v2), (3, .int v3)]) rfl rfl (mm_sub_c rfl (mm_sub_c rfl (mm_sub_c rfl mm_sub_n))) (t331_59 (k19 := (q331_19 k68 n)) (fun _ _ _ _ _ h => ih _ _ _ _ _ h) hd h)
        · refine Ev.iconst H331 i331_55 kI_1 ?_
          refine Ev.goto H331 i331_56 (t := 60) (by decide) ?_
          exact Ev.sub (l := [(0, .ref 512), (2, .int v2), (3, .int v3)]) rfl rfl (mm_sub_c rfl (mm_sub_c rfl (mm_sub_c rfl mm_sub_n))) (t331_60 (k19 := (q331_19 k68 n)) (fun _ _ _ _ _ h => ih _ _ _ _ _ h) hd h)
def q331_68 (k9 : Int32 → Int32 → mS → Option mQ) (v1 : Int32) (v2 : Int32) (s : mS) : Option mQ := bx (v2 + (1 : Int32)) fun x11 => k9 v1 x11 s
theorem t331_68 {L : Nat} {xs : Nat → Int32} {d : Nat} {k9 : Int32 → Int32 → mS → Option mQ} (hk9 : ∀ (v1 : Int32) (v2 : Int32) (s : mS) (r : mQ), k9 v1 v2 s = some r → Ev L xs d 331 9 [(0, .ref 512), (1, .int v1), (2, .int v2)] [] (hp s) (hr r)) (hd : 2 ≤ d) {v1 : Int32} {v2 : Int32} {s : mS} {r : mQ} (h : q331_68 k9 v1 v2 s = some r) : Ev L xs d 331 68 [(0, .ref 512), (1, .int v1), (2, .int v2)] [] (hp s) (hr r) := by
  unfold q331_68 at h
  refine Rd.iinc H331 i331_68 (Nat.le_of_ble_eq_true rfl) rfl kI_1 (lv2 := fun x11 => [(2, .int x11), (0, .ref 512), (1, .int v1)]) (fun _ => rfl) h (fun x11 h => ?_)
  refine Ev.goto H331 i331_71 (t := 9) (by decide) ?_
  exact Ev.sub (l := [(0, .ref 512), (1, .int v1), (2, .int x11)]) rfl rfl (mm_sub_c rfl (mm_sub_c rfl (mm_sub_c rfl mm_sub_n))) (hk9 _ _ _ _ h)
def q331_9 : Nat → Int32 → Int32 → mS → Option mQ
  | 0, _, _, _ => none
  | n + 1, v1, v2, s => bN (q198 s) fun x13 s12 => if x13 ≤ v2 then (rv v1 s12) else (q331_19 (q331_68 (q331_9 n)) 10000 v1 v2 (0 : Int32) s12)
theorem t331_9 {L : Nat} {xs : Nat → Int32} {d : Nat} (hd : 2 ≤ d) : ∀ (n : Nat) (v1 : Int32) (v2 : Int32) (s : mS) (r : mQ), q331_9 n v1 v2 s = some r → Ev L xs d 331 9 [(0, .ref 512), (1, .int v1), (2, .int v2)] [] (hp s) (hr r) := by
  intro n
  induction n with
  | zero => intro v1 v2 s r h; rw [q331_9] at h; cases h
  | succ n ih =>
    intro v1 v2 s r h
    rw [q331_9] at h
    refine Ev.iload_n H331 i331_9 rfl ?_
    refine Ev.aload_n H331 i331_10 rfl ?_
    refine Rd.cV0vN H331 i331_11 cal198 ob11 (Nat.le_of_ble_eq_true rfl) (Nat.le_of_ble_eq_true rfl) (Nat.lt_of_lt_of_le (by decide) hd) (fun q hq => c198 hq) h (fun x13 s12 h => ?_)
    refine Rd.ic_ge H331 i331_14 (t := 74) (by decide) h (fun hc h => ?_) (fun hc h => ?_)
    · refine Ev.iload_n H331 i331_74 rfl ?_
      exact Rd.ireturn H331 i331_75 rfl h
    · refine Ev.iconst H331 i331_17 kI_0 ?_
      refine Ev.istore_n H331 i331_18 (Nat.le_of_ble_eq_true rfl) (lv2 := [(3, .int (0 : Int32)), (0, .ref 512), (1, .int v1), (2, .int v2)]) rfl ?_
      exact Ev.sub (l := [(0, .ref 512), (1, .int v1), (2, .int v2), (3, .int (0 : Int32))]) rfl rfl (mm_sub_c rfl (mm_sub_c rfl (mm_sub_c rfl (mm_sub_c rfl mm_sub_n)))) (t331_19 (k68 := (q331_68 (q331_9 n))) (fun _ _ _ _ h => t331_68 (k9 := (q331_9 n)) (fun _ _ _ _ h => ih _ _ _ _ h) hd h) hd 10000 _ _ _ _ _ h)
/-- SerialGateModel.twins()I -/
def q331 (s : mS) : Option mQ := sp (sI s 512 0 (0 : Int32)) fun s14 => q331_9 10000 (0 : Int32) (0 : Int32) s14
theorem c331 {L : Nat} {xs : Nat → Int32} {s : mS} {r : mQ} (h : q331 s = some r) : ∀ d, 2 ≤ d → Cl L xs d 331 [.ref 512] (hp s) (hr r) := by
  intro d hd
  show Ev L xs d 331 0 [(0, .ref 512)] [] (hp s) (hr r)
  unfold q331 at h
  refine Ev.aload_n H331 i331_0 rfl ?_
  refine Ev.iconst H331 i331_1 kI_0 ?_
  refine Rd.putI H331 i331_2 ob11 rfl ty11_0.1 ty11_0.2 h (fun s14 h => ?_)
  refine Ev.iconst H331 i331_5 kI_0 ?_
  refine Ev.istore_n H331 i331_6 (Nat.le_of_ble_eq_true rfl) (lv2 := [(1, .int (0 : Int32)), (0, .ref 512)]) rfl ?_
  refine Ev.iconst H331 i331_7 kI_0 ?_
  refine Ev.istore_n H331 i331_8 (Nat.le_of_ble_eq_true rfl) (lv2 := [(2, .int (0 : Int32)), (1, .int (0 : Int32)), (0, .ref 512)]) rfl ?_
  exact Ev.sub (l := [(0, .ref 512), (1, .int (0 : Int32)), (2, .int (0 : Int32))]) rfl rfl (mm_sub_c rfl (mm_sub_c rfl (mm_sub_c rfl mm_sub_n))) (t331_9 hd 10000 _ _ _ _ h)
theorem i332_0 : mm_cd 332 0 = some (.iload_n 0, 1, 0, 0) := rfl
theorem i332_1 : mm_cd 332 1 = some (.iconst 0, 1, 0, 0) := rfl
theorem i332_2 : mm_cd 332 2 = some (.bipush 60, 2, 0, 0) := rfl
theorem i332_4 : mm_cd 332 4 = some (.invokestatic 371, 3, 0, 189) := rfl
theorem i332_7 : mm_cd 332 7 = some (.ifCond .ne 7, 3, 0, 0) := rfl
theorem i332_10 : mm_cd 332 10 = some (.iconst 1, 1, 0, 0) := rfl
theorem i332_11 : mm_cd 332 11 = some (.goto 4, 3, 0, 0) := rfl
theorem i332_14 : mm_cd 332 14 = some (.iconst 0, 1, 0, 0) := rfl
theorem i332_15 : mm_cd 332 15 = some (.ireturn, 1, 0, 0) := rfl
/-- SerialGateModel.noTicks(I)Z -/
def q332 (v0 : Int32) (s : mS) : Option mQ := bN (q189 v0 (0 : Int32) (60 : Int32) s) fun x2 s1 => if ¬ x2 = 0 then (rv (0 : Int32) s1) else (rv (1 : Int32) s1)
theorem c332 {L : Nat} {xs : Nat → Int32} {v0 : Int32} {s : mS} {r : mQ} (h : q332 v0 s = some r) : ∀ d, 1 ≤ d → Cl L xs d 332 [.int v0] (hp s) (hr r) := by
  intro d hd
  show Ev L xs d 332 0 [(0, .int v0)] [] (hp s) (hr r)
  unfold q332 at h
  refine Ev.iload_n H332 i332_0 rfl ?_
  refine Ev.iconst H332 i332_1 kI_0 ?_
  refine Ev.bipush H332 i332_2 kB_60 ?_
  refine Rd.cS3vN H332 i332_4 cal189 (Nat.le_of_ble_eq_true rfl) (Nat.le_of_ble_eq_true rfl) (Nat.lt_of_lt_of_le (by decide) hd) (fun q hq => c189 hq) h (fun x2 s1 h => ?_)
  refine Rd.if_ne H332 i332_7 (t := 14) (by decide) h (fun hc h => ?_) (fun hc h => ?_)
  · refine Ev.iconst H332 i332_14 kI_0 ?_
    exact Rd.ireturnK H332 i332_15 rfl (Or.inl rfl) h
  · refine Ev.iconst H332 i332_10 kI_1 ?_
    refine Ev.goto H332 i332_11 (t := 15) (by decide) ?_
    exact Rd.ireturnK H332 i332_15 rfl (Or.inr rfl) h
theorem i333_0 : mm_cd 333 0 = some (.aload_n 0, 1, 0, 0) := rfl
theorem i333_1 : mm_cd 333 1 = some (.iconst 0, 1, 0, 0) := rfl
theorem i333_2 : mm_cd 333 2 = some (.putfield 3, 3, ((11 : Nat) : Int), 0) := rfl
theorem i333_5 : mm_cd 333 5 = some (.aload_n 0, 1, 0, 0) := rfl
theorem i333_6 : mm_cd 333 6 = some (.iload_n 1, 1, 0, 0) := rfl
theorem i333_7 : mm_cd 333 7 = some (.invokestatic 475, 3, 0, 332) := rfl
theorem i333_10 : mm_cd 333 10 = some (.iconst 1, 1, 0, 0) := rfl
theorem i333_11 : mm_cd 333 11 = some (.invokevirtual 249, 3, 0, 188) := rfl
theorem i333_14 : mm_cd 333 14 = some (.ifCond .eq 5, 3, 0, 0) := rfl
theorem i333_17 : mm_cd 333 17 = some (.iconst 0, 1, 0, 0) := rfl
theorem i333_18 : mm_cd 333 18 = some (.ireturn, 1, 0, 0) := rfl
theorem i333_19 : mm_cd 333 19 = some (.aload_n 0, 1, 0, 0) := rfl
theorem i333_20 : mm_cd 333 20 = some (.invokevirtual 401, 3, 0, 196) := rfl
theorem i333_23 : mm_cd 333 23 = some (.aload_n 0, 1, 0, 0) := rfl
theorem i333_24 : mm_cd 333 24 = some (.iload_n 1, 1, 0, 0) := rfl
theorem i333_25 : mm_cd 333 25 = some (.invokevirtual 392, 3, 0, 272) := rfl
theorem i333_28 : mm_cd 333 28 = some (.pop, 1, 0, 0) := rfl
theorem i333_29 : mm_cd 333 29 = some (.iload_n 2, 1, 0, 0) := rfl
theorem i333_30 : mm_cd 333 30 = some (.ifCond .eq 12, 3, 0, 0) := rfl
theorem i333_33 : mm_cd 333 33 = some (.aload_n 0, 1, 0, 0) := rfl
theorem i333_34 : mm_cd 333 34 = some (.getfield 13, 3, ((11 : Nat) : Int), 1) := rfl
theorem i333_37 : mm_cd 333 37 = some (.iconst 5, 1, 0, 0) := rfl
theorem i333_38 : mm_cd 333 38 = some (.iaload, 1, 0, 0) := rfl
theorem i333_39 : mm_cd 333 39 = some (.goto 7, 3, 0, 0) := rfl
theorem i333_42 : mm_cd 333 42 = some (.aload_n 0, 1, 0, 0) := rfl
theorem i333_43 : mm_cd 333 43 = some (.invokevirtual 386, 3, 0, 279) := rfl
theorem i333_46 : mm_cd 333 46 = some (.istore_n 3, 1, 0, 0) := rfl
theorem i333_47 : mm_cd 333 47 = some (.aload_n 0, 1, 0, 0) := rfl
theorem i333_48 : mm_cd 333 48 = some (.invokevirtual 404, 3, 0, 197) := rfl
theorem i333_51 : mm_cd 333 51 = some (.iload_n 3, 1, 0, 0) := rfl
theorem i333_52 : mm_cd 333 52 = some (.ireturn, 1, 0, 0) := rfl
def q333_46 (y0 : Int32) (s : mS) : Option mQ := bM (q197 s) fun s1 => rv y0 s1
theorem t333_46 {L : Nat} {xs : Nat → Int32} {d : Nat} (hd : 13 ≤ d) {y0 : Int32} {s : mS} {r : mQ} (h : q333_46 y0 s = some r) : Ev L xs d 333 46 [(0, .ref 512)] [.int y0] (hp s) (hr r) := by
  unfold q333_46 at h
  refine Ev.istore_n H333 i333_46 (Nat.le_of_ble_eq_true rfl) (lv2 := [(3, .int y0), (0, .ref 512)]) rfl ?_
  refine Ev.aload_n H333 i333_47 rfl ?_
  refine Rd.cV0uN H333 i333_48 cal197 ob11 (Nat.le_of_ble_eq_true rfl) (Nat.le_of_ble_eq_true rfl) (Nat.lt_of_lt_of_le (by decide) hd) (fun q hq => c197 hq) h (fun s1 h => ?_)
  refine Ev.iload_n H333 i333_51 rfl ?_
  exact Rd.ireturn H333 i333_52 rfl h
/-- SerialGateModel.trial(IZ)I -/
def q333 (v1 : Int32) (v2 : Int32) (s : mS) : Option mQ := sp (sI s 512 0 (0 : Int32)) fun s2 => bN (q332 v1 s2) fun x4 s3 => bN (q188 x4 (1 : Int32) s3) fun x6 s5 => if x6 = 0 then (bM (q196 s5) fun s7 => bN (q272 v1 s7) fun x9 s8 => if v2 = 0 then (bN (q279 s8) fun x11 s10 => q333_46 x11 s10) else (gA 2468 (5 : Int32) <| q333_46 (s8.1 513 (5 : Int32).toNatClampNeg) s8)) else (rv (0 : Int32) s5)
theorem c333 {L : Nat} {xs : Nat → Int32} {v1 : Int32} {v2 : Int32} {s : mS} {r : mQ} (h : q333 v1 v2 s = some r) : ∀ d, 13 ≤ d → Cl L xs d 333 [.ref 512, .int v1, .int v2] (hp s) (hr r) := by
  intro d hd
  show Ev L xs d 333 0 [(0, .ref 512), (1, .int v1), (2, .int v2)] [] (hp s) (hr r)
  unfold q333 at h
  refine Ev.aload_n H333 i333_0 rfl ?_
  refine Ev.iconst H333 i333_1 kI_0 ?_
  refine Rd.putI H333 i333_2 ob11 rfl ty11_0.1 ty11_0.2 h (fun s2 h => ?_)
  refine Ev.aload_n H333 i333_5 rfl ?_
  refine Ev.iload_n H333 i333_6 rfl ?_
  refine Rd.cS1vN H333 i333_7 cal332 (Nat.le_of_ble_eq_true rfl) (Nat.le_of_ble_eq_true rfl) (Nat.lt_of_lt_of_le (by decide) hd) (fun q hq => c332 hq) h (fun x4 s3 h => ?_)
  refine Ev.iconst H333 i333_10 kI_1 ?_
  refine Rd.cV2vN H333 i333_11 cal188 ob11 (Nat.le_of_ble_eq_true rfl) (Nat.le_of_ble_eq_true rfl) (Nat.lt_of_lt_of_le (by decide) hd) (fun q hq => c188 hq) h (fun x6 s5 h => ?_)
  refine Rd.if_eq H333 i333_14 (t := 19) (by decide) h (fun hc h => ?_) (fun hc h => ?_)
  · refine Ev.aload_n H333 i333_19 rfl ?_
    refine Rd.cV0uN H333 i333_20 cal196 ob11 (Nat.le_of_ble_eq_true rfl) (Nat.le_of_ble_eq_true rfl) (Nat.lt_of_lt_of_le (by decide) hd) (fun q hq => c196 hq) h (fun s7 h => ?_)
    refine Ev.aload_n H333 i333_23 rfl ?_
    refine Ev.iload_n H333 i333_24 rfl ?_
    refine Rd.cV1vN H333 i333_25 cal272 ob11 (Nat.le_of_ble_eq_true rfl) (Nat.le_of_ble_eq_true rfl) (Nat.lt_of_lt_of_le (by decide) hd) (fun q hq => c272 hq) h (fun x9 s8 h => ?_)
    refine Ev.pop H333 i333_28 rfl ?_
    refine Ev.iload_n H333 i333_29 rfl ?_
    refine Rd.if_eq H333 i333_30 (t := 42) (by decide) h (fun hc h => ?_) (fun hc h => ?_)
    · refine Ev.aload_n H333 i333_42 rfl ?_
      refine Rd.cV0vN H333 i333_43 cal279 ob11 (Nat.le_of_ble_eq_true rfl) (Nat.le_of_ble_eq_true rfl) (Nat.lt_of_lt_of_le (by decide) hd) (fun q hq => c279 hq) h (fun x11 s10 h => ?_)
      exact Ev.sub (l := [(0, .ref 512)]) rfl rfl (mm_sub_c rfl mm_sub_n) (t333_46 hd h)
    · refine Ev.aload_n H333 i333_33 rfl ?_
      refine Rd.getR H333 i333_34 ob11 rfl ?_
      refine Ev.iconst H333 i333_37 kI_5 ?_
      refine Rd.iaload H333 i333_38 ar_513 h (fun h => ?_)
      refine Ev.goto H333 i333_39 (t := 46) (by decide) ?_
      exact Ev.sub (l := [(0, .ref 512)]) rfl rfl (mm_sub_c rfl mm_sub_n) (t333_46 hd h)
  · refine Ev.iconst H333 i333_17 kI_0 ?_
    exact Rd.ireturn H333 i333_18 rfl h
theorem i334_0 : mm_cd 334 0 = some (.aload_n 0, 1, 0, 0) := rfl
theorem i334_1 : mm_cd 334 1 = some (.iconst 0, 1, 0, 0) := rfl
theorem i334_2 : mm_cd 334 2 = some (.putfield 3, 3, ((11 : Nat) : Int), 0) := rfl
theorem i334_5 : mm_cd 334 5 = some (.aload_n 0, 1, 0, 0) := rfl
theorem i334_6 : mm_cd 334 6 = some (.iload_n 1, 1, 0, 0) := rfl
theorem i334_7 : mm_cd 334 7 = some (.invokestatic 475, 3, 0, 332) := rfl
theorem i334_10 : mm_cd 334 10 = some (.iconst 1, 1, 0, 0) := rfl
theorem i334_11 : mm_cd 334 11 = some (.invokevirtual 249, 3, 0, 188) := rfl
theorem i334_14 : mm_cd 334 14 = some (.ifCond .eq 5, 3, 0, 0) := rfl
theorem i334_17 : mm_cd 334 17 = some (.iconst 0, 1, 0, 0) := rfl
theorem i334_18 : mm_cd 334 18 = some (.ireturn, 1, 0, 0) := rfl
theorem i334_19 : mm_cd 334 19 = some (.aload_n 0, 1, 0, 0) := rfl
theorem i334_20 : mm_cd 334 20 = some (.invokevirtual 401, 3, 0, 196) := rfl
theorem i334_23 : mm_cd 334 23 = some (.iconst (-1), 1, 0, 0) := rfl
theorem i334_24 : mm_cd 334 24 = some (.istore_n 3, 1, 0, 0) := rfl
theorem i334_25 : mm_cd 334 25 = some (.iconst 1, 1, 0, 0) := rfl
theorem i334_26 : mm_cd 334 26 = some (.istore 4, 2, 0, 0) := rfl
theorem i334_28 : mm_cd 334 28 = some (.iload 4, 2, 0, 0) := rfl
theorem i334_30 : mm_cd 334 30 = some (.bipush 6, 2, 0, 0) := rfl
theorem i334_32 : mm_cd 334 32 = some (.if_icmp .gt 63, 3, 0, 0) := rfl
theorem i334_35 : mm_cd 334 35 = some (.aload_n 0, 1, 0, 0) := rfl
theorem i334_36 : mm_cd 334 36 = some (.getfield 13, 3, ((11 : Nat) : Int), 1) := rfl
theorem i334_39 : mm_cd 334 39 = some (.bipush 8, 2, 0, 0) := rfl
theorem i334_41 : mm_cd 334 41 = some (.iload 4, 2, 0, 0) := rfl
theorem i334_43 : mm_cd 334 43 = some (.iastore, 1, 0, 0) := rfl
theorem i334_44 : mm_cd 334 44 = some (.aload_n 0, 1, 0, 0) := rfl
theorem i334_45 : mm_cd 334 45 = some (.iload_n 1, 1, 0, 0) := rfl
theorem i334_46 : mm_cd 334 46 = some (.invokevirtual 392, 3, 0, 272) := rfl
theorem i334_49 : mm_cd 334 49 = some (.pop, 1, 0, 0) := rfl
theorem i334_50 : mm_cd 334 50 = some (.aload_n 0, 1, 0, 0) := rfl
theorem i334_51 : mm_cd 334 51 = some (.invokevirtual 386, 3, 0, 279) := rfl
theorem i334_54 : mm_cd 334 54 = some (.istore 5, 2, 0, 0) := rfl
theorem i334_56 : mm_cd 334 56 = some (.aload_n 0, 1, 0, 0) := rfl
theorem i334_57 : mm_cd 334 57 = some (.invokevirtual 404, 3, 0, 197) := rfl
theorem i334_60 : mm_cd 334 60 = some (.iload_n 3, 1, 0, 0) := rfl
theorem i334_61 : mm_cd 334 61 = some (.ifCond .ge 8, 3, 0, 0) := rfl
theorem i334_64 : mm_cd 334 64 = some (.iload 5, 2, 0, 0) := rfl
theorem i334_66 : mm_cd 334 66 = some (.goto 22, 3, 0, 0) := rfl
theorem i334_69 : mm_cd 334 69 = some (.iload_n 2, 1, 0, 0) := rfl
theorem i334_70 : mm_cd 334 70 = some (.ifCond .eq 12, 3, 0, 0) := rfl
theorem i334_73 : mm_cd 334 73 = some (.iload_n 3, 1, 0, 0) := rfl
theorem i334_74 : mm_cd 334 74 = some (.iload 5, 2, 0, 0) := rfl
theorem i334_76 : mm_cd 334 76 = some (.invokestatic 276, 3, 2, 0) := rfl
theorem i334_79 : mm_cd 334 79 = some (.goto 9, 3, 0, 0) := rfl
theorem i334_82 : mm_cd 334 82 = some (.iload_n 3, 1, 0, 0) := rfl
theorem i334_83 : mm_cd 334 83 = some (.iload 5, 2, 0, 0) := rfl
theorem i334_85 : mm_cd 334 85 = some (.invokestatic 149, 3, 3, 0) := rfl
theorem i334_88 : mm_cd 334 88 = some (.istore_n 3, 1, 0, 0) := rfl
theorem i334_89 : mm_cd 334 89 = some (.iinc 4 1, 3, 0, 0) := rfl
theorem i334_92 : mm_cd 334 92 = some (.goto (-64), 3, 0, 0) := rfl
theorem i334_95 : mm_cd 334 95 = some (.iload_n 3, 1, 0, 0) := rfl
theorem i334_96 : mm_cd 334 96 = some (.ireturn, 1, 0, 0) := rfl
def q334_88 (k28 : Int32 → Int32 → Int32 → Int32 → mS → Option mQ) (v1 : Int32) (v2 : Int32) (v4 : Int32) (y0 : Int32) (s : mS) : Option mQ := bx (v4 + (1 : Int32)) fun x1 => k28 v1 v2 y0 x1 s
theorem t334_88 {L : Nat} {xs : Nat → Int32} {d : Nat} {k28 : Int32 → Int32 → Int32 → Int32 → mS → Option mQ} (hk28 : ∀ (v1 : Int32) (v2 : Int32) (v3 : Int32) (v4 : Int32) (s : mS) (r : mQ), k28 v1 v2 v3 v4 s = some r → Ev L xs d 334 28 [(0, .ref 512), (1, .int v1), (2, .int v2), (3, .int v3), (4, .int v4)] [] (hp s) (hr r)) (hd : 13 ≤ d) {v1 : Int32} {v2 : Int32} {v4 : Int32} {y0 : Int32} {s : mS} {r : mQ} (h : q334_88 k28 v1 v2 v4 y0 s = some r) : Ev L xs d 334 88 [(0, .ref 512), (1, .int v1), (2, .int v2), (4, .int v4)] [.int y0] (hp s) (hr r) := by
  unfold q334_88 at h
  refine Ev.istore_n H334 i334_88 (Nat.le_of_ble_eq_true rfl) (lv2 := [(3, .int y0), (0, .ref 512), (1, .int v1), (2, .int v2), (4, .int v4)]) rfl ?_
  refine Rd.iinc H334 i334_89 (Nat.le_of_ble_eq_true rfl) rfl kI_1 (lv2 := fun x1 => [(4, .int x1), (3, .int y0), (0, .ref 512), (1, .int v1), (2, .int v2)]) (fun _ => rfl) h (fun x1 h => ?_)
  refine Ev.goto H334 i334_92 (t := 28) (by decide) ?_
  exact Ev.sub (l := [(0, .ref 512), (1, .int v1), (2, .int v2), (3, .int y0), (4, .int x1)]) rfl rfl (mm_sub_c rfl (mm_sub_c rfl (mm_sub_c rfl (mm_sub_c rfl (mm_sub_c rfl mm_sub_n))))) (hk28 _ _ _ _ _ _ h)
def q334_28 : Nat → Int32 → Int32 → Int32 → Int32 → mS → Option mQ
  | 0, _, _, _, _, _ => none
  | n + 1, v1, v2, v3, v4, s => if (6 : Int32) < v4 then (rv v3 s) else (gA 2468 (8 : Int32) <| sp (sI s 513 (8 : Int32).toNatClampNeg v4) fun s2 => bN (q272 v1 s2) fun x4 s3 => bN (q279 s3) fun x6 s5 => bM (q197 s5) fun s7 => if 0 ≤ v3 then (if v2 = 0 then (q334_88 (q334_28 n) v1 v2 v4 (mnI v3 x6) s7) else (q334_88 (q334_28 n) v1 v2 v4 (mxI v3 x6) s7)) else (q334_88 (q334_28 n) v1 v2 v4 x6 s7))
theorem t334_28 {L : Nat} {xs : Nat → Int32} {d : Nat} (hd : 13 ≤ d) : ∀ (n : Nat) (v1 : Int32) (v2 : Int32) (v3 : Int32) (v4 : Int32) (s : mS) (r : mQ), q334_28 n v1 v2 v3 v4 s = some r → Ev L xs d 334 28 [(0, .ref 512), (1, .int v1), (2, .int v2), (3, .int v3), (4, .int v4)] [] (hp s) (hr r) := by
  intro n
  induction n with
  | zero => intro v1 v2 v3 v4 s r h; rw [q334_28] at h; cases h
  | succ n ih =>
    intro v1 v2 v3 v4 s r h
    rw [q334_28] at h
    refine Ev.iload H334 i334_28 rfl ?_
    refine Ev.bipush H334 i334_30 kB_6 ?_
    refine Rd.ic_gt H334 i334_32 (t := 95) (by decide) h (fun hc h => ?_) (fun hc h => ?_)
    · refine Ev.iload_n H334 i334_95 rfl ?_
      exact Rd.ireturn H334 i334_96 rfl h
    · refine Ev.aload_n H334 i334_35 rfl ?_
      refine Rd.getR H334 i334_36 ob11 rfl ?_
      refine Ev.bipush H334 i334_39 kB_8 ?_
      refine Ev.iload H334 i334_41 rfl ?_
      refine Rd.iastore H334 i334_43 ar_513 h (fun s2 h => ?_)
      refine Ev.aload_n H334 i334_44 rfl ?_
      refine Ev.iload_n H334 i334_45 rfl ?_
      refine Rd.cV1vN H334 i334_46 cal272 ob11 (Nat.le_of_ble_eq_true rfl) (Nat.le_of_ble_eq_true rfl) (Nat.lt_of_lt_of_le (by decide) hd) (fun q hq => c272 hq) h (fun x4 s3 h => ?_)
      refine Ev.pop H334 i334_49 rfl ?_
      refine Ev.aload_n H334 i334_50 rfl ?_
      refine Rd.cV0vN H334 i334_51 cal279 ob11 (Nat.le_of_ble_eq_true rfl) (Nat.le_of_ble_eq_true rfl) (Nat.lt_of_lt_of_le (by decide) hd) (fun q hq => c279 hq) h (fun x6 s5 h => ?_)
      refine Ev.istore H334 i334_54 (Nat.le_of_ble_eq_true rfl) (lv2 := [(5, .int x6), (0, .ref 512), (1, .int v1), (2, .int v2), (3, .int v3), (4, .int v4)]) rfl ?_
      refine Ev.aload_n H334 i334_56 rfl ?_
      refine Rd.cV0uN H334 i334_57 cal197 ob11 (Nat.le_of_ble_eq_true rfl) (Nat.le_of_ble_eq_true rfl) (Nat.lt_of_lt_of_le (by decide) hd) (fun q hq => c197 hq) h (fun s7 h => ?_)
      refine Ev.iload_n H334 i334_60 rfl ?_
      refine Rd.if_ge H334 i334_61 (t := 69) (by decide) h (fun hc h => ?_) (fun hc h => ?_)
      · refine Ev.iload_n H334 i334_69 rfl ?_
        refine Rd.if_eq H334 i334_70 (t := 82) (by decide) h (fun hc h => ?_) (fun hc h => ?_)
        · refine Ev.iload_n H334 i334_82 rfl ?_
          refine Ev.iload H334 i334_83 rfl ?_
          refine Rd.min H334 i334_85 (Nat.le_of_ble_eq_true rfl) ?_
          exact Ev.sub (l := [(0, .ref 512), (1, .int v1), (2, .int v2), (4, .int v4)]) rfl rfl (mm_sub_c rfl (mm_sub_c rfl (mm_sub_c rfl (mm_sub_c rfl mm_sub_n)))) (t334_88 (k28 := (q334_28 n)) (fun _ _ _ _ _ _ h => ih _ _ _ _ _ _ h) hd h)
        · refine Ev.iload_n H334 i334_73 rfl ?_
          refine Ev.iload H334 i334_74 rfl ?_
          refine Rd.max H334 i334_76 (Nat.le_of_ble_eq_true rfl) ?_
          refine Ev.goto H334 i334_79 (t := 88) (by decide) ?_
          exact Ev.sub (l := [(0, .ref 512), (1, .int v1), (2, .int v2), (4, .int v4)]) rfl rfl (mm_sub_c rfl (mm_sub_c rfl (mm_sub_c rfl (mm_sub_c rfl mm_sub_n)))) (t334_88 (k28 := (q334_28 n)) (fun _ _ _ _ _ _ h => ih _ _ _ _ _ _ h) hd h)
      · refine Ev.iload H334 i334_64 rfl ?_
        refine Ev.goto H334 i334_66 (t := 88) (by decide) ?_
        exact Ev.sub (l := [(0, .ref 512), (1, .int v1), (2, .int v2), (4, .int v4)]) rfl rfl (mm_sub_c rfl (mm_sub_c rfl (mm_sub_c rfl (mm_sub_c rfl mm_sub_n)))) (t334_88 (k28 := (q334_28 n)) (fun _ _ _ _ _ _ h => ih _ _ _ _ _ _ h) hd h)
/-- SerialGateModel.span(IZ)I -/
def q334 (v1 : Int32) (v2 : Int32) (s : mS) : Option mQ := sp (sI s 512 0 (0 : Int32)) fun s8 => bN (q332 v1 s8) fun x10 s9 => bN (q188 x10 (1 : Int32) s9) fun x12 s11 => if x12 = 0 then (bM (q196 s11) fun s13 => q334_28 10000 v1 v2 (-1 : Int32) (1 : Int32) s13) else (rv (0 : Int32) s11)
theorem c334 {L : Nat} {xs : Nat → Int32} {v1 : Int32} {v2 : Int32} {s : mS} {r : mQ} (h : q334 v1 v2 s = some r) : ∀ d, 13 ≤ d → Cl L xs d 334 [.ref 512, .int v1, .int v2] (hp s) (hr r) := by
  intro d hd
  show Ev L xs d 334 0 [(0, .ref 512), (1, .int v1), (2, .int v2)] [] (hp s) (hr r)
  unfold q334 at h
  refine Ev.aload_n H334 i334_0 rfl ?_
  refine Ev.iconst H334 i334_1 kI_0 ?_
  refine Rd.putI H334 i334_2 ob11 rfl ty11_0.1 ty11_0.2 h (fun s8 h => ?_)
  refine Ev.aload_n H334 i334_5 rfl ?_
  refine Ev.iload_n H334 i334_6 rfl ?_
  refine Rd.cS1vN H334 i334_7 cal332 (Nat.le_of_ble_eq_true rfl) (Nat.le_of_ble_eq_true rfl) (Nat.lt_of_lt_of_le (by decide) hd) (fun q hq => c332 hq) h (fun x10 s9 h => ?_)
  refine Ev.iconst H334 i334_10 kI_1 ?_
  refine Rd.cV2vN H334 i334_11 cal188 ob11 (Nat.le_of_ble_eq_true rfl) (Nat.le_of_ble_eq_true rfl) (Nat.lt_of_lt_of_le (by decide) hd) (fun q hq => c188 hq) h (fun x12 s11 h => ?_)
  refine Rd.if_eq H334 i334_14 (t := 19) (by decide) h (fun hc h => ?_) (fun hc h => ?_)
  · refine Ev.aload_n H334 i334_19 rfl ?_
    refine Rd.cV0uN H334 i334_20 cal196 ob11 (Nat.le_of_ble_eq_true rfl) (Nat.le_of_ble_eq_true rfl) (Nat.lt_of_lt_of_le (by decide) hd) (fun q hq => c196 hq) h (fun s13 h => ?_)
    refine Ev.iconst H334 i334_23 kI_m1 ?_
    refine Ev.istore_n H334 i334_24 (Nat.le_of_ble_eq_true rfl) (lv2 := [(3, .int (-1 : Int32)), (0, .ref 512), (1, .int v1), (2, .int v2)]) rfl ?_
    refine Ev.iconst H334 i334_25 kI_1 ?_
    refine Ev.istore H334 i334_26 (Nat.le_of_ble_eq_true rfl) (lv2 := [(4, .int (1 : Int32)), (3, .int (-1 : Int32)), (0, .ref 512), (1, .int v1), (2, .int v2)]) rfl ?_
    exact Ev.sub (l := [(0, .ref 512), (1, .int v1), (2, .int v2), (3, .int (-1 : Int32)), (4, .int (1 : Int32))]) rfl rfl (mm_sub_c rfl (mm_sub_c rfl (mm_sub_c rfl (mm_sub_c rfl (mm_sub_c rfl mm_sub_n))))) (t334_28 hd 10000 _ _ _ _ _ _ h)
  · refine Ev.iconst H334 i334_17 kI_0 ?_
    exact Rd.ireturn H334 i334_18 rfl h
theorem i335_0 : mm_cd 335 0 = some (.aload_n 0, 1, 0, 0) := rfl
theorem i335_1 : mm_cd 335 1 = some (.getfield 13, 3, ((11 : Nat) : Int), 1) := rfl
theorem i335_4 : mm_cd 335 4 = some (.sipush 530, 3, 0, 0) := rfl
theorem i335_7 : mm_cd 335 7 = some (.iconst 4, 1, 0, 0) := rfl
theorem i335_8 : mm_cd 335 8 = some (.iload_n 1, 1, 0, 0) := rfl
theorem i335_9 : mm_cd 335 9 = some (.imul, 1, 0, 0) := rfl
theorem i335_10 : mm_cd 335 10 = some (.iadd, 1, 0, 0) := rfl
theorem i335_11 : mm_cd 335 11 = some (.iload_n 2, 1, 0, 0) := rfl
theorem i335_12 : mm_cd 335 12 = some (.iadd, 1, 0, 0) := rfl
theorem i335_13 : mm_cd 335 13 = some (.iaload, 1, 0, 0) := rfl
theorem i335_14 : mm_cd 335 14 = some (.ireturn, 1, 0, 0) := rfl
/-- SerialGateModel.ofLog(II)I -/
def q335 (v1 : Int32) (v2 : Int32) (s : mS) : Option mQ := gA 2468 (((530 : Int32) + ((4 : Int32) * v1)) + v2) <| rv (s.1 513 (((530 : Int32) + ((4 : Int32) * v1)) + v2).toNatClampNeg) s
theorem c335 {L : Nat} {xs : Nat → Int32} {v1 : Int32} {v2 : Int32} {s : mS} {r : mQ} (h : q335 v1 v2 s = some r) : ∀ d, 0 ≤ d → Cl L xs d 335 [.ref 512, .int v1, .int v2] (hp s) (hr r) := by
  intro d hd
  show Ev L xs d 335 0 [(0, .ref 512), (1, .int v1), (2, .int v2)] [] (hp s) (hr r)
  unfold q335 at h
  refine Ev.aload_n H335 i335_0 rfl ?_
  refine Rd.getR H335 i335_1 ob11 rfl ?_
  refine Ev.sipush H335 i335_4 kS_530 ?_
  refine Ev.iconst H335 i335_7 kI_4 ?_
  refine Ev.iload_n H335 i335_8 rfl ?_
  refine Ev.imul H335 i335_9 ?_
  refine Ev.iadd H335 i335_10 ?_
  refine Ev.iload_n H335 i335_11 rfl ?_
  refine Ev.iadd H335 i335_12 ?_
  refine Rd.iaload H335 i335_13 ar_513 h (fun h => ?_)
  exact Rd.ireturn H335 i335_14 rfl h
theorem i336_0 : mm_cd 336 0 = some (.aload_n 0, 1, 0, 0) := rfl
theorem i336_1 : mm_cd 336 1 = some (.iconst 0, 1, 0, 0) := rfl
theorem i336_2 : mm_cd 336 2 = some (.putfield 3, 3, ((11 : Nat) : Int), 0) := rfl
theorem i336_5 : mm_cd 336 5 = some (.aload_n 0, 1, 0, 0) := rfl
theorem i336_6 : mm_cd 336 6 = some (.aload_n 0, 1, 0, 0) := rfl
theorem i336_7 : mm_cd 336 7 = some (.iload_n 1, 1, 0, 0) := rfl
theorem i336_8 : mm_cd 336 8 = some (.invokevirtual 380, 3, 0, 275) := rfl
theorem i336_11 : mm_cd 336 11 = some (.iconst 1, 1, 0, 0) := rfl
theorem i336_12 : mm_cd 336 12 = some (.invokevirtual 249, 3, 0, 188) := rfl
theorem i336_15 : mm_cd 336 15 = some (.ifCond .eq 5, 3, 0, 0) := rfl
theorem i336_18 : mm_cd 336 18 = some (.iconst 0, 1, 0, 0) := rfl
theorem i336_19 : mm_cd 336 19 = some (.ireturn, 1, 0, 0) := rfl
theorem i336_20 : mm_cd 336 20 = some (.iconst 0, 1, 0, 0) := rfl
theorem i336_21 : mm_cd 336 21 = some (.istore_n 3, 1, 0, 0) := rfl
theorem i336_22 : mm_cd 336 22 = some (.iconst (-1), 1, 0, 0) := rfl
theorem i336_23 : mm_cd 336 23 = some (.istore 4, 2, 0, 0) := rfl
theorem i336_25 : mm_cd 336 25 = some (.aload_n 0, 1, 0, 0) := rfl
theorem i336_26 : mm_cd 336 26 = some (.getfield 13, 3, ((11 : Nat) : Int), 1) := rfl
theorem i336_29 : mm_cd 336 29 = some (.bipush 6, 2, 0, 0) := rfl
theorem i336_31 : mm_cd 336 31 = some (.iaload, 1, 0, 0) := rfl
theorem i336_32 : mm_cd 336 32 = some (.iconst 1, 1, 0, 0) := rfl
theorem i336_33 : mm_cd 336 33 = some (.isub, 1, 0, 0) := rfl
theorem i336_34 : mm_cd 336 34 = some (.istore 5, 2, 0, 0) := rfl
theorem i336_36 : mm_cd 336 36 = some (.iload 5, 2, 0, 0) := rfl
theorem i336_38 : mm_cd 336 38 = some (.ifCond .lt 50, 3, 0, 0) := rfl
theorem i336_41 : mm_cd 336 41 = some (.aload_n 0, 1, 0, 0) := rfl
theorem i336_42 : mm_cd 336 42 = some (.iload 5, 2, 0, 0) := rfl
theorem i336_44 : mm_cd 336 44 = some (.iconst 1, 1, 0, 0) := rfl
theorem i336_45 : mm_cd 336 45 = some (.invokevirtual 478, 3, 0, 335) := rfl
theorem i336_48 : mm_cd 336 48 = some (.iload_n 1, 1, 0, 0) := rfl
theorem i336_49 : mm_cd 336 49 = some (.if_icmp .ne 33, 3, 0, 0) := rfl
theorem i336_52 : mm_cd 336 52 = some (.aload_n 0, 1, 0, 0) := rfl
theorem i336_53 : mm_cd 336 53 = some (.iload 5, 2, 0, 0) := rfl
theorem i336_55 : mm_cd 336 55 = some (.iconst 2, 1, 0, 0) := rfl
theorem i336_56 : mm_cd 336 56 = some (.invokevirtual 478, 3, 0, 335) := rfl
theorem i336_59 : mm_cd 336 59 = some (.iconst 1, 1, 0, 0) := rfl
theorem i336_60 : mm_cd 336 60 = some (.iconst 3, 1, 0, 0) := rfl
theorem i336_61 : mm_cd 336 61 = some (.invokestatic 371, 3, 0, 189) := rfl
theorem i336_64 : mm_cd 336 64 = some (.ifCond .ne 6, 3, 0, 0) := rfl
theorem i336_67 : mm_cd 336 67 = some (.goto 15, 3, 0, 0) := rfl
theorem i336_70 : mm_cd 336 70 = some (.iinc 3 1, 3, 0, 0) := rfl
theorem i336_73 : mm_cd 336 73 = some (.aload_n 0, 1, 0, 0) := rfl
theorem i336_74 : mm_cd 336 74 = some (.iload 5, 2, 0, 0) := rfl
theorem i336_76 : mm_cd 336 76 = some (.iconst 0, 1, 0, 0) := rfl
theorem i336_77 : mm_cd 336 77 = some (.invokevirtual 478, 3, 0, 335) := rfl
theorem i336_80 : mm_cd 336 80 = some (.istore 4, 2, 0, 0) := rfl
theorem i336_82 : mm_cd 336 82 = some (.iinc 5 (-1), 3, 0, 0) := rfl
theorem i336_85 : mm_cd 336 85 = some (.goto (-49), 3, 0, 0) := rfl
theorem i336_88 : mm_cd 336 88 = some (.iload_n 2, 1, 0, 0) := rfl
theorem i336_89 : mm_cd 336 89 = some (.ifCond .eq 8, 3, 0, 0) := rfl
theorem i336_92 : mm_cd 336 92 = some (.iload 4, 2, 0, 0) := rfl
theorem i336_94 : mm_cd 336 94 = some (.goto 4, 3, 0, 0) := rfl
theorem i336_97 : mm_cd 336 97 = some (.iload_n 3, 1, 0, 0) := rfl
theorem i336_98 : mm_cd 336 98 = some (.ireturn, 1, 0, 0) := rfl
def q336_82 (k36 : Int32 → Int32 → Int32 → Int32 → Int32 → mS → Option mQ) (v1 : Int32) (v2 : Int32) (v3 : Int32) (v4 : Int32) (v5 : Int32) (s : mS) : Option mQ := bx (v5 + (-1 : Int32)) fun x1 => k36 v1 v2 v3 v4 x1 s
theorem t336_82 {L : Nat} {xs : Nat → Int32} {d : Nat} {k36 : Int32 → Int32 → Int32 → Int32 → Int32 → mS → Option mQ} (hk36 : ∀ (v1 : Int32) (v2 : Int32) (v3 : Int32) (v4 : Int32) (v5 : Int32) (s : mS) (r : mQ), k36 v1 v2 v3 v4 v5 s = some r → Ev L xs d 336 36 [(0, .ref 512), (1, .int v1), (2, .int v2), (3, .int v3), (4, .int v4), (5, .int v5)] [] (hp s) (hr r)) (hd : 2 ≤ d) {v1 : Int32} {v2 : Int32} {v3 : Int32} {v4 : Int32} {v5 : Int32} {s : mS} {r : mQ} (h : q336_82 k36 v1 v2 v3 v4 v5 s = some r) : Ev L xs d 336 82 [(0, .ref 512), (1, .int v1), (2, .int v2), (3, .int v3), (4, .int v4), (5, .int v5)] [] (hp s) (hr r) := by
  unfold q336_82 at h
  refine Rd.iinc H336 i336_82 (Nat.le_of_ble_eq_true rfl) rfl kI_m1 (lv2 := fun x1 => [(5, .int x1), (0, .ref 512), (1, .int v1), (2, .int v2), (3, .int v3), (4, .int v4)]) (fun _ => rfl) h (fun x1 h => ?_)
  refine Ev.goto H336 i336_85 (t := 36) (by decide) ?_
  exact Ev.sub (l := [(0, .ref 512), (1, .int v1), (2, .int v2), (3, .int v3), (4, .int v4), (5, .int x1)]) rfl rfl (mm_sub_c rfl (mm_sub_c rfl (mm_sub_c rfl (mm_sub_c rfl (mm_sub_c rfl (mm_sub_c rfl mm_sub_n)))))) (hk36 _ _ _ _ _ _ _ h)
def q336_36 (k88 : Int32 → Int32 → Int32 → mS → Option mQ) : Nat → Int32 → Int32 → Int32 → Int32 → Int32 → mS → Option mQ
  | 0, _, _, _, _, _, _ => none
  | n + 1, v1, v2, v3, v4, v5, s => if v5 < 0 then (k88 v2 v3 v4 s) else (bN (q335 v5 (1 : Int32) s) fun x3 s2 => if ¬ x3 = v1 then (q336_82 (q336_36 k88 n) v1 v2 v3 v4 v5 s2) else (bN (q335 v5 (2 : Int32) s2) fun x5 s4 => bN (q189 x5 (1 : Int32) (3 : Int32) s4) fun x7 s6 => if ¬ x7 = 0 then (bx (v3 + (1 : Int32)) fun x8 => bN (q335 v5 (0 : Int32) s6) fun x10 s9 => q336_82 (q336_36 k88 n) v1 v2 x8 x10 v5 s9) else (q336_82 (q336_36 k88 n) v1 v2 v3 v4 v5 s6)))
theorem t336_36 {L : Nat} {xs : Nat → Int32} {d : Nat} {k88 : Int32 → Int32 → Int32 → mS → Option mQ} (hk88 : ∀ (v2 : Int32) (v3 : Int32) (v4 : Int32) (s : mS) (r : mQ), k88 v2 v3 v4 s = some r → Ev L xs d 336 88 [(2, .int v2), (3, .int v3), (4, .int v4)] [] (hp s) (hr r)) (hd : 2 ≤ d) : ∀ (n : Nat) (v1 : Int32) (v2 : Int32) (v3 : Int32) (v4 : Int32) (v5 : Int32) (s : mS) (r : mQ), q336_36 k88 n v1 v2 v3 v4 v5 s = some r → Ev L xs d 336 36 [(0, .ref 512), (1, .int v1), (2, .int v2), (3, .int v3), (4, .int v4), (5, .int v5)] [] (hp s) (hr r) := by
  intro n
  induction n with
  | zero => intro v1 v2 v3 v4 v5 s r h; rw [q336_36] at h; cases h
  | succ n ih =>
    intro v1 v2 v3 v4 v5 s r h
    rw [q336_36] at h
    refine Ev.iload H336 i336_36 rfl ?_
    refine Rd.if_lt H336 i336_38 (t := 88) (by decide) h (fun hc h => ?_) (fun hc h => ?_)
    · exact Ev.sub (l := [(2, .int v2), (3, .int v3), (4, .int v4)]) rfl rfl (mm_sub_c rfl (mm_sub_c rfl (mm_sub_c rfl mm_sub_n))) (hk88 _ _ _ _ _ h)
    · refine Ev.aload_n H336 i336_41 rfl ?_
      refine Ev.iload H336 i336_42 rfl ?_
      refine Ev.iconst H336 i336_44 kI_1 ?_
      refine Rd.cV2vN H336 i336_45 cal335 ob11 (Nat.le_of_ble_eq_true rfl) (Nat.le_of_ble_eq_true rfl) (Nat.lt_of_lt_of_le (by decide) hd) (fun q hq => c335 hq) h (fun x3 s2 h => ?_)
      refine Ev.iload_n H336 i336_48 rfl ?_
      refine Rd.ic_ne H336 i336_49 (t := 82) (by decide) h (fun hc h => ?_) (fun hc h => ?_)
      · exact Ev.sub (l := [(0, .ref 512), (1, .int v1), (2, .int v2), (3, .int v3), (4, .int v4), (5, .int v5)]) rfl rfl (mm_sub_c rfl (mm_sub_c rfl (mm_sub_c rfl (mm_sub_c rfl (mm_sub_c rfl (mm_sub_c rfl mm_sub_n)))))) (t336_82 (k36 := (q336_36 k88 n)) (fun _ _ _ _ _ _ _ h => ih _ _ _ _ _ _ _ h) hd h)
      · refine Ev.aload_n H336 i336_52 rfl ?_
        refine Ev.iload H336 i336_53 rfl ?_
        refine Ev.iconst H336 i336_55 kI_2 ?_
        refine Rd.cV2vN H336 i336_56 cal335 ob11 (Nat.le_of_ble_eq_true rfl) (Nat.le_of_ble_eq_true rfl) (Nat.lt_of_lt_of_le (by decide) hd) (fun q hq => c335 hq) h (fun x5 s4 h => ?_)
        refine Ev.iconst H336 i336_59 kI_1 ?_
        refine Ev.iconst H336 i336_60 kI_3 ?_
        refine Rd.cS3vN H336 i336_61 cal189 (Nat.le_of_ble_eq_true rfl) (Nat.le_of_ble_eq_true rfl) (Nat.lt_of_lt_of_le (by decide) hd) (fun q hq => c189 hq) h (fun x7 s6 h => ?_)
        refine Rd.if_ne H336 i336_64 (t := 70) (by decide) h (fun hc h => ?_) (fun hc h => ?_)
        · refine Rd.iinc H336 i336_70 (Nat.le_of_ble_eq_true rfl) rfl kI_1 (lv2 := fun x8 => [(3, .int x8), (0, .ref 512), (1, .int v1), (2, .int v2), (4, .int v4), (5, .int v5)]) (fun _ => rfl) h (fun x8 h => ?_)
          refine Ev.aload_n H336 i336_73 rfl ?_
          refine Ev.iload H336 i336_74 rfl ?_
          refine Ev.iconst H336 i336_76 kI_0 ?_
          refine Rd.cV2vN H336 i336_77 cal335 ob11 (Nat.le_of_ble_eq_true rfl) (Nat.le_of_ble_eq_true rfl) (Nat.lt_of_lt_of_le (by decide) hd) (fun q hq => c335 hq) h (fun x10 s9 h => ?_)
          refine Ev.istore H336 i336_80 (Nat.le_of_ble_eq_true rfl) (lv2 := [(4, .int x10), (3, .int x8), (0, .ref 512), (1, .int v1), (2, .int v2), (5, .int v5)]) rfl ?_
          exact Ev.sub (l := [(0, .ref 512), (1, .int v1), (2, .int v2), (3, .int x8), (4, .int x10), (5, .int v5)]) rfl rfl (mm_sub_c rfl (mm_sub_c rfl (mm_sub_c rfl (mm_sub_c rfl (mm_sub_c rfl (mm_sub_c rfl mm_sub_n)))))) (t336_82 (k36 := (q336_36 k88 n)) (fun _ _ _ _ _ _ _ h => ih _ _ _ _ _ _ _ h) hd h)
        · refine Ev.goto H336 i336_67 (t := 82) (by decide) ?_
          exact Ev.sub (l := [(0, .ref 512), (1, .int v1), (2, .int v2), (3, .int v3), (4, .int v4), (5, .int v5)]) rfl rfl (mm_sub_c rfl (mm_sub_c rfl (mm_sub_c rfl (mm_sub_c rfl (mm_sub_c rfl (mm_sub_c rfl mm_sub_n)))))) (t336_82 (k36 := (q336_36 k88 n)) (fun _ _ _ _ _ _ _ h => ih _ _ _ _ _ _ _ h) hd h)
def q336_88 (v2 : Int32) (v3 : Int32) (v4 : Int32) (s : mS) : Option mQ := if v2 = 0 then (rv v3 s) else (rv v4 s)
theorem t336_88 {L : Nat} {xs : Nat → Int32} {d : Nat} (hd : 2 ≤ d) {v2 : Int32} {v3 : Int32} {v4 : Int32} {s : mS} {r : mQ} (h : q336_88 v2 v3 v4 s = some r) : Ev L xs d 336 88 [(2, .int v2), (3, .int v3), (4, .int v4)] [] (hp s) (hr r) := by
  unfold q336_88 at h
  refine Ev.iload_n H336 i336_88 rfl ?_
  refine Rd.if_eq H336 i336_89 (t := 97) (by decide) h (fun hc h => ?_) (fun hc h => ?_)
  · refine Ev.iload_n H336 i336_97 rfl ?_
    exact Rd.ireturn H336 i336_98 rfl h
  · refine Ev.iload H336 i336_92 rfl ?_
    refine Ev.goto H336 i336_94 (t := 98) (by decide) ?_
    exact Rd.ireturn H336 i336_98 rfl h
/-- SerialGateModel.led(IZ)I -/
def q336 (v1 : Int32) (v2 : Int32) (s : mS) : Option mQ := sp (sI s 512 0 (0 : Int32)) fun s11 => bN (q275 v1 s11) fun x13 s12 => bN (q188 x13 (1 : Int32) s12) fun x15 s14 => if x15 = 0 then (gA 2468 (6 : Int32) <| bx ((s14.1 513 (6 : Int32).toNatClampNeg) - (1 : Int32)) fun x16 => q336_36 (q336_88) 10000 v1 v2 (0 : Int32) (-1 : Int32) x16 s14) else (rv (0 : Int32) s14)
theorem c336 {L : Nat} {xs : Nat → Int32} {v1 : Int32} {v2 : Int32} {s : mS} {r : mQ} (h : q336 v1 v2 s = some r) : ∀ d, 2 ≤ d → Cl L xs d 336 [.ref 512, .int v1, .int v2] (hp s) (hr r) := by
  intro d hd
  show Ev L xs d 336 0 [(0, .ref 512), (1, .int v1), (2, .int v2)] [] (hp s) (hr r)
  unfold q336 at h
  refine Ev.aload_n H336 i336_0 rfl ?_
  refine Ev.iconst H336 i336_1 kI_0 ?_
  refine Rd.putI H336 i336_2 ob11 rfl ty11_0.1 ty11_0.2 h (fun s11 h => ?_)
  refine Ev.aload_n H336 i336_5 rfl ?_
  refine Ev.aload_n H336 i336_6 rfl ?_
  refine Ev.iload_n H336 i336_7 rfl ?_
  refine Rd.cV1vN H336 i336_8 cal275 ob11 (Nat.le_of_ble_eq_true rfl) (Nat.le_of_ble_eq_true rfl) (Nat.lt_of_lt_of_le (by decide) hd) (fun q hq => c275 hq) h (fun x13 s12 h => ?_)
  refine Ev.iconst H336 i336_11 kI_1 ?_
  refine Rd.cV2vN H336 i336_12 cal188 ob11 (Nat.le_of_ble_eq_true rfl) (Nat.le_of_ble_eq_true rfl) (Nat.lt_of_lt_of_le (by decide) hd) (fun q hq => c188 hq) h (fun x15 s14 h => ?_)
  refine Rd.if_eq H336 i336_15 (t := 20) (by decide) h (fun hc h => ?_) (fun hc h => ?_)
  · refine Ev.iconst H336 i336_20 kI_0 ?_
    refine Ev.istore_n H336 i336_21 (Nat.le_of_ble_eq_true rfl) (lv2 := [(3, .int (0 : Int32)), (0, .ref 512), (1, .int v1), (2, .int v2)]) rfl ?_
    refine Ev.iconst H336 i336_22 kI_m1 ?_
    refine Ev.istore H336 i336_23 (Nat.le_of_ble_eq_true rfl) (lv2 := [(4, .int (-1 : Int32)), (3, .int (0 : Int32)), (0, .ref 512), (1, .int v1), (2, .int v2)]) rfl ?_
    refine Ev.aload_n H336 i336_25 rfl ?_
    refine Rd.getR H336 i336_26 ob11 rfl ?_
    refine Ev.bipush H336 i336_29 kB_6 ?_
    refine Rd.iaload H336 i336_31 ar_513 h (fun h => ?_)
    refine Ev.iconst H336 i336_32 kI_1 ?_
    refine Ev.isub H336 i336_33 ?_
    refine Rd.istore H336 i336_34 (Nat.le_of_ble_eq_true rfl) (lv2 := fun x16 => [(5, .int x16), (4, .int (-1 : Int32)), (3, .int (0 : Int32)), (0, .ref 512), (1, .int v1), (2, .int v2)]) (fun _ => rfl) h (fun x16 h => ?_)
    exact Ev.sub (l := [(0, .ref 512), (1, .int v1), (2, .int v2), (3, .int (0 : Int32)), (4, .int (-1 : Int32)), (5, .int x16)]) rfl rfl (mm_sub_c rfl (mm_sub_c rfl (mm_sub_c rfl (mm_sub_c rfl (mm_sub_c rfl (mm_sub_c rfl mm_sub_n)))))) (t336_36 (k88 := (q336_88)) (fun _ _ _ _ _ h => t336_88 hd h) hd 10000 _ _ _ _ _ _ _ h)
  · refine Ev.iconst H336 i336_18 kI_0 ?_
    exact Rd.ireturn H336 i336_19 rfl h
theorem i337_0 : mm_cd 337 0 = some (.aload_n 0, 1, 0, 0) := rfl
theorem i337_1 : mm_cd 337 1 = some (.iconst 0, 1, 0, 0) := rfl
theorem i337_2 : mm_cd 337 2 = some (.putfield 3, 3, ((11 : Nat) : Int), 0) := rfl
theorem i337_5 : mm_cd 337 5 = some (.aload_n 0, 1, 0, 0) := rfl
theorem i337_6 : mm_cd 337 6 = some (.iload_n 2, 1, 0, 0) := rfl
theorem i337_7 : mm_cd 337 7 = some (.iconst 0, 1, 0, 0) := rfl
theorem i337_8 : mm_cd 337 8 = some (.iconst 3, 1, 0, 0) := rfl
theorem i337_9 : mm_cd 337 9 = some (.invokestatic 371, 3, 0, 189) := rfl
theorem i337_12 : mm_cd 337 12 = some (.ifCond .ne 7, 3, 0, 0) := rfl
theorem i337_15 : mm_cd 337 15 = some (.iconst 1, 1, 0, 0) := rfl
theorem i337_16 : mm_cd 337 16 = some (.goto 4, 3, 0, 0) := rfl
theorem i337_19 : mm_cd 337 19 = some (.iconst 0, 1, 0, 0) := rfl
theorem i337_20 : mm_cd 337 20 = some (.iconst 1, 1, 0, 0) := rfl
theorem i337_21 : mm_cd 337 21 = some (.invokevirtual 249, 3, 0, 188) := rfl
theorem i337_24 : mm_cd 337 24 = some (.ifCond .eq 5, 3, 0, 0) := rfl
theorem i337_27 : mm_cd 337 27 = some (.iconst 0, 1, 0, 0) := rfl
theorem i337_28 : mm_cd 337 28 = some (.ireturn, 1, 0, 0) := rfl
theorem i337_29 : mm_cd 337 29 = some (.iload_n 1, 1, 0, 0) := rfl
theorem i337_30 : mm_cd 337 30 = some (.iconst 0, 1, 0, 0) := rfl
theorem i337_31 : mm_cd 337 31 = some (.aload_n 0, 1, 0, 0) := rfl
theorem i337_32 : mm_cd 337 32 = some (.getfield 13, 3, ((11 : Nat) : Int), 1) := rfl
theorem i337_35 : mm_cd 337 35 = some (.bipush 6, 2, 0, 0) := rfl
theorem i337_37 : mm_cd 337 37 = some (.iaload, 1, 0, 0) := rfl
theorem i337_38 : mm_cd 337 38 = some (.iconst 1, 1, 0, 0) := rfl
theorem i337_39 : mm_cd 337 39 = some (.isub, 1, 0, 0) := rfl
theorem i337_40 : mm_cd 337 40 = some (.invokestatic 371, 3, 0, 189) := rfl
theorem i337_43 : mm_cd 337 43 = some (.ifCond .eq 12, 3, 0, 0) := rfl
theorem i337_46 : mm_cd 337 46 = some (.aload_n 0, 1, 0, 0) := rfl
theorem i337_47 : mm_cd 337 47 = some (.iload_n 1, 1, 0, 0) := rfl
theorem i337_48 : mm_cd 337 48 = some (.iload_n 2, 1, 0, 0) := rfl
theorem i337_49 : mm_cd 337 49 = some (.invokevirtual 478, 3, 0, 335) := rfl
theorem i337_52 : mm_cd 337 52 = some (.goto 4, 3, 0, 0) := rfl
theorem i337_55 : mm_cd 337 55 = some (.iconst (-1), 1, 0, 0) := rfl
theorem i337_56 : mm_cd 337 56 = some (.ireturn, 1, 0, 0) := rfl
def q337_20 (v1 : Int32) (v2 : Int32) (y1 : Int32) (s : mS) : Option mQ := bN (q188 y1 (1 : Int32) s) fun x2 s1 => if x2 = 0 then (gA 2468 (6 : Int32) <| bN (q189 v1 (0 : Int32) ((s1.1 513 (6 : Int32).toNatClampNeg) - (1 : Int32)) s1) fun x4 s3 => if x4 = 0 then (rv (-1 : Int32) s3) else (bN (q335 v1 v2 s3) fun x6 s5 => rv x6 s5)) else (rv (0 : Int32) s1)
theorem t337_20 {L : Nat} {xs : Nat → Int32} {d : Nat} (hd : 1 ≤ d) {v1 : Int32} {v2 : Int32} {y1 : Int32} {s : mS} {r : mQ} (h : q337_20 v1 v2 y1 s = some r) : Ev L xs d 337 20 [(0, .ref 512), (1, .int v1), (2, .int v2)] [.int y1, .ref 512] (hp s) (hr r) := by
  unfold q337_20 at h
  refine Ev.iconst H337 i337_20 kI_1 ?_
  refine Rd.cV2vN H337 i337_21 cal188 ob11 (Nat.le_of_ble_eq_true rfl) (Nat.le_of_ble_eq_true rfl) (Nat.lt_of_lt_of_le (by decide) hd) (fun q hq => c188 hq) h (fun x2 s1 h => ?_)
  refine Rd.if_eq H337 i337_24 (t := 29) (by decide) h (fun hc h => ?_) (fun hc h => ?_)
  · refine Ev.iload_n H337 i337_29 rfl ?_
    refine Ev.iconst H337 i337_30 kI_0 ?_
    refine Ev.aload_n H337 i337_31 rfl ?_
    refine Rd.getR H337 i337_32 ob11 rfl ?_
    refine Ev.bipush H337 i337_35 kB_6 ?_
    refine Rd.iaload H337 i337_37 ar_513 h (fun h => ?_)
    refine Ev.iconst H337 i337_38 kI_1 ?_
    refine Ev.isub H337 i337_39 ?_
    refine Rd.cS3vN H337 i337_40 cal189 (Nat.le_of_ble_eq_true rfl) (Nat.le_of_ble_eq_true rfl) (Nat.lt_of_lt_of_le (by decide) hd) (fun q hq => c189 hq) h (fun x4 s3 h => ?_)
    refine Rd.if_eq H337 i337_43 (t := 55) (by decide) h (fun hc h => ?_) (fun hc h => ?_)
    · refine Ev.iconst H337 i337_55 kI_m1 ?_
      exact Rd.ireturn H337 i337_56 rfl h
    · refine Ev.aload_n H337 i337_46 rfl ?_
      refine Ev.iload_n H337 i337_47 rfl ?_
      refine Ev.iload_n H337 i337_48 rfl ?_
      refine Rd.cV2vN H337 i337_49 cal335 ob11 (Nat.le_of_ble_eq_true rfl) (Nat.le_of_ble_eq_true rfl) (Nat.lt_of_lt_of_le (by decide) hd) (fun q hq => c335 hq) h (fun x6 s5 h => ?_)
      refine Ev.goto H337 i337_52 (t := 56) (by decide) ?_
      exact Rd.ireturn H337 i337_56 rfl h
  · refine Ev.iconst H337 i337_27 kI_0 ?_
    exact Rd.ireturn H337 i337_28 rfl h
/-- SerialGateModel.log(II)I -/
def q337 (v1 : Int32) (v2 : Int32) (s : mS) : Option mQ := sp (sI s 512 0 (0 : Int32)) fun s7 => bN (q189 v2 (0 : Int32) (3 : Int32) s7) fun x9 s8 => if ¬ x9 = 0 then (q337_20 v1 v2 (0 : Int32) s8) else (q337_20 v1 v2 (1 : Int32) s8)
theorem c337 {L : Nat} {xs : Nat → Int32} {v1 : Int32} {v2 : Int32} {s : mS} {r : mQ} (h : q337 v1 v2 s = some r) : ∀ d, 1 ≤ d → Cl L xs d 337 [.ref 512, .int v1, .int v2] (hp s) (hr r) := by
  intro d hd
  show Ev L xs d 337 0 [(0, .ref 512), (1, .int v1), (2, .int v2)] [] (hp s) (hr r)
  unfold q337 at h
  refine Ev.aload_n H337 i337_0 rfl ?_
  refine Ev.iconst H337 i337_1 kI_0 ?_
  refine Rd.putI H337 i337_2 ob11 rfl ty11_0.1 ty11_0.2 h (fun s7 h => ?_)
  refine Ev.aload_n H337 i337_5 rfl ?_
  refine Ev.iload_n H337 i337_6 rfl ?_
  refine Ev.iconst H337 i337_7 kI_0 ?_
  refine Ev.iconst H337 i337_8 kI_3 ?_
  refine Rd.cS3vN H337 i337_9 cal189 (Nat.le_of_ble_eq_true rfl) (Nat.le_of_ble_eq_true rfl) (Nat.lt_of_lt_of_le (by decide) hd) (fun q hq => c189 hq) h (fun x9 s8 h => ?_)
  refine Rd.if_ne H337 i337_12 (t := 19) (by decide) h (fun hc h => ?_) (fun hc h => ?_)
  · refine Ev.iconst H337 i337_19 kI_0 ?_
    exact Ev.sub (l := [(0, .ref 512), (1, .int v1), (2, .int v2)]) rfl rfl (mm_sub_c rfl (mm_sub_c rfl (mm_sub_c rfl mm_sub_n))) (t337_20 hd h)
  · refine Ev.iconst H337 i337_15 kI_1 ?_
    refine Ev.goto H337 i337_16 (t := 20) (by decide) ?_
    exact Ev.sub (l := [(0, .ref 512), (1, .int v1), (2, .int v2)]) rfl rfl (mm_sub_c rfl (mm_sub_c rfl (mm_sub_c rfl mm_sub_n))) (t337_20 hd h)
theorem i338_0 : mm_cd 338 0 = some (.aload_n 0, 1, 0, 0) := rfl
theorem i338_1 : mm_cd 338 1 = some (.iconst 0, 1, 0, 0) := rfl
theorem i338_2 : mm_cd 338 2 = some (.putfield 3, 3, ((11 : Nat) : Int), 0) := rfl
theorem i338_5 : mm_cd 338 5 = some (.aload_n 0, 1, 0, 0) := rfl
theorem i338_6 : mm_cd 338 6 = some (.getfield 13, 3, ((11 : Nat) : Int), 1) := rfl
theorem i338_9 : mm_cd 338 9 = some (.bipush 8, 2, 0, 0) := rfl
theorem i338_11 : mm_cd 338 11 = some (.iaload, 1, 0, 0) := rfl
theorem i338_12 : mm_cd 338 12 = some (.istore_n 2, 1, 0, 0) := rfl
theorem i338_13 : mm_cd 338 13 = some (.aload_n 0, 1, 0, 0) := rfl
theorem i338_14 : mm_cd 338 14 = some (.getfield 13, 3, ((11 : Nat) : Int), 1) := rfl
theorem i338_17 : mm_cd 338 17 = some (.bipush 8, 2, 0, 0) := rfl
theorem i338_19 : mm_cd 338 19 = some (.iload_n 1, 1, 0, 0) := rfl
theorem i338_20 : mm_cd 338 20 = some (.iastore, 1, 0, 0) := rfl
theorem i338_21 : mm_cd 338 21 = some (.iload_n 2, 1, 0, 0) := rfl
theorem i338_22 : mm_cd 338 22 = some (.ireturn, 1, 0, 0) := rfl
/-- SerialGateModel.seed(I)I -/
def q338 (v1 : Int32) (s : mS) : Option mQ := sp (sI s 512 0 (0 : Int32)) fun s1 => gA 2468 (8 : Int32) <| bx (s1.1 513 (8 : Int32).toNatClampNeg) fun x2 => gA 2468 (8 : Int32) <| sp (sI s1 513 (8 : Int32).toNatClampNeg v1) fun s3 => rv x2 s3
theorem c338 {L : Nat} {xs : Nat → Int32} {v1 : Int32} {s : mS} {r : mQ} (h : q338 v1 s = some r) : ∀ d, 0 ≤ d → Cl L xs d 338 [.ref 512, .int v1] (hp s) (hr r) := by
  intro d hd
  show Ev L xs d 338 0 [(0, .ref 512), (1, .int v1)] [] (hp s) (hr r)
  unfold q338 at h
  refine Ev.aload_n H338 i338_0 rfl ?_
  refine Ev.iconst H338 i338_1 kI_0 ?_
  refine Rd.putI H338 i338_2 ob11 rfl ty11_0.1 ty11_0.2 h (fun s1 h => ?_)
  refine Ev.aload_n H338 i338_5 rfl ?_
  refine Rd.getR H338 i338_6 ob11 rfl ?_
  refine Ev.bipush H338 i338_9 kB_8 ?_
  refine Rd.iaload H338 i338_11 ar_513 h (fun h => ?_)
  refine Rd.istore_n H338 i338_12 (Nat.le_of_ble_eq_true rfl) (lv2 := fun x2 => [(2, .int x2), (0, .ref 512), (1, .int v1)]) (fun _ => rfl) h (fun x2 h => ?_)
  refine Ev.aload_n H338 i338_13 rfl ?_
  refine Rd.getR H338 i338_14 ob11 rfl ?_
  refine Ev.bipush H338 i338_17 kB_8 ?_
  refine Ev.iload_n H338 i338_19 rfl ?_
  refine Rd.iastore H338 i338_20 ar_513 h (fun s3 h => ?_)
  refine Ev.iload_n H338 i338_21 rfl ?_
  exact Rd.ireturn H338 i338_22 rfl h
theorem i339_0 : mm_cd 339 0 = some (.iconst 0, 1, 0, 0) := rfl
theorem i339_1 : mm_cd 339 1 = some (.istore_n 1, 1, 0, 0) := rfl
theorem i339_2 : mm_cd 339 2 = some (.iconst 0, 1, 0, 0) := rfl
theorem i339_3 : mm_cd 339 3 = some (.istore_n 2, 1, 0, 0) := rfl
theorem i339_4 : mm_cd 339 4 = some (.iload_n 2, 1, 0, 0) := rfl
theorem i339_5 : mm_cd 339 5 = some (.bipush 8, 2, 0, 0) := rfl
theorem i339_7 : mm_cd 339 7 = some (.if_icmp .ge 22, 3, 0, 0) := rfl
theorem i339_10 : mm_cd 339 10 = some (.iload_n 1, 1, 0, 0) := rfl
theorem i339_11 : mm_cd 339 11 = some (.aload_n 0, 1, 0, 0) := rfl
theorem i339_12 : mm_cd 339 12 = some (.iload_n 2, 1, 0, 0) := rfl
theorem i339_13 : mm_cd 339 13 = some (.bipush 7, 2, 0, 0) := rfl
theorem i339_15 : mm_cd 339 15 = some (.invokevirtual 69, 3, 0, 204) := rfl
theorem i339_18 : mm_cd 339 18 = some (.invokestatic 258, 3, 0, 343) := rfl
theorem i339_21 : mm_cd 339 21 = some (.iadd, 1, 0, 0) := rfl
theorem i339_22 : mm_cd 339 22 = some (.istore_n 1, 1, 0, 0) := rfl
theorem i339_23 : mm_cd 339 23 = some (.iinc 2 1, 3, 0, 0) := rfl
theorem i339_26 : mm_cd 339 26 = some (.goto (-22), 3, 0, 0) := rfl
theorem i339_29 : mm_cd 339 29 = some (.iload_n 1, 1, 0, 0) := rfl
theorem i339_30 : mm_cd 339 30 = some (.ireturn, 1, 0, 0) := rfl
def q339_4 : Nat → Int32 → Int32 → mS → Option mQ
  | 0, _, _, _ => none
  | n + 1, v1, v2, s => if (8 : Int32) ≤ v2 then (rv v1 s) else (bN (q204 v2 (7 : Int32) s) fun x2 s1 => bN (q343 x2 s1) fun x4 s3 => bx (v1 + x4) fun x5 => bx (v2 + (1 : Int32)) fun x6 => q339_4 n x5 x6 s3)
theorem t339_4 {L : Nat} {xs : Nat → Int32} {d : Nat} (hd : 2 ≤ d) : ∀ (n : Nat) (v1 : Int32) (v2 : Int32) (s : mS) (r : mQ), q339_4 n v1 v2 s = some r → Ev L xs d 339 4 [(0, .ref 512), (1, .int v1), (2, .int v2)] [] (hp s) (hr r) := by
  intro n
  induction n with
  | zero => intro v1 v2 s r h; rw [q339_4] at h; cases h
  | succ n ih =>
    intro v1 v2 s r h
    rw [q339_4] at h
    refine Ev.iload_n H339 i339_4 rfl ?_
    refine Ev.bipush H339 i339_5 kB_8 ?_
    refine Rd.ic_ge H339 i339_7 (t := 29) (by decide) h (fun hc h => ?_) (fun hc h => ?_)
    · refine Ev.iload_n H339 i339_29 rfl ?_
      exact Rd.ireturn H339 i339_30 rfl h
    · refine Ev.iload_n H339 i339_10 rfl ?_
      refine Ev.aload_n H339 i339_11 rfl ?_
      refine Ev.iload_n H339 i339_12 rfl ?_
      refine Ev.bipush H339 i339_13 kB_7 ?_
      refine Rd.cV2vN H339 i339_15 cal204 ob11 (Nat.le_of_ble_eq_true rfl) (Nat.le_of_ble_eq_true rfl) (Nat.lt_of_lt_of_le (by decide) hd) (fun q hq => c204 hq) h (fun x2 s1 h => ?_)
      refine Rd.cS1vN H339 i339_18 cal343 (Nat.le_of_ble_eq_true rfl) (Nat.le_of_ble_eq_true rfl) (Nat.lt_of_lt_of_le (by decide) hd) (fun q hq => c343 hq) h (fun x4 s3 h => ?_)
      refine Ev.iadd H339 i339_21 ?_
      refine Rd.istore_n H339 i339_22 (Nat.le_of_ble_eq_true rfl) (lv2 := fun x5 => [(1, .int x5), (0, .ref 512), (2, .int v2)]) (fun _ => rfl) h (fun x5 h => ?_)
      refine Rd.iinc H339 i339_23 (Nat.le_of_ble_eq_true rfl) rfl kI_1 (lv2 := fun x6 => [(2, .int x6), (1, .int x5), (0, .ref 512)]) (fun _ => rfl) h (fun x6 h => ?_)
      refine Ev.goto H339 i339_26 (t := 4) (by decide) ?_
      exact Ev.sub (l := [(0, .ref 512), (1, .int x5), (2, .int x6)]) rfl rfl (mm_sub_c rfl (mm_sub_c rfl (mm_sub_c rfl mm_sub_n))) (ih _ _ _ _ h)
/-- SerialGateModel.edges()I -/
def q339 (s : mS) : Option mQ := q339_4 10000 (0 : Int32) (0 : Int32) s
theorem c339 {L : Nat} {xs : Nat → Int32} {s : mS} {r : mQ} (h : q339 s = some r) : ∀ d, 2 ≤ d → Cl L xs d 339 [.ref 512] (hp s) (hr r) := by
  intro d hd
  show Ev L xs d 339 0 [(0, .ref 512)] [] (hp s) (hr r)
  unfold q339 at h
  refine Ev.iconst H339 i339_0 kI_0 ?_
  refine Ev.istore_n H339 i339_1 (Nat.le_of_ble_eq_true rfl) (lv2 := [(1, .int (0 : Int32)), (0, .ref 512)]) rfl ?_
  refine Ev.iconst H339 i339_2 kI_0 ?_
  refine Ev.istore_n H339 i339_3 (Nat.le_of_ble_eq_true rfl) (lv2 := [(2, .int (0 : Int32)), (1, .int (0 : Int32)), (0, .ref 512)]) rfl ?_
  exact Ev.sub (l := [(0, .ref 512), (1, .int (0 : Int32)), (2, .int (0 : Int32))]) rfl rfl (mm_sub_c rfl (mm_sub_c rfl (mm_sub_c rfl mm_sub_n))) (t339_4 hd 10000 _ _ _ _ h)
theorem i340_0 : mm_cd 340 0 = some (.iconst 0, 1, 0, 0) := rfl
theorem i340_1 : mm_cd 340 1 = some (.istore_n 1, 1, 0, 0) := rfl
theorem i340_2 : mm_cd 340 2 = some (.iconst 0, 1, 0, 0) := rfl
theorem i340_3 : mm_cd 340 3 = some (.istore_n 2, 1, 0, 0) := rfl
theorem i340_4 : mm_cd 340 4 = some (.iload_n 2, 1, 0, 0) := rfl
theorem i340_5 : mm_cd 340 5 = some (.aload_n 0, 1, 0, 0) := rfl
theorem i340_6 : mm_cd 340 6 = some (.invokevirtual 129, 3, 0, 198) := rfl
theorem i340_9 : mm_cd 340 9 = some (.if_icmp .ge 18, 3, 0, 0) := rfl
theorem i340_12 : mm_cd 340 12 = some (.iload_n 1, 1, 0, 0) := rfl
theorem i340_13 : mm_cd 340 13 = some (.aload_n 0, 1, 0, 0) := rfl
theorem i340_14 : mm_cd 340 14 = some (.iload_n 2, 1, 0, 0) := rfl
theorem i340_15 : mm_cd 340 15 = some (.iconst 3, 1, 0, 0) := rfl
theorem i340_16 : mm_cd 340 16 = some (.invokevirtual 72, 3, 0, 202) := rfl
theorem i340_19 : mm_cd 340 19 = some (.iadd, 1, 0, 0) := rfl
theorem i340_20 : mm_cd 340 20 = some (.istore_n 1, 1, 0, 0) := rfl
theorem i340_21 : mm_cd 340 21 = some (.iinc 2 1, 3, 0, 0) := rfl
theorem i340_24 : mm_cd 340 24 = some (.goto (-20), 3, 0, 0) := rfl
theorem i340_27 : mm_cd 340 27 = some (.iload_n 1, 1, 0, 0) := rfl
theorem i340_28 : mm_cd 340 28 = some (.ireturn, 1, 0, 0) := rfl
def q340_4 : Nat → Int32 → Int32 → mS → Option mQ
  | 0, _, _, _ => none
  | n + 1, v1, v2, s => bN (q198 s) fun x2 s1 => if x2 ≤ v2 then (rv v1 s1) else (bN (q202 v2 (3 : Int32) s1) fun x4 s3 => bx (v1 + x4) fun x5 => bx (v2 + (1 : Int32)) fun x6 => q340_4 n x5 x6 s3)
theorem t340_4 {L : Nat} {xs : Nat → Int32} {d : Nat} (hd : 2 ≤ d) : ∀ (n : Nat) (v1 : Int32) (v2 : Int32) (s : mS) (r : mQ), q340_4 n v1 v2 s = some r → Ev L xs d 340 4 [(0, .ref 512), (1, .int v1), (2, .int v2)] [] (hp s) (hr r) := by
  intro n
  induction n with
  | zero => intro v1 v2 s r h; rw [q340_4] at h; cases h
  | succ n ih =>
    intro v1 v2 s r h
    rw [q340_4] at h
    refine Ev.iload_n H340 i340_4 rfl ?_
    refine Ev.aload_n H340 i340_5 rfl ?_
    refine Rd.cV0vN H340 i340_6 cal198 ob11 (Nat.le_of_ble_eq_true rfl) (Nat.le_of_ble_eq_true rfl) (Nat.lt_of_lt_of_le (by decide) hd) (fun q hq => c198 hq) h (fun x2 s1 h => ?_)
    refine Rd.ic_ge H340 i340_9 (t := 27) (by decide) h (fun hc h => ?_) (fun hc h => ?_)
    · refine Ev.iload_n H340 i340_27 rfl ?_
      exact Rd.ireturn H340 i340_28 rfl h
    · refine Ev.iload_n H340 i340_12 rfl ?_
      refine Ev.aload_n H340 i340_13 rfl ?_
      refine Ev.iload_n H340 i340_14 rfl ?_
      refine Ev.iconst H340 i340_15 kI_3 ?_
      refine Rd.cV2vN H340 i340_16 cal202 ob11 (Nat.le_of_ble_eq_true rfl) (Nat.le_of_ble_eq_true rfl) (Nat.lt_of_lt_of_le (by decide) hd) (fun q hq => c202 hq) h (fun x4 s3 h => ?_)
      refine Ev.iadd H340 i340_19 ?_
      refine Rd.istore_n H340 i340_20 (Nat.le_of_ble_eq_true rfl) (lv2 := fun x5 => [(1, .int x5), (0, .ref 512), (2, .int v2)]) (fun _ => rfl) h (fun x5 h => ?_)
      refine Rd.iinc H340 i340_21 (Nat.le_of_ble_eq_true rfl) rfl kI_1 (lv2 := fun x6 => [(2, .int x6), (1, .int x5), (0, .ref 512)]) (fun _ => rfl) h (fun x6 h => ?_)
      refine Ev.goto H340 i340_24 (t := 4) (by decide) ?_
      exact Ev.sub (l := [(0, .ref 512), (1, .int x5), (2, .int x6)]) rfl rfl (mm_sub_c rfl (mm_sub_c rfl (mm_sub_c rfl mm_sub_n))) (ih _ _ _ _ h)
/-- SerialGateModel.retriesOfAll()I -/
def q340 (s : mS) : Option mQ := q340_4 10000 (0 : Int32) (0 : Int32) s
theorem c340 {L : Nat} {xs : Nat → Int32} {s : mS} {r : mQ} (h : q340 s = some r) : ∀ d, 2 ≤ d → Cl L xs d 340 [.ref 512] (hp s) (hr r) := by
  intro d hd
  show Ev L xs d 340 0 [(0, .ref 512)] [] (hp s) (hr r)
  unfold q340 at h
  refine Ev.iconst H340 i340_0 kI_0 ?_
  refine Ev.istore_n H340 i340_1 (Nat.le_of_ble_eq_true rfl) (lv2 := [(1, .int (0 : Int32)), (0, .ref 512)]) rfl ?_
  refine Ev.iconst H340 i340_2 kI_0 ?_
  refine Ev.istore_n H340 i340_3 (Nat.le_of_ble_eq_true rfl) (lv2 := [(2, .int (0 : Int32)), (1, .int (0 : Int32)), (0, .ref 512)]) rfl ?_
  exact Ev.sub (l := [(0, .ref 512), (1, .int (0 : Int32)), (2, .int (0 : Int32))]) rfl rfl (mm_sub_c rfl (mm_sub_c rfl (mm_sub_c rfl mm_sub_n))) (t340_4 hd 10000 _ _ _ _ h)
theorem i341_0 : mm_cd 341 0 = some (.aload_n 0, 1, 0, 0) := rfl
theorem i341_1 : mm_cd 341 1 = some (.iconst 0, 1, 0, 0) := rfl
theorem i341_2 : mm_cd 341 2 = some (.putfield 3, 3, ((11 : Nat) : Int), 0) := rfl
theorem i341_5 : mm_cd 341 5 = some (.iload_n 1, 1, 0, 0) := rfl
theorem i341_6 : mm_cd 341 6 = some (.tableswitch 180 0 13 #[70, 75, 84, 93, 100, 123, 130, 137, 144, 149, 157, 162, 167, 175], 70, 0, 0) := rfl
theorem i341_76 : mm_cd 341 76 = some (.aload_n 0, 1, 0, 0) := rfl
theorem i341_77 : mm_cd 341 77 = some (.invokevirtual 129, 3, 0, 198) := rfl
theorem i341_80 : mm_cd 341 80 = some (.ireturn, 1, 0, 0) := rfl
theorem i341_81 : mm_cd 341 81 = some (.aload_n 0, 1, 0, 0) := rfl
theorem i341_82 : mm_cd 341 82 = some (.iconst 1, 1, 0, 0) := rfl
theorem i341_83 : mm_cd 341 83 = some (.invokevirtual 313, 3, 0, 208) := rfl
theorem i341_86 : mm_cd 341 86 = some (.invokestatic 258, 3, 0, 343) := rfl
theorem i341_89 : mm_cd 341 89 = some (.ireturn, 1, 0, 0) := rfl
theorem i341_90 : mm_cd 341 90 = some (.aload_n 0, 1, 0, 0) := rfl
theorem i341_91 : mm_cd 341 91 = some (.iconst 2, 1, 0, 0) := rfl
theorem i341_92 : mm_cd 341 92 = some (.invokevirtual 313, 3, 0, 208) := rfl
theorem i341_95 : mm_cd 341 95 = some (.invokestatic 258, 3, 0, 343) := rfl
theorem i341_98 : mm_cd 341 98 = some (.ireturn, 1, 0, 0) := rfl
theorem i341_99 : mm_cd 341 99 = some (.aload_n 0, 1, 0, 0) := rfl
theorem i341_100 : mm_cd 341 100 = some (.getfield 13, 3, ((11 : Nat) : Int), 1) := rfl
theorem i341_103 : mm_cd 341 103 = some (.iconst 1, 1, 0, 0) := rfl
theorem i341_104 : mm_cd 341 104 = some (.iaload, 1, 0, 0) := rfl
theorem i341_105 : mm_cd 341 105 = some (.ireturn, 1, 0, 0) := rfl
theorem i341_106 : mm_cd 341 106 = some (.aload_n 0, 1, 0, 0) := rfl
theorem i341_107 : mm_cd 341 107 = some (.getfield 13, 3, ((11 : Nat) : Int), 1) := rfl
theorem i341_110 : mm_cd 341 110 = some (.iconst 2, 1, 0, 0) := rfl
theorem i341_111 : mm_cd 341 111 = some (.iaload, 1, 0, 0) := rfl
theorem i341_112 : mm_cd 341 112 = some (.iconst 1, 1, 0, 0) := rfl
theorem i341_113 : mm_cd 341 113 = some (.if_icmp .ne 14, 3, 0, 0) := rfl
theorem i341_116 : mm_cd 341 116 = some (.aload_n 0, 1, 0, 0) := rfl
theorem i341_117 : mm_cd 341 117 = some (.getfield 13, 3, ((11 : Nat) : Int), 1) := rfl
theorem i341_120 : mm_cd 341 120 = some (.sipush 770, 3, 0, 0) := rfl
theorem i341_123 : mm_cd 341 123 = some (.iaload, 1, 0, 0) := rfl
theorem i341_124 : mm_cd 341 124 = some (.goto 4, 3, 0, 0) := rfl
theorem i341_127 : mm_cd 341 127 = some (.iconst (-1), 1, 0, 0) := rfl
theorem i341_128 : mm_cd 341 128 = some (.ireturn, 1, 0, 0) := rfl
theorem i341_129 : mm_cd 341 129 = some (.aload_n 0, 1, 0, 0) := rfl
theorem i341_130 : mm_cd 341 130 = some (.getfield 13, 3, ((11 : Nat) : Int), 1) := rfl
theorem i341_133 : mm_cd 341 133 = some (.iconst 3, 1, 0, 0) := rfl
theorem i341_134 : mm_cd 341 134 = some (.iaload, 1, 0, 0) := rfl
theorem i341_135 : mm_cd 341 135 = some (.ireturn, 1, 0, 0) := rfl
theorem i341_136 : mm_cd 341 136 = some (.aload_n 0, 1, 0, 0) := rfl
theorem i341_137 : mm_cd 341 137 = some (.getfield 13, 3, ((11 : Nat) : Int), 1) := rfl
theorem i341_140 : mm_cd 341 140 = some (.iconst 4, 1, 0, 0) := rfl
theorem i341_141 : mm_cd 341 141 = some (.iaload, 1, 0, 0) := rfl
theorem i341_142 : mm_cd 341 142 = some (.ireturn, 1, 0, 0) := rfl
theorem i341_143 : mm_cd 341 143 = some (.aload_n 0, 1, 0, 0) := rfl
theorem i341_144 : mm_cd 341 144 = some (.getfield 13, 3, ((11 : Nat) : Int), 1) := rfl
theorem i341_147 : mm_cd 341 147 = some (.iconst 5, 1, 0, 0) := rfl
theorem i341_148 : mm_cd 341 148 = some (.iaload, 1, 0, 0) := rfl
theorem i341_149 : mm_cd 341 149 = some (.ireturn, 1, 0, 0) := rfl
theorem i341_150 : mm_cd 341 150 = some (.aload_n 0, 1, 0, 0) := rfl
theorem i341_151 : mm_cd 341 151 = some (.invokevirtual 481, 3, 0, 339) := rfl
theorem i341_154 : mm_cd 341 154 = some (.ireturn, 1, 0, 0) := rfl
theorem i341_155 : mm_cd 341 155 = some (.aload_n 0, 1, 0, 0) := rfl
theorem i341_156 : mm_cd 341 156 = some (.getfield 13, 3, ((11 : Nat) : Int), 1) := rfl
theorem i341_159 : mm_cd 341 159 = some (.bipush 7, 2, 0, 0) := rfl
theorem i341_161 : mm_cd 341 161 = some (.iaload, 1, 0, 0) := rfl
theorem i341_162 : mm_cd 341 162 = some (.ireturn, 1, 0, 0) := rfl
theorem i341_163 : mm_cd 341 163 = some (.aload_n 0, 1, 0, 0) := rfl
theorem i341_164 : mm_cd 341 164 = some (.invokevirtual 386, 3, 0, 279) := rfl
theorem i341_167 : mm_cd 341 167 = some (.ireturn, 1, 0, 0) := rfl
theorem i341_168 : mm_cd 341 168 = some (.aload_n 0, 1, 0, 0) := rfl
theorem i341_169 : mm_cd 341 169 = some (.invokevirtual 484, 3, 0, 340) := rfl
theorem i341_172 : mm_cd 341 172 = some (.ireturn, 1, 0, 0) := rfl
theorem i341_173 : mm_cd 341 173 = some (.aload_n 0, 1, 0, 0) := rfl
theorem i341_174 : mm_cd 341 174 = some (.getfield 13, 3, ((11 : Nat) : Int), 1) := rfl
theorem i341_177 : mm_cd 341 177 = some (.bipush 6, 2, 0, 0) := rfl
theorem i341_179 : mm_cd 341 179 = some (.iaload, 1, 0, 0) := rfl
theorem i341_180 : mm_cd 341 180 = some (.ireturn, 1, 0, 0) := rfl
theorem i341_181 : mm_cd 341 181 = some (.aload_n 0, 1, 0, 0) := rfl
theorem i341_182 : mm_cd 341 182 = some (.getfield 56, 3, ((11 : Nat) : Int), 7) := rfl
theorem i341_185 : mm_cd 341 185 = some (.ireturn, 1, 0, 0) := rfl
theorem i341_186 : mm_cd 341 186 = some (.iconst (-1), 1, 0, 0) := rfl
theorem i341_187 : mm_cd 341 187 = some (.ireturn, 1, 0, 0) := rfl
/-- SerialGateModel.count(I)I -/
def q341 (v1 : Int32) (s : mS) : Option mQ := sp (sI s 512 0 (0 : Int32)) fun s1 => if v1 = (0 : Int32) then (bN (q198 s1) fun x3 s2 => rv x3 s2) else if v1 = (1 : Int32) then (bN (q208 (1 : Int32) s1) fun x5 s4 => bN (q343 x5 s4) fun x7 s6 => rv x7 s6) else if v1 = (2 : Int32) then (bN (q208 (2 : Int32) s1) fun x9 s8 => bN (q343 x9 s8) fun x11 s10 => rv x11 s10) else if v1 = (3 : Int32) then (gA 2468 (1 : Int32) <| rv (s1.1 513 (1 : Int32).toNatClampNeg) s1) else if v1 = (4 : Int32) then (gA 2468 (2 : Int32) <| if ¬ (s1.1 513 (2 : Int32).toNatClampNeg) = (1 : Int32) then (rv (-1 : Int32) s1) else (gA 2468 (770 : Int32) <| rv (s1.1 513 (770 : Int32).toNatClampNeg) s1)) else if v1 = (5 : Int32) then (gA 2468 (3 : Int32) <| rv (s1.1 513 (3 : Int32).toNatClampNeg) s1) else if v1 = (6 : Int32) then (gA 2468 (4 : Int32) <| rv (s1.1 513 (4 : Int32).toNatClampNeg) s1) else if v1 = (7 : Int32) then (gA 2468 (5 : Int32) <| rv (s1.1 513 (5 : Int32).toNatClampNeg) s1) else if v1 = (8 : Int32) then (bN (q339 s1) fun x13 s12 => rv x13 s12) else if v1 = (9 : Int32) then (gA 2468 (7 : Int32) <| rv (s1.1 513 (7 : Int32).toNatClampNeg) s1) else if v1 = (10 : Int32) then (bN (q279 s1) fun x15 s14 => rv x15 s14) else if v1 = (11 : Int32) then (bN (q340 s1) fun x17 s16 => rv x17 s16) else if v1 = (12 : Int32) then (gA 2468 (6 : Int32) <| rv (s1.1 513 (6 : Int32).toNatClampNeg) s1) else if v1 = (13 : Int32) then (rv (s1.1 512 7) s1) else (rv (-1 : Int32) s1)
theorem c341 {L : Nat} {xs : Nat → Int32} {v1 : Int32} {s : mS} {r : mQ} (h : q341 v1 s = some r) : ∀ d, 3 ≤ d → Cl L xs d 341 [.ref 512, .int v1] (hp s) (hr r) := by
  intro d hd
  show Ev L xs d 341 0 [(0, .ref 512), (1, .int v1)] [] (hp s) (hr r)
  unfold q341 at h
  refine Ev.aload_n H341 i341_0 rfl ?_
  refine Ev.iconst H341 i341_1 kI_0 ?_
  refine Rd.putI H341 i341_2 ob11 rfl ty11_0.1 ty11_0.2 h (fun s1 h => ?_)
  refine Ev.iload_n H341 i341_5 rfl ?_
  refine Rd.sw h (fun hc h => ?_) (fun hc0 h => ?_)
  · refine Rd.tsw H341 i341_6 (t := 76) (by rw [hc]; decide) ?_
    refine Ev.aload_n H341 i341_76 rfl ?_
    refine Rd.cV0vN H341 i341_77 cal198 ob11 (Nat.le_of_ble_eq_true rfl) (Nat.le_of_ble_eq_true rfl) (Nat.lt_of_lt_of_le (by decide) hd) (fun q hq => c198 hq) h (fun x3 s2 h => ?_)
    exact Rd.ireturn H341 i341_80 rfl h
  refine Rd.sw h (fun hc h => ?_) (fun hc1 h => ?_)
  · refine Rd.tsw H341 i341_6 (t := 81) (by rw [hc]; decide) ?_
    refine Ev.aload_n H341 i341_81 rfl ?_
    refine Ev.iconst H341 i341_82 kI_1 ?_
    refine Rd.cV1vN H341 i341_83 cal208 ob11 (Nat.le_of_ble_eq_true rfl) (Nat.le_of_ble_eq_true rfl) (Nat.lt_of_lt_of_le (by decide) hd) (fun q hq => c208 hq) h (fun x5 s4 h => ?_)
    refine Rd.cS1vN H341 i341_86 cal343 (Nat.le_of_ble_eq_true rfl) (Nat.le_of_ble_eq_true rfl) (Nat.lt_of_lt_of_le (by decide) hd) (fun q hq => c343 hq) h (fun x7 s6 h => ?_)
    exact Rd.ireturn H341 i341_89 rfl h
  refine Rd.sw h (fun hc h => ?_) (fun hc2 h => ?_)
  · refine Rd.tsw H341 i341_6 (t := 90) (by rw [hc]; decide) ?_
    refine Ev.aload_n H341 i341_90 rfl ?_
    refine Ev.iconst H341 i341_91 kI_2 ?_
    refine Rd.cV1vN H341 i341_92 cal208 ob11 (Nat.le_of_ble_eq_true rfl) (Nat.le_of_ble_eq_true rfl) (Nat.lt_of_lt_of_le (by decide) hd) (fun q hq => c208 hq) h (fun x9 s8 h => ?_)
    refine Rd.cS1vN H341 i341_95 cal343 (Nat.le_of_ble_eq_true rfl) (Nat.le_of_ble_eq_true rfl) (Nat.lt_of_lt_of_le (by decide) hd) (fun q hq => c343 hq) h (fun x11 s10 h => ?_)
    exact Rd.ireturn H341 i341_98 rfl h
  refine Rd.sw h (fun hc h => ?_) (fun hc3 h => ?_)
  · refine Rd.tsw H341 i341_6 (t := 99) (by rw [hc]; decide) ?_
    refine Ev.aload_n H341 i341_99 rfl ?_
    refine Rd.getR H341 i341_100 ob11 rfl ?_
    refine Ev.iconst H341 i341_103 kI_1 ?_
    refine Rd.iaload H341 i341_104 ar_513 h (fun h => ?_)
    exact Rd.ireturn H341 i341_105 rfl h
  refine Rd.sw h (fun hc h => ?_) (fun hc4 h => ?_)
  · refine Rd.tsw H341 i341_6 (t := 106) (by rw [hc]; decide) ?_
    refine Ev.aload_n H341 i341_106 rfl ?_
    refine Rd.getR H341 i341_107 ob11 rfl ?_
    refine Ev.iconst H341 i341_110 kI_2 ?_
    refine Rd.iaload H341 i341_111 ar_513 h (fun h => ?_)
    refine Ev.iconst H341 i341_112 kI_1 ?_
    refine Rd.ic_ne H341 i341_113 (t := 127) (by decide) h (fun hc h => ?_) (fun hc h => ?_)
    · refine Ev.iconst H341 i341_127 kI_m1 ?_
      exact Rd.ireturn H341 i341_128 rfl h
    · refine Ev.aload_n H341 i341_116 rfl ?_
      refine Rd.getR H341 i341_117 ob11 rfl ?_
      refine Ev.sipush H341 i341_120 kS_770 ?_
      refine Rd.iaload H341 i341_123 ar_513 h (fun h => ?_)
      refine Ev.goto H341 i341_124 (t := 128) (by decide) ?_
      exact Rd.ireturn H341 i341_128 rfl h
  refine Rd.sw h (fun hc h => ?_) (fun hc5 h => ?_)
  · refine Rd.tsw H341 i341_6 (t := 129) (by rw [hc]; decide) ?_
    refine Ev.aload_n H341 i341_129 rfl ?_
    refine Rd.getR H341 i341_130 ob11 rfl ?_
    refine Ev.iconst H341 i341_133 kI_3 ?_
    refine Rd.iaload H341 i341_134 ar_513 h (fun h => ?_)
    exact Rd.ireturn H341 i341_135 rfl h
  refine Rd.sw h (fun hc h => ?_) (fun hc6 h => ?_)
  · refine Rd.tsw H341 i341_6 (t := 136) (by rw [hc]; decide) ?_
    refine Ev.aload_n H341 i341_136 rfl ?_
    refine Rd.getR H341 i341_137 ob11 rfl ?_
    refine Ev.iconst H341 i341_140 kI_4 ?_
    refine Rd.iaload H341 i341_141 ar_513 h (fun h => ?_)
    exact Rd.ireturn H341 i341_142 rfl h
  refine Rd.sw h (fun hc h => ?_) (fun hc7 h => ?_)
  · refine Rd.tsw H341 i341_6 (t := 143) (by rw [hc]; decide) ?_
    refine Ev.aload_n H341 i341_143 rfl ?_
    refine Rd.getR H341 i341_144 ob11 rfl ?_
    refine Ev.iconst H341 i341_147 kI_5 ?_
    refine Rd.iaload H341 i341_148 ar_513 h (fun h => ?_)
    exact Rd.ireturn H341 i341_149 rfl h
  refine Rd.sw h (fun hc h => ?_) (fun hc8 h => ?_)
  · refine Rd.tsw H341 i341_6 (t := 150) (by rw [hc]; decide) ?_
    refine Ev.aload_n H341 i341_150 rfl ?_
    refine Rd.cV0vN H341 i341_151 cal339 ob11 (Nat.le_of_ble_eq_true rfl) (Nat.le_of_ble_eq_true rfl) (Nat.lt_of_lt_of_le (by decide) hd) (fun q hq => c339 hq) h (fun x13 s12 h => ?_)
    exact Rd.ireturn H341 i341_154 rfl h
  refine Rd.sw h (fun hc h => ?_) (fun hc9 h => ?_)
  · refine Rd.tsw H341 i341_6 (t := 155) (by rw [hc]; decide) ?_
    refine Ev.aload_n H341 i341_155 rfl ?_
    refine Rd.getR H341 i341_156 ob11 rfl ?_
    refine Ev.bipush H341 i341_159 kB_7 ?_
    refine Rd.iaload H341 i341_161 ar_513 h (fun h => ?_)
    exact Rd.ireturn H341 i341_162 rfl h
  refine Rd.sw h (fun hc h => ?_) (fun hc10 h => ?_)
  · refine Rd.tsw H341 i341_6 (t := 163) (by rw [hc]; decide) ?_
    refine Ev.aload_n H341 i341_163 rfl ?_
    refine Rd.cV0vN H341 i341_164 cal279 ob11 (Nat.le_of_ble_eq_true rfl) (Nat.le_of_ble_eq_true rfl) (Nat.lt_of_lt_of_le (by decide) hd) (fun q hq => c279 hq) h (fun x15 s14 h => ?_)
    exact Rd.ireturn H341 i341_167 rfl h
  refine Rd.sw h (fun hc h => ?_) (fun hc11 h => ?_)
  · refine Rd.tsw H341 i341_6 (t := 168) (by rw [hc]; decide) ?_
    refine Ev.aload_n H341 i341_168 rfl ?_
    refine Rd.cV0vN H341 i341_169 cal340 ob11 (Nat.le_of_ble_eq_true rfl) (Nat.le_of_ble_eq_true rfl) (Nat.lt_of_lt_of_le (by decide) hd) (fun q hq => c340 hq) h (fun x17 s16 h => ?_)
    exact Rd.ireturn H341 i341_172 rfl h
  refine Rd.sw h (fun hc h => ?_) (fun hc12 h => ?_)
  · refine Rd.tsw H341 i341_6 (t := 173) (by rw [hc]; decide) ?_
    refine Ev.aload_n H341 i341_173 rfl ?_
    refine Rd.getR H341 i341_174 ob11 rfl ?_
    refine Ev.bipush H341 i341_177 kB_6 ?_
    refine Rd.iaload H341 i341_179 ar_513 h (fun h => ?_)
    exact Rd.ireturn H341 i341_180 rfl h
  refine Rd.sw h (fun hc h => ?_) (fun hc13 h => ?_)
  · refine Rd.tsw H341 i341_6 (t := 181) (by rw [hc]; decide) ?_
    refine Ev.aload_n H341 i341_181 rfl ?_
    refine Rd.getI H341 i341_182 ob11 rfl ?_
    exact Rd.ireturn H341 i341_185 rfl h
  have hsw : ∀ k : Nat, k < 14 → ¬ v1 = Int32.ofInt (0 + k) := fun k hk => match k, hk with
    | 0, _ => hc0
    | 1, _ => hc1
    | 2, _ => hc2
    | 3, _ => hc3
    | 4, _ => hc4
    | 5, _ => hc5
    | 6, _ => hc6
    | 7, _ => hc7
    | 8, _ => hc8
    | 9, _ => hc9
    | 10, _ => hc10
    | 11, _ => hc11
    | 12, _ => hc12
    | 13, _ => hc13
    | k + 14, hk => absurd hk (by omega)
  have hsq : v1.toInt < 0 ∨ 13 < v1.toInt := by have hq := mm_sw hsw; omega
  refine Rd.tsw H341 i341_6 (t := 186) (by rw [if_pos hsq]; decide) ?_
  refine Ev.iconst H341 i341_186 kI_m1 ?_
  exact Rd.ireturn H341 i341_187 rfl h
theorem i344_0 : mm_cd 344 0 = some (.aload_n 1, 1, 0, 0) := rfl
theorem i344_1 : mm_cd 344 1 = some (.iconst 0, 1, 0, 0) := rfl
theorem i344_2 : mm_cd 344 2 = some (.aload_n 0, 1, 0, 0) := rfl
theorem i344_3 : mm_cd 344 3 = some (.invokevirtual 7, 3, 0, 130) := rfl
theorem i344_6 : mm_cd 344 6 = some (.i2l, 1, 0, 0) := rfl
theorem i344_7 : mm_cd 344 7 = some (.lastore, 1, 0, 0) := rfl
theorem i344_8 : mm_cd 344 8 = some (.goto 9, 3, 0, 0) := rfl
theorem i344_17 : mm_cd 344 17 = some (.iconst 0, 1, 0, 0) := rfl
theorem i344_18 : mm_cd 344 18 = some (.ireturn, 1, 0, 0) := rfl
/-- SerialGateLaw.store(LSerialGate;[J)I -/
def q344 (s : mS) : Option mQ := bC [(0, 11, 1), (1, 14, 2)] (q130 s) fun x2 s1 => gA 1 (0 : Int32) <| sp (sL s1 524 (0 : Int32).toNatClampNeg x2.toInt64) fun s3 => rv (0 : Int32) s3
theorem c344 {L : Nat} {xs : Nat → Int32} {s : mS} {r : mQ} (h : q344 s = some r) : ∀ d, 8 ≤ d → Cl L xs d 344 [.ref 0, .ref 524] (hp s) (hr r) := by
  intro d hd
  show Ev L xs d 344 0 [(0, .ref 0), (1, .ref 524)] [] (hp s) (hr r)
  unfold q344 at h
  refine Ev.aload_n H344 i344_0 rfl ?_
  refine Ev.iconst H344 i344_1 kI_0 ?_
  refine Ev.aload_n H344 i344_2 rfl ?_
  refine Rd.cV0vC H344 i344_3 cal130 ob10 (Nat.le_of_ble_eq_true rfl) (Nat.le_of_ble_eq_true rfl) rfl (Nat.lt_of_lt_of_le (by decide) hd) (fun q hq => c130 hq) h (fun x2 s1 h => ?_)
  refine Ev.i2l H344 i344_6 ?_
  refine Rd.lastore H344 i344_7 ar_524 h (fun s3 h => ?_)
  refine Ev.goto H344 i344_8 (t := 17) (by decide) ?_
  refine Ev.iconst H344 i344_17 kI_0 ?_
  exact Rd.ireturn H344 i344_18 rfl h
theorem i345_0 : mm_cd 345 0 = some (.aload_n 1, 1, 0, 0) := rfl
theorem i345_1 : mm_cd 345 1 = some (.iconst 0, 1, 0, 0) := rfl
theorem i345_2 : mm_cd 345 2 = some (.aload_n 0, 1, 0, 0) := rfl
theorem i345_3 : mm_cd 345 3 = some (.invokevirtual 17, 3, 0, 131) := rfl
theorem i345_6 : mm_cd 345 6 = some (.i2l, 1, 0, 0) := rfl
theorem i345_7 : mm_cd 345 7 = some (.lastore, 1, 0, 0) := rfl
theorem i345_8 : mm_cd 345 8 = some (.goto 6, 3, 0, 0) := rfl
theorem i345_14 : mm_cd 345 14 = some (.iconst 0, 1, 0, 0) := rfl
theorem i345_15 : mm_cd 345 15 = some (.ireturn, 1, 0, 0) := rfl
/-- SerialGateLaw.law(LSerialGate;[J)I -/
def q345 (s : mS) : Option mQ := bC [(0, 11, 1)] (q131 s) fun x2 s1 => gA 1 (0 : Int32) <| sp (sL s1 524 (0 : Int32).toNatClampNeg x2.toInt64) fun s3 => rv (0 : Int32) s3
theorem c345 {L : Nat} {xs : Nat → Int32} {s : mS} {r : mQ} (h : q345 s = some r) : ∀ d, 8 ≤ d → Cl L xs d 345 [.ref 0, .ref 524] (hp s) (hr r) := by
  intro d hd
  show Ev L xs d 345 0 [(0, .ref 0), (1, .ref 524)] [] (hp s) (hr r)
  unfold q345 at h
  refine Ev.aload_n H345 i345_0 rfl ?_
  refine Ev.iconst H345 i345_1 kI_0 ?_
  refine Ev.aload_n H345 i345_2 rfl ?_
  refine Rd.cV0vC H345 i345_3 cal131 ob10 (Nat.le_of_ble_eq_true rfl) (Nat.le_of_ble_eq_true rfl) rfl (Nat.lt_of_lt_of_le (by decide) hd) (fun q hq => c131 hq) h (fun x2 s1 h => ?_)
  refine Ev.i2l H345 i345_6 ?_
  refine Rd.lastore H345 i345_7 ar_524 h (fun s3 h => ?_)
  refine Ev.goto H345 i345_8 (t := 14) (by decide) ?_
  refine Ev.iconst H345 i345_14 kI_0 ?_
  exact Rd.ireturn H345 i345_15 rfl h
theorem i346_0 : mm_cd 346 0 = some (.aload_n 3, 1, 0, 0) := rfl
theorem i346_1 : mm_cd 346 1 = some (.iconst 0, 1, 0, 0) := rfl
theorem i346_2 : mm_cd 346 2 = some (.aload_n 0, 1, 0, 0) := rfl
theorem i346_3 : mm_cd 346 3 = some (.iload_n 1, 1, 0, 0) := rfl
theorem i346_4 : mm_cd 346 4 = some (.iload_n 2, 1, 0, 0) := rfl
theorem i346_5 : mm_cd 346 5 = some (.invokevirtual 20, 3, 0, 134) := rfl
theorem i346_8 : mm_cd 346 8 = some (.i2l, 1, 0, 0) := rfl
theorem i346_9 : mm_cd 346 9 = some (.lastore, 1, 0, 0) := rfl
theorem i346_10 : mm_cd 346 10 = some (.goto 11, 3, 0, 0) := rfl
theorem i346_21 : mm_cd 346 21 = some (.iconst 0, 1, 0, 0) := rfl
theorem i346_22 : mm_cd 346 22 = some (.ireturn, 1, 0, 0) := rfl
/-- SerialGateLaw.slot(LSerialGate;II[J)I -/
def q346 (v1 : Int32) (v2 : Int32) (s : mS) : Option mQ := bC [(2, 13, 1), (3, 17, 2)] (q134 v1 v2 s) fun x2 s1 => gA 1 (0 : Int32) <| sp (sL s1 524 (0 : Int32).toNatClampNeg x2.toInt64) fun s3 => rv (0 : Int32) s3
theorem c346 {L : Nat} {xs : Nat → Int32} {v1 : Int32} {v2 : Int32} {s : mS} {r : mQ} (h : q346 v1 v2 s = some r) : ∀ d, 4 ≤ d → Cl L xs d 346 [.ref 0, .int v1, .int v2, .ref 524] (hp s) (hr r) := by
  intro d hd
  show Ev L xs d 346 0 [(0, .ref 0), (1, .int v1), (2, .int v2), (3, .ref 524)] [] (hp s) (hr r)
  unfold q346 at h
  refine Ev.aload_n H346 i346_0 rfl ?_
  refine Ev.iconst H346 i346_1 kI_0 ?_
  refine Ev.aload_n H346 i346_2 rfl ?_
  refine Ev.iload_n H346 i346_3 rfl ?_
  refine Ev.iload_n H346 i346_4 rfl ?_
  refine Rd.cV2vC H346 i346_5 cal134 ob10 (Nat.le_of_ble_eq_true rfl) (Nat.le_of_ble_eq_true rfl) rfl (Nat.lt_of_lt_of_le (by decide) hd) (fun q hq => c134 hq) h (fun x2 s1 h => ?_)
  refine Ev.i2l H346 i346_8 ?_
  refine Rd.lastore H346 i346_9 ar_524 h (fun s3 h => ?_)
  refine Ev.goto H346 i346_10 (t := 21) (by decide) ?_
  refine Ev.iconst H346 i346_21 kI_0 ?_
  exact Rd.ireturn H346 i346_22 rfl h
theorem i347_0 : mm_cd 347 0 = some (.aload_n 3, 1, 0, 0) := rfl
theorem i347_1 : mm_cd 347 1 = some (.iconst 0, 1, 0, 0) := rfl
theorem i347_2 : mm_cd 347 2 = some (.aload_n 0, 1, 0, 0) := rfl
theorem i347_3 : mm_cd 347 3 = some (.iload_n 1, 1, 0, 0) := rfl
theorem i347_4 : mm_cd 347 4 = some (.iload_n 2, 1, 0, 0) := rfl
theorem i347_5 : mm_cd 347 5 = some (.invokevirtual 28, 3, 0, 135) := rfl
theorem i347_8 : mm_cd 347 8 = some (.i2l, 1, 0, 0) := rfl
theorem i347_9 : mm_cd 347 9 = some (.lastore, 1, 0, 0) := rfl
theorem i347_10 : mm_cd 347 10 = some (.goto 7, 3, 0, 0) := rfl
theorem i347_17 : mm_cd 347 17 = some (.iconst 0, 1, 0, 0) := rfl
theorem i347_18 : mm_cd 347 18 = some (.ireturn, 1, 0, 0) := rfl
/-- SerialGateLaw.seen(LSerialGate;II[J)I -/
def q347 (v1 : Int32) (v2 : Int32) (s : mS) : Option mQ := bC [(2, 13, 1)] (q135 v1 v2 s) fun x2 s1 => gA 1 (0 : Int32) <| sp (sL s1 524 (0 : Int32).toNatClampNeg x2.toInt64) fun s3 => rv (0 : Int32) s3
theorem c347 {L : Nat} {xs : Nat → Int32} {v1 : Int32} {v2 : Int32} {s : mS} {r : mQ} (h : q347 v1 v2 s = some r) : ∀ d, 2 ≤ d → Cl L xs d 347 [.ref 0, .int v1, .int v2, .ref 524] (hp s) (hr r) := by
  intro d hd
  show Ev L xs d 347 0 [(0, .ref 0), (1, .int v1), (2, .int v2), (3, .ref 524)] [] (hp s) (hr r)
  unfold q347 at h
  refine Ev.aload_n H347 i347_0 rfl ?_
  refine Ev.iconst H347 i347_1 kI_0 ?_
  refine Ev.aload_n H347 i347_2 rfl ?_
  refine Ev.iload_n H347 i347_3 rfl ?_
  refine Ev.iload_n H347 i347_4 rfl ?_
  refine Rd.cV2vC H347 i347_5 cal135 ob10 (Nat.le_of_ble_eq_true rfl) (Nat.le_of_ble_eq_true rfl) rfl (Nat.lt_of_lt_of_le (by decide) hd) (fun q hq => c135 hq) h (fun x2 s1 h => ?_)
  refine Ev.i2l H347 i347_8 ?_
  refine Rd.lastore H347 i347_9 ar_524 h (fun s3 h => ?_)
  refine Ev.goto H347 i347_10 (t := 17) (by decide) ?_
  refine Ev.iconst H347 i347_17 kI_0 ?_
  exact Rd.ireturn H347 i347_18 rfl h
theorem i348_0 : mm_cd 348 0 = some (.aload_n 3, 1, 0, 0) := rfl
theorem i348_1 : mm_cd 348 1 = some (.iconst 0, 1, 0, 0) := rfl
theorem i348_2 : mm_cd 348 2 = some (.aload_n 0, 1, 0, 0) := rfl
theorem i348_3 : mm_cd 348 3 = some (.iload_n 1, 1, 0, 0) := rfl
theorem i348_4 : mm_cd 348 4 = some (.iload_n 2, 1, 0, 0) := rfl
theorem i348_5 : mm_cd 348 5 = some (.invokevirtual 31, 3, 0, 136) := rfl
theorem i348_8 : mm_cd 348 8 = some (.i2l, 1, 0, 0) := rfl
theorem i348_9 : mm_cd 348 9 = some (.lastore, 1, 0, 0) := rfl
theorem i348_10 : mm_cd 348 10 = some (.goto 11, 3, 0, 0) := rfl
theorem i348_21 : mm_cd 348 21 = some (.iconst 0, 1, 0, 0) := rfl
theorem i348_22 : mm_cd 348 22 = some (.ireturn, 1, 0, 0) := rfl
/-- SerialGateLaw.key(LSerialGate;II[J)I -/
def q348 (v1 : Int32) (v2 : Int32) (s : mS) : Option mQ := bC [(2, 13, 1), (3, 17, 2)] (q136 v1 v2 s) fun x2 s1 => gA 1 (0 : Int32) <| sp (sL s1 524 (0 : Int32).toNatClampNeg x2.toInt64) fun s3 => rv (0 : Int32) s3
theorem c348 {L : Nat} {xs : Nat → Int32} {v1 : Int32} {v2 : Int32} {s : mS} {r : mQ} (h : q348 v1 v2 s = some r) : ∀ d, 2 ≤ d → Cl L xs d 348 [.ref 0, .int v1, .int v2, .ref 524] (hp s) (hr r) := by
  intro d hd
  show Ev L xs d 348 0 [(0, .ref 0), (1, .int v1), (2, .int v2), (3, .ref 524)] [] (hp s) (hr r)
  unfold q348 at h
  refine Ev.aload_n H348 i348_0 rfl ?_
  refine Ev.iconst H348 i348_1 kI_0 ?_
  refine Ev.aload_n H348 i348_2 rfl ?_
  refine Ev.iload_n H348 i348_3 rfl ?_
  refine Ev.iload_n H348 i348_4 rfl ?_
  refine Rd.cV2vC H348 i348_5 cal136 ob10 (Nat.le_of_ble_eq_true rfl) (Nat.le_of_ble_eq_true rfl) rfl (Nat.lt_of_lt_of_le (by decide) hd) (fun q hq => c136 hq) h (fun x2 s1 h => ?_)
  refine Ev.i2l H348 i348_8 ?_
  refine Rd.lastore H348 i348_9 ar_524 h (fun s3 h => ?_)
  refine Ev.goto H348 i348_10 (t := 21) (by decide) ?_
  refine Ev.iconst H348 i348_21 kI_0 ?_
  exact Rd.ireturn H348 i348_22 rfl h
theorem i349_0 : mm_cd 349 0 = some (.aload_n 3, 1, 0, 0) := rfl
theorem i349_1 : mm_cd 349 1 = some (.iconst 0, 1, 0, 0) := rfl
theorem i349_2 : mm_cd 349 2 = some (.aload_n 0, 1, 0, 0) := rfl
theorem i349_3 : mm_cd 349 3 = some (.iload_n 1, 1, 0, 0) := rfl
theorem i349_4 : mm_cd 349 4 = some (.iload_n 2, 1, 0, 0) := rfl
theorem i349_5 : mm_cd 349 5 = some (.invokevirtual 34, 3, 0, 137) := rfl
theorem i349_8 : mm_cd 349 8 = some (.i2l, 1, 0, 0) := rfl
theorem i349_9 : mm_cd 349 9 = some (.lastore, 1, 0, 0) := rfl
theorem i349_10 : mm_cd 349 10 = some (.goto 11, 3, 0, 0) := rfl
theorem i349_21 : mm_cd 349 21 = some (.iconst 0, 1, 0, 0) := rfl
theorem i349_22 : mm_cd 349 22 = some (.ireturn, 1, 0, 0) := rfl
/-- SerialGateLaw.client(LSerialGate;II[J)I -/
def q349 (v1 : Int32) (v2 : Int32) (s : mS) : Option mQ := bC [(2, 13, 1), (3, 17, 2)] (q137 v1 v2 s) fun x2 s1 => gA 1 (0 : Int32) <| sp (sL s1 524 (0 : Int32).toNatClampNeg x2.toInt64) fun s3 => rv (0 : Int32) s3
theorem c349 {L : Nat} {xs : Nat → Int32} {v1 : Int32} {v2 : Int32} {s : mS} {r : mQ} (h : q349 v1 v2 s = some r) : ∀ d, 14 ≤ d → Cl L xs d 349 [.ref 0, .int v1, .int v2, .ref 524] (hp s) (hr r) := by
  intro d hd
  show Ev L xs d 349 0 [(0, .ref 0), (1, .int v1), (2, .int v2), (3, .ref 524)] [] (hp s) (hr r)
  unfold q349 at h
  refine Ev.aload_n H349 i349_0 rfl ?_
  refine Ev.iconst H349 i349_1 kI_0 ?_
  refine Ev.aload_n H349 i349_2 rfl ?_
  refine Ev.iload_n H349 i349_3 rfl ?_
  refine Ev.iload_n H349 i349_4 rfl ?_
  refine Rd.cV2vC H349 i349_5 cal137 ob10 (Nat.le_of_ble_eq_true rfl) (Nat.le_of_ble_eq_true rfl) rfl (Nat.lt_of_lt_of_le (by decide) hd) (fun q hq => c137 hq) h (fun x2 s1 h => ?_)
  refine Ev.i2l H349 i349_8 ?_
  refine Rd.lastore H349 i349_9 ar_524 h (fun s3 h => ?_)
  refine Ev.goto H349 i349_10 (t := 21) (by decide) ?_
  refine Ev.iconst H349 i349_21 kI_0 ?_
  exact Rd.ireturn H349 i349_22 rfl h
theorem i350_0 : mm_cd 350 0 = some (.aload_n 2, 1, 0, 0) := rfl
theorem i350_1 : mm_cd 350 1 = some (.iconst 0, 1, 0, 0) := rfl
theorem i350_2 : mm_cd 350 2 = some (.aload_n 0, 1, 0, 0) := rfl
theorem i350_3 : mm_cd 350 3 = some (.iload_n 1, 1, 0, 0) := rfl
theorem i350_4 : mm_cd 350 4 = some (.invokevirtual 37, 3, 0, 138) := rfl
theorem i350_7 : mm_cd 350 7 = some (.i2l, 1, 0, 0) := rfl
theorem i350_8 : mm_cd 350 8 = some (.lastore, 1, 0, 0) := rfl
theorem i350_9 : mm_cd 350 9 = some (.goto 6, 3, 0, 0) := rfl
theorem i350_15 : mm_cd 350 15 = some (.iconst 0, 1, 0, 0) := rfl
theorem i350_16 : mm_cd 350 16 = some (.ireturn, 1, 0, 0) := rfl
/-- SerialGateLaw.ticks(LSerialGate;I[J)I -/
def q350 (v1 : Int32) (s : mS) : Option mQ := bC [(0, 12, 1)] (q138 v1 s) fun x2 s1 => gA 1 (0 : Int32) <| sp (sL s1 524 (0 : Int32).toNatClampNeg x2.toInt64) fun s3 => rv (0 : Int32) s3
theorem c350 {L : Nat} {xs : Nat → Int32} {v1 : Int32} {s : mS} {r : mQ} (h : q350 v1 s = some r) : ∀ d, 8 ≤ d → Cl L xs d 350 [.ref 0, .int v1, .ref 524] (hp s) (hr r) := by
  intro d hd
  show Ev L xs d 350 0 [(0, .ref 0), (1, .int v1), (2, .ref 524)] [] (hp s) (hr r)
  unfold q350 at h
  refine Ev.aload_n H350 i350_0 rfl ?_
  refine Ev.iconst H350 i350_1 kI_0 ?_
  refine Ev.aload_n H350 i350_2 rfl ?_
  refine Ev.iload_n H350 i350_3 rfl ?_
  refine Rd.cV1vC H350 i350_4 cal138 ob10 (Nat.le_of_ble_eq_true rfl) (Nat.le_of_ble_eq_true rfl) rfl (Nat.lt_of_lt_of_le (by decide) hd) (fun q hq => c138 hq) h (fun x2 s1 h => ?_)
  refine Ev.i2l H350 i350_7 ?_
  refine Rd.lastore H350 i350_8 ar_524 h (fun s3 h => ?_)
  refine Ev.goto H350 i350_9 (t := 15) (by decide) ?_
  refine Ev.iconst H350 i350_15 kI_0 ?_
  exact Rd.ireturn H350 i350_16 rfl h
theorem i351_0 : mm_cd 351 0 = some (.aload_n 2, 1, 0, 0) := rfl
theorem i351_1 : mm_cd 351 1 = some (.iconst 0, 1, 0, 0) := rfl
theorem i351_2 : mm_cd 351 2 = some (.aload_n 0, 1, 0, 0) := rfl
theorem i351_3 : mm_cd 351 3 = some (.iload_n 1, 1, 0, 0) := rfl
theorem i351_4 : mm_cd 351 4 = some (.invokevirtual 41, 3, 0, 139) := rfl
theorem i351_7 : mm_cd 351 7 = some (.i2l, 1, 0, 0) := rfl
theorem i351_8 : mm_cd 351 8 = some (.lastore, 1, 0, 0) := rfl
theorem i351_9 : mm_cd 351 9 = some (.goto 9, 3, 0, 0) := rfl
theorem i351_18 : mm_cd 351 18 = some (.iconst 0, 1, 0, 0) := rfl
theorem i351_19 : mm_cd 351 19 = some (.ireturn, 1, 0, 0) := rfl
/-- SerialGateLaw.begin(LSerialGate;I[J)I -/
def q351 (v1 : Int32) (s : mS) : Option mQ := bC [(2, 12, 1), (4, 15, 2)] (q139 v1 s) fun x2 s1 => gA 1 (0 : Int32) <| sp (sL s1 524 (0 : Int32).toNatClampNeg x2.toInt64) fun s3 => rv (0 : Int32) s3
theorem c351 {L : Nat} {xs : Nat → Int32} {v1 : Int32} {s : mS} {r : mQ} (h : q351 v1 s = some r) : ∀ d, 4 ≤ d → Cl L xs d 351 [.ref 0, .int v1, .ref 524] (hp s) (hr r) := by
  intro d hd
  show Ev L xs d 351 0 [(0, .ref 0), (1, .int v1), (2, .ref 524)] [] (hp s) (hr r)
  unfold q351 at h
  refine Ev.aload_n H351 i351_0 rfl ?_
  refine Ev.iconst H351 i351_1 kI_0 ?_
  refine Ev.aload_n H351 i351_2 rfl ?_
  refine Ev.iload_n H351 i351_3 rfl ?_
  refine Rd.cV1vC H351 i351_4 cal139 ob10 (Nat.le_of_ble_eq_true rfl) (Nat.le_of_ble_eq_true rfl) rfl (Nat.lt_of_lt_of_le (by decide) hd) (fun q hq => c139 hq) h (fun x2 s1 h => ?_)
  refine Ev.i2l H351 i351_7 ?_
  refine Rd.lastore H351 i351_8 ar_524 h (fun s3 h => ?_)
  refine Ev.goto H351 i351_9 (t := 18) (by decide) ?_
  refine Ev.iconst H351 i351_18 kI_0 ?_
  exact Rd.ireturn H351 i351_19 rfl h
theorem i352_0 : mm_cd 352 0 = some (.aload_n 3, 1, 0, 0) := rfl
theorem i352_1 : mm_cd 352 1 = some (.iconst 0, 1, 0, 0) := rfl
theorem i352_2 : mm_cd 352 2 = some (.aload_n 0, 1, 0, 0) := rfl
theorem i352_3 : mm_cd 352 3 = some (.iload_n 1, 1, 0, 0) := rfl
theorem i352_4 : mm_cd 352 4 = some (.iload_n 2, 1, 0, 0) := rfl
theorem i352_5 : mm_cd 352 5 = some (.invokevirtual 46, 3, 0, 140) := rfl
theorem i352_8 : mm_cd 352 8 = some (.i2l, 1, 0, 0) := rfl
theorem i352_9 : mm_cd 352 9 = some (.lastore, 1, 0, 0) := rfl
theorem i352_10 : mm_cd 352 10 = some (.goto 11, 3, 0, 0) := rfl
theorem i352_21 : mm_cd 352 21 = some (.iconst 0, 1, 0, 0) := rfl
theorem i352_22 : mm_cd 352 22 = some (.ireturn, 1, 0, 0) := rfl
/-- SerialGateLaw.read(LSerialGate;II[J)I -/
def q352 (v1 : Int32) (v2 : Int32) (s : mS) : Option mQ := bC [(2, 13, 1), (4, 17, 2)] (q140 v1 v2 s) fun x2 s1 => gA 1 (0 : Int32) <| sp (sL s1 524 (0 : Int32).toNatClampNeg x2.toInt64) fun s3 => rv (0 : Int32) s3
theorem c352 {L : Nat} {xs : Nat → Int32} {v1 : Int32} {v2 : Int32} {s : mS} {r : mQ} (h : q352 v1 v2 s = some r) : ∀ d, 7 ≤ d → Cl L xs d 352 [.ref 0, .int v1, .int v2, .ref 524] (hp s) (hr r) := by
  intro d hd
  show Ev L xs d 352 0 [(0, .ref 0), (1, .int v1), (2, .int v2), (3, .ref 524)] [] (hp s) (hr r)
  unfold q352 at h
  refine Ev.aload_n H352 i352_0 rfl ?_
  refine Ev.iconst H352 i352_1 kI_0 ?_
  refine Ev.aload_n H352 i352_2 rfl ?_
  refine Ev.iload_n H352 i352_3 rfl ?_
  refine Ev.iload_n H352 i352_4 rfl ?_
  refine Rd.cV2vC H352 i352_5 cal140 ob10 (Nat.le_of_ble_eq_true rfl) (Nat.le_of_ble_eq_true rfl) rfl (Nat.lt_of_lt_of_le (by decide) hd) (fun q hq => c140 hq) h (fun x2 s1 h => ?_)
  refine Ev.i2l H352 i352_8 ?_
  refine Rd.lastore H352 i352_9 ar_524 h (fun s3 h => ?_)
  refine Ev.goto H352 i352_10 (t := 21) (by decide) ?_
  refine Ev.iconst H352 i352_21 kI_0 ?_
  exact Rd.ireturn H352 i352_22 rfl h
theorem i353_0 : mm_cd 353 0 = some (.aload_n 3, 1, 0, 0) := rfl
theorem i353_1 : mm_cd 353 1 = some (.iconst 0, 1, 0, 0) := rfl
theorem i353_2 : mm_cd 353 2 = some (.aload_n 0, 1, 0, 0) := rfl
theorem i353_3 : mm_cd 353 3 = some (.iload_n 1, 1, 0, 0) := rfl
theorem i353_4 : mm_cd 353 4 = some (.iload_n 2, 1, 0, 0) := rfl
theorem i353_5 : mm_cd 353 5 = some (.invokevirtual 49, 3, 0, 141) := rfl
theorem i353_8 : mm_cd 353 8 = some (.ifCond .eq 7, 3, 0, 0) := rfl
theorem i353_11 : mm_cd 353 11 = some (.lconst 1, 1, 0, 0) := rfl
theorem i353_12 : mm_cd 353 12 = some (.goto 4, 3, 0, 0) := rfl
theorem i353_15 : mm_cd 353 15 = some (.lconst 0, 1, 0, 0) := rfl
theorem i353_16 : mm_cd 353 16 = some (.lastore, 1, 0, 0) := rfl
theorem i353_17 : mm_cd 353 17 = some (.goto 11, 3, 0, 0) := rfl
theorem i353_28 : mm_cd 353 28 = some (.iconst 0, 1, 0, 0) := rfl
theorem i353_29 : mm_cd 353 29 = some (.ireturn, 1, 0, 0) := rfl
def q353_16 (y1 : Int32) (y2 : Int64) (s : mS) : Option mQ := gA 1 y1 <| sp (sL s 524 y1.toNatClampNeg y2) fun s1 => rv (0 : Int32) s1
theorem t353_16 {L : Nat} {xs : Nat → Int32} {d : Nat} (hd : 7 ≤ d) {y1 : Int32} {y2 : Int64} {s : mS} {r : mQ} (h : q353_16 y1 y2 s = some r) : Ev L xs d 353 16 [] [.long y2, .int y1, .ref 524] (hp s) (hr r) := by
  unfold q353_16 at h
  refine Rd.lastore H353 i353_16 ar_524 h (fun s1 h => ?_)
  refine Ev.goto H353 i353_17 (t := 28) (by decide) ?_
  refine Ev.iconst H353 i353_28 kI_0 ?_
  exact Rd.ireturn H353 i353_29 rfl h
/-- SerialGateLaw.write(LSerialGate;II[J)I -/
def q353 (v1 : Int32) (v2 : Int32) (s : mS) : Option mQ := bC [(2, 20, 1), (4, 24, 2)] (q141 v1 v2 s) fun x3 s2 => if x3 = 0 then (q353_16 (0 : Int32) (0 : Int64) s2) else (q353_16 (0 : Int32) (1 : Int64) s2)
theorem c353 {L : Nat} {xs : Nat → Int32} {v1 : Int32} {v2 : Int32} {s : mS} {r : mQ} (h : q353 v1 v2 s = some r) : ∀ d, 7 ≤ d → Cl L xs d 353 [.ref 0, .int v1, .int v2, .ref 524] (hp s) (hr r) := by
  intro d hd
  show Ev L xs d 353 0 [(0, .ref 0), (1, .int v1), (2, .int v2), (3, .ref 524)] [] (hp s) (hr r)
  unfold q353 at h
  refine Ev.aload_n H353 i353_0 rfl ?_
  refine Ev.iconst H353 i353_1 kI_0 ?_
  refine Ev.aload_n H353 i353_2 rfl ?_
  refine Ev.iload_n H353 i353_3 rfl ?_
  refine Ev.iload_n H353 i353_4 rfl ?_
  refine Rd.cV2vC H353 i353_5 cal141 ob10 (Nat.le_of_ble_eq_true rfl) (Nat.le_of_ble_eq_true rfl) rfl (Nat.lt_of_lt_of_le (by decide) hd) (fun q hq => c141 hq) h (fun x3 s2 h => ?_)
  refine Rd.if_eq H353 i353_8 (t := 15) (by decide) h (fun hc h => ?_) (fun hc h => ?_)
  · refine Ev.lconst H353 i353_15 kL_0 ?_
    exact Ev.sub (l := []) rfl rfl mm_sub_n (t353_16 hd h)
  · refine Ev.lconst H353 i353_11 kL_1 ?_
    refine Ev.goto H353 i353_12 (t := 16) (by decide) ?_
    exact Ev.sub (l := []) rfl rfl mm_sub_n (t353_16 hd h)
theorem i354_0 : mm_cd 354 0 = some (.aload_n 2, 1, 0, 0) := rfl
theorem i354_1 : mm_cd 354 1 = some (.iconst 0, 1, 0, 0) := rfl
theorem i354_2 : mm_cd 354 2 = some (.aload_n 0, 1, 0, 0) := rfl
theorem i354_3 : mm_cd 354 3 = some (.iload_n 1, 1, 0, 0) := rfl
theorem i354_4 : mm_cd 354 4 = some (.invokevirtual 53, 3, 0, 142) := rfl
theorem i354_7 : mm_cd 354 7 = some (.i2l, 1, 0, 0) := rfl
theorem i354_8 : mm_cd 354 8 = some (.lastore, 1, 0, 0) := rfl
theorem i354_9 : mm_cd 354 9 = some (.goto 9, 3, 0, 0) := rfl
theorem i354_18 : mm_cd 354 18 = some (.iconst 0, 1, 0, 0) := rfl
theorem i354_19 : mm_cd 354 19 = some (.ireturn, 1, 0, 0) := rfl
/-- SerialGateLaw.commit(LSerialGate;I[J)I -/
def q354 (v1 : Int32) (s : mS) : Option mQ := bC [(2, 12, 1), (4, 15, 2)] (q142 v1 s) fun x2 s1 => gA 1 (0 : Int32) <| sp (sL s1 524 (0 : Int32).toNatClampNeg x2.toInt64) fun s3 => rv (0 : Int32) s3
theorem c354 {L : Nat} {xs : Nat → Int32} {v1 : Int32} {s : mS} {r : mQ} (h : q354 v1 s = some r) : ∀ d, 7 ≤ d → Cl L xs d 354 [.ref 0, .int v1, .ref 524] (hp s) (hr r) := by
  intro d hd
  show Ev L xs d 354 0 [(0, .ref 0), (1, .int v1), (2, .ref 524)] [] (hp s) (hr r)
  unfold q354 at h
  refine Ev.aload_n H354 i354_0 rfl ?_
  refine Ev.iconst H354 i354_1 kI_0 ?_
  refine Ev.aload_n H354 i354_2 rfl ?_
  refine Ev.iload_n H354 i354_3 rfl ?_
  refine Rd.cV1vC H354 i354_4 cal142 ob10 (Nat.le_of_ble_eq_true rfl) (Nat.le_of_ble_eq_true rfl) rfl (Nat.lt_of_lt_of_le (by decide) hd) (fun q hq => c142 hq) h (fun x2 s1 h => ?_)
  refine Ev.i2l H354 i354_7 ?_
  refine Rd.lastore H354 i354_8 ar_524 h (fun s3 h => ?_)
  refine Ev.goto H354 i354_9 (t := 18) (by decide) ?_
  refine Ev.iconst H354 i354_18 kI_0 ?_
  exact Rd.ireturn H354 i354_19 rfl h
theorem i355_0 : mm_cd 355 0 = some (.aload_n 2, 1, 0, 0) := rfl
theorem i355_1 : mm_cd 355 1 = some (.iconst 0, 1, 0, 0) := rfl
theorem i355_2 : mm_cd 355 2 = some (.aload_n 0, 1, 0, 0) := rfl
theorem i355_3 : mm_cd 355 3 = some (.iload_n 1, 1, 0, 0) := rfl
theorem i355_4 : mm_cd 355 4 = some (.invokevirtual 56, 3, 0, 143) := rfl
theorem i355_7 : mm_cd 355 7 = some (.i2l, 1, 0, 0) := rfl
theorem i355_8 : mm_cd 355 8 = some (.lastore, 1, 0, 0) := rfl
theorem i355_9 : mm_cd 355 9 = some (.goto 9, 3, 0, 0) := rfl
theorem i355_18 : mm_cd 355 18 = some (.iconst 0, 1, 0, 0) := rfl
theorem i355_19 : mm_cd 355 19 = some (.ireturn, 1, 0, 0) := rfl
/-- SerialGateLaw.abort(LSerialGate;I[J)I -/
def q355 (v1 : Int32) (s : mS) : Option mQ := bC [(2, 12, 1), (4, 15, 2)] (q143 v1 s) fun x2 s1 => gA 1 (0 : Int32) <| sp (sL s1 524 (0 : Int32).toNatClampNeg x2.toInt64) fun s3 => rv (0 : Int32) s3
theorem c355 {L : Nat} {xs : Nat → Int32} {v1 : Int32} {s : mS} {r : mQ} (h : q355 v1 s = some r) : ∀ d, 4 ≤ d → Cl L xs d 355 [.ref 0, .int v1, .ref 524] (hp s) (hr r) := by
  intro d hd
  show Ev L xs d 355 0 [(0, .ref 0), (1, .int v1), (2, .ref 524)] [] (hp s) (hr r)
  unfold q355 at h
  refine Ev.aload_n H355 i355_0 rfl ?_
  refine Ev.iconst H355 i355_1 kI_0 ?_
  refine Ev.aload_n H355 i355_2 rfl ?_
  refine Ev.iload_n H355 i355_3 rfl ?_
  refine Rd.cV1vC H355 i355_4 cal143 ob10 (Nat.le_of_ble_eq_true rfl) (Nat.le_of_ble_eq_true rfl) rfl (Nat.lt_of_lt_of_le (by decide) hd) (fun q hq => c143 hq) h (fun x2 s1 h => ?_)
  refine Ev.i2l H355 i355_7 ?_
  refine Rd.lastore H355 i355_8 ar_524 h (fun s3 h => ?_)
  refine Ev.goto H355 i355_9 (t := 18) (by decide) ?_
  refine Ev.iconst H355 i355_18 kI_0 ?_
  exact Rd.ireturn H355 i355_19 rfl h
theorem i356_0 : mm_cd 356 0 = some (.aload_n 2, 1, 0, 0) := rfl
theorem i356_1 : mm_cd 356 1 = some (.iconst 0, 1, 0, 0) := rfl
theorem i356_2 : mm_cd 356 2 = some (.aload_n 0, 1, 0, 0) := rfl
theorem i356_3 : mm_cd 356 3 = some (.iload_n 1, 1, 0, 0) := rfl
theorem i356_4 : mm_cd 356 4 = some (.invokevirtual 59, 3, 0, 144) := rfl
theorem i356_7 : mm_cd 356 7 = some (.i2l, 1, 0, 0) := rfl
theorem i356_8 : mm_cd 356 8 = some (.lastore, 1, 0, 0) := rfl
theorem i356_9 : mm_cd 356 9 = some (.goto 6, 3, 0, 0) := rfl
theorem i356_15 : mm_cd 356 15 = some (.iconst 0, 1, 0, 0) := rfl
theorem i356_16 : mm_cd 356 16 = some (.ireturn, 1, 0, 0) := rfl
/-- SerialGateLaw.keep(LSerialGate;I[J)I -/
def q356 (v1 : Int32) (s : mS) : Option mQ := bC [(0, 12, 1)] (q144 v1 s) fun x2 s1 => gA 1 (0 : Int32) <| sp (sL s1 524 (0 : Int32).toNatClampNeg x2.toInt64) fun s3 => rv (0 : Int32) s3
theorem c356 {L : Nat} {xs : Nat → Int32} {v1 : Int32} {s : mS} {r : mQ} (h : q356 v1 s = some r) : ∀ d, 4 ≤ d → Cl L xs d 356 [.ref 0, .int v1, .ref 524] (hp s) (hr r) := by
  intro d hd
  show Ev L xs d 356 0 [(0, .ref 0), (1, .int v1), (2, .ref 524)] [] (hp s) (hr r)
  unfold q356 at h
  refine Ev.aload_n H356 i356_0 rfl ?_
  refine Ev.iconst H356 i356_1 kI_0 ?_
  refine Ev.aload_n H356 i356_2 rfl ?_
  refine Ev.iload_n H356 i356_3 rfl ?_
  refine Rd.cV1vC H356 i356_4 cal144 ob10 (Nat.le_of_ble_eq_true rfl) (Nat.le_of_ble_eq_true rfl) rfl (Nat.lt_of_lt_of_le (by decide) hd) (fun q hq => c144 hq) h (fun x2 s1 h => ?_)
  refine Ev.i2l H356 i356_7 ?_
  refine Rd.lastore H356 i356_8 ar_524 h (fun s3 h => ?_)
  refine Ev.goto H356 i356_9 (t := 15) (by decide) ?_
  refine Ev.iconst H356 i356_15 kI_0 ?_
  exact Rd.ireturn H356 i356_16 rfl h
theorem i357_0 : mm_cd 357 0 = some (.aload 4, 2, 0, 0) := rfl
theorem i357_2 : mm_cd 357 2 = some (.iconst 0, 1, 0, 0) := rfl
theorem i357_3 : mm_cd 357 3 = some (.aload_n 0, 1, 0, 0) := rfl
theorem i357_4 : mm_cd 357 4 = some (.iload_n 1, 1, 0, 0) := rfl
theorem i357_5 : mm_cd 357 5 = some (.iload_n 2, 1, 0, 0) := rfl
theorem i357_6 : mm_cd 357 6 = some (.iload_n 3, 1, 0, 0) := rfl
theorem i357_7 : mm_cd 357 7 = some (.invokevirtual 62, 3, 0, 146) := rfl
theorem i357_10 : mm_cd 357 10 = some (.i2l, 1, 0, 0) := rfl
theorem i357_11 : mm_cd 357 11 = some (.lastore, 1, 0, 0) := rfl
theorem i357_12 : mm_cd 357 12 = some (.goto 15, 3, 0, 0) := rfl
theorem i357_27 : mm_cd 357 27 = some (.iconst 0, 1, 0, 0) := rfl
theorem i357_28 : mm_cd 357 28 = some (.ireturn, 1, 0, 0) := rfl
/-- SerialGateLaw.dooms(LSerialGate;III[J)I -/
def q357 (v1 : Int32) (v2 : Int32) (v3 : Int32) (s : mS) : Option mQ := bC [(2, 15, 1), (0, 19, 2), (4, 23, 3)] (q146 v1 v2 v3 s) fun x2 s1 => gA 1 (0 : Int32) <| sp (sL s1 524 (0 : Int32).toNatClampNeg x2.toInt64) fun s3 => rv (0 : Int32) s3
theorem c357 {L : Nat} {xs : Nat → Int32} {v1 : Int32} {v2 : Int32} {v3 : Int32} {s : mS} {r : mQ} (h : q357 v1 v2 v3 s = some r) : ∀ d, 7 ≤ d → Cl L xs d 357 [.ref 0, .int v1, .int v2, .int v3, .ref 524] (hp s) (hr r) := by
  intro d hd
  show Ev L xs d 357 0 [(0, .ref 0), (1, .int v1), (2, .int v2), (3, .int v3), (4, .ref 524)] [] (hp s) (hr r)
  unfold q357 at h
  refine Ev.aload H357 i357_0 rfl ?_
  refine Ev.iconst H357 i357_2 kI_0 ?_
  refine Ev.aload_n H357 i357_3 rfl ?_
  refine Ev.iload_n H357 i357_4 rfl ?_
  refine Ev.iload_n H357 i357_5 rfl ?_
  refine Ev.iload_n H357 i357_6 rfl ?_
  refine Rd.cV3vC H357 i357_7 cal146 ob10 (Nat.le_of_ble_eq_true rfl) (Nat.le_of_ble_eq_true rfl) rfl (Nat.lt_of_lt_of_le (by decide) hd) (fun q hq => c146 hq) h (fun x2 s1 h => ?_)
  refine Ev.i2l H357 i357_10 ?_
  refine Rd.lastore H357 i357_11 ar_524 h (fun s3 h => ?_)
  refine Ev.goto H357 i357_12 (t := 27) (by decide) ?_
  refine Ev.iconst H357 i357_27 kI_0 ?_
  exact Rd.ireturn H357 i357_28 rfl h
theorem i358_0 : mm_cd 358 0 = some (.aload_n 3, 1, 0, 0) := rfl
theorem i358_1 : mm_cd 358 1 = some (.iconst 0, 1, 0, 0) := rfl
theorem i358_2 : mm_cd 358 2 = some (.aload_n 0, 1, 0, 0) := rfl
theorem i358_3 : mm_cd 358 3 = some (.iload_n 1, 1, 0, 0) := rfl
theorem i358_4 : mm_cd 358 4 = some (.iload_n 2, 1, 0, 0) := rfl
theorem i358_5 : mm_cd 358 5 = some (.invokevirtual 66, 3, 0, 149) := rfl
theorem i358_8 : mm_cd 358 8 = some (.i2l, 1, 0, 0) := rfl
theorem i358_9 : mm_cd 358 9 = some (.lastore, 1, 0, 0) := rfl
theorem i358_10 : mm_cd 358 10 = some (.goto 7, 3, 0, 0) := rfl
theorem i358_17 : mm_cd 358 17 = some (.iconst 0, 1, 0, 0) := rfl
theorem i358_18 : mm_cd 358 18 = some (.ireturn, 1, 0, 0) := rfl
/-- SerialGateLaw.history(LSerialGate;II[J)I -/
def q358 (v1 : Int32) (v2 : Int32) (s : mS) : Option mQ := bC [(3, 13, 1)] (q149 v1 v2 s) fun x2 s1 => gA 1 (0 : Int32) <| sp (sL s1 524 (0 : Int32).toNatClampNeg x2.toInt64) fun s3 => rv (0 : Int32) s3
theorem c358 {L : Nat} {xs : Nat → Int32} {v1 : Int32} {v2 : Int32} {s : mS} {r : mQ} (h : q358 v1 v2 s = some r) : ∀ d, 2 ≤ d → Cl L xs d 358 [.ref 0, .int v1, .int v2, .ref 524] (hp s) (hr r) := by
  intro d hd
  show Ev L xs d 358 0 [(0, .ref 0), (1, .int v1), (2, .int v2), (3, .ref 524)] [] (hp s) (hr r)
  unfold q358 at h
  refine Ev.aload_n H358 i358_0 rfl ?_
  refine Ev.iconst H358 i358_1 kI_0 ?_
  refine Ev.aload_n H358 i358_2 rfl ?_
  refine Ev.iload_n H358 i358_3 rfl ?_
  refine Ev.iload_n H358 i358_4 rfl ?_
  refine Rd.cV2vC H358 i358_5 cal149 ob10 (Nat.le_of_ble_eq_true rfl) (Nat.le_of_ble_eq_true rfl) rfl (Nat.lt_of_lt_of_le (by decide) hd) (fun q hq => c149 hq) h (fun x2 s1 h => ?_)
  refine Ev.i2l H358 i358_8 ?_
  refine Rd.lastore H358 i358_9 ar_524 h (fun s3 h => ?_)
  refine Ev.goto H358 i358_10 (t := 17) (by decide) ?_
  refine Ev.iconst H358 i358_17 kI_0 ?_
  exact Rd.ireturn H358 i358_18 rfl h
theorem i359_0 : mm_cd 359 0 = some (.aload 4, 2, 0, 0) := rfl
theorem i359_2 : mm_cd 359 2 = some (.iconst 0, 1, 0, 0) := rfl
theorem i359_3 : mm_cd 359 3 = some (.aload_n 0, 1, 0, 0) := rfl
theorem i359_4 : mm_cd 359 4 = some (.iload_n 1, 1, 0, 0) := rfl
theorem i359_5 : mm_cd 359 5 = some (.iload_n 2, 1, 0, 0) := rfl
theorem i359_6 : mm_cd 359 6 = some (.iload_n 3, 1, 0, 0) := rfl
theorem i359_7 : mm_cd 359 7 = some (.invokevirtual 69, 3, 0, 150) := rfl
theorem i359_10 : mm_cd 359 10 = some (.i2l, 1, 0, 0) := rfl
theorem i359_11 : mm_cd 359 11 = some (.lastore, 1, 0, 0) := rfl
theorem i359_12 : mm_cd 359 12 = some (.goto 7, 3, 0, 0) := rfl
theorem i359_19 : mm_cd 359 19 = some (.iconst 0, 1, 0, 0) := rfl
theorem i359_20 : mm_cd 359 20 = some (.ireturn, 1, 0, 0) := rfl
/-- SerialGateLaw.version(LSerialGate;IIZ[J)I -/
def q359 (v1 : Int32) (v2 : Int32) (v3 : Int32) (s : mS) : Option mQ := bC [(2, 15, 1)] (q150 v1 v2 v3 s) fun x2 s1 => gA 1 (0 : Int32) <| sp (sL s1 524 (0 : Int32).toNatClampNeg x2.toInt64) fun s3 => rv (0 : Int32) s3
theorem c359 {L : Nat} {xs : Nat → Int32} {v1 : Int32} {v2 : Int32} {v3 : Int32} {s : mS} {r : mQ} (h : q359 v1 v2 v3 s = some r) : ∀ d, 2 ≤ d → Cl L xs d 359 [.ref 0, .int v1, .int v2, .int v3, .ref 524] (hp s) (hr r) := by
  intro d hd
  show Ev L xs d 359 0 [(0, .ref 0), (1, .int v1), (2, .int v2), (3, .int v3), (4, .ref 524)] [] (hp s) (hr r)
  unfold q359 at h
  refine Ev.aload H359 i359_0 rfl ?_
  refine Ev.iconst H359 i359_2 kI_0 ?_
  refine Ev.aload_n H359 i359_3 rfl ?_
  refine Ev.iload_n H359 i359_4 rfl ?_
  refine Ev.iload_n H359 i359_5 rfl ?_
  refine Ev.iload_n H359 i359_6 rfl ?_
  refine Rd.cV3vC H359 i359_7 cal150 ob10 (Nat.le_of_ble_eq_true rfl) (Nat.le_of_ble_eq_true rfl) rfl (Nat.lt_of_lt_of_le (by decide) hd) (fun q hq => c150 hq) h (fun x2 s1 h => ?_)
  refine Ev.i2l H359 i359_10 ?_
  refine Rd.lastore H359 i359_11 ar_524 h (fun s3 h => ?_)
  refine Ev.goto H359 i359_12 (t := 19) (by decide) ?_
  refine Ev.iconst H359 i359_19 kI_0 ?_
  exact Rd.ireturn H359 i359_20 rfl h
theorem i360_0 : mm_cd 360 0 = some (.aload_n 3, 1, 0, 0) := rfl
theorem i360_1 : mm_cd 360 1 = some (.iconst 0, 1, 0, 0) := rfl
theorem i360_2 : mm_cd 360 2 = some (.aload_n 0, 1, 0, 0) := rfl
theorem i360_3 : mm_cd 360 3 = some (.iload_n 1, 1, 0, 0) := rfl
theorem i360_4 : mm_cd 360 4 = some (.iload_n 2, 1, 0, 0) := rfl
theorem i360_5 : mm_cd 360 5 = some (.invokevirtual 73, 3, 0, 154) := rfl
theorem i360_8 : mm_cd 360 8 = some (.ifCond .eq 7, 3, 0, 0) := rfl
theorem i360_11 : mm_cd 360 11 = some (.lconst 1, 1, 0, 0) := rfl
theorem i360_12 : mm_cd 360 12 = some (.goto 4, 3, 0, 0) := rfl
theorem i360_15 : mm_cd 360 15 = some (.lconst 0, 1, 0, 0) := rfl
theorem i360_16 : mm_cd 360 16 = some (.lastore, 1, 0, 0) := rfl
theorem i360_17 : mm_cd 360 17 = some (.goto 11, 3, 0, 0) := rfl
theorem i360_28 : mm_cd 360 28 = some (.iconst 0, 1, 0, 0) := rfl
theorem i360_29 : mm_cd 360 29 = some (.ireturn, 1, 0, 0) := rfl
def q360_16 (y1 : Int32) (y2 : Int64) (s : mS) : Option mQ := gA 1 y1 <| sp (sL s 524 y1.toNatClampNeg y2) fun s1 => rv (0 : Int32) s1
theorem t360_16 {L : Nat} {xs : Nat → Int32} {d : Nat} (hd : 3 ≤ d) {y1 : Int32} {y2 : Int64} {s : mS} {r : mQ} (h : q360_16 y1 y2 s = some r) : Ev L xs d 360 16 [] [.long y2, .int y1, .ref 524] (hp s) (hr r) := by
  unfold q360_16 at h
  refine Rd.lastore H360 i360_16 ar_524 h (fun s1 h => ?_)
  refine Ev.goto H360 i360_17 (t := 28) (by decide) ?_
  refine Ev.iconst H360 i360_28 kI_0 ?_
  exact Rd.ireturn H360 i360_29 rfl h
/-- SerialGateLaw.clash(LSerialGate;II[J)I -/
def q360 (v1 : Int32) (v2 : Int32) (s : mS) : Option mQ := bC [(2, 20, 1), (0, 24, 2)] (q154 v1 v2 s) fun x3 s2 => if x3 = 0 then (q360_16 (0 : Int32) (0 : Int64) s2) else (q360_16 (0 : Int32) (1 : Int64) s2)
theorem c360 {L : Nat} {xs : Nat → Int32} {v1 : Int32} {v2 : Int32} {s : mS} {r : mQ} (h : q360 v1 v2 s = some r) : ∀ d, 3 ≤ d → Cl L xs d 360 [.ref 0, .int v1, .int v2, .ref 524] (hp s) (hr r) := by
  intro d hd
  show Ev L xs d 360 0 [(0, .ref 0), (1, .int v1), (2, .int v2), (3, .ref 524)] [] (hp s) (hr r)
  unfold q360 at h
  refine Ev.aload_n H360 i360_0 rfl ?_
  refine Ev.iconst H360 i360_1 kI_0 ?_
  refine Ev.aload_n H360 i360_2 rfl ?_
  refine Ev.iload_n H360 i360_3 rfl ?_
  refine Ev.iload_n H360 i360_4 rfl ?_
  refine Rd.cV2vC H360 i360_5 cal154 ob10 (Nat.le_of_ble_eq_true rfl) (Nat.le_of_ble_eq_true rfl) rfl (Nat.lt_of_lt_of_le (by decide) hd) (fun q hq => c154 hq) h (fun x3 s2 h => ?_)
  refine Rd.if_eq H360 i360_8 (t := 15) (by decide) h (fun hc h => ?_) (fun hc h => ?_)
  · refine Ev.lconst H360 i360_15 kL_0 ?_
    exact Ev.sub (l := []) rfl rfl mm_sub_n (t360_16 hd h)
  · refine Ev.lconst H360 i360_11 kL_1 ?_
    refine Ev.goto H360 i360_12 (t := 16) (by decide) ?_
    exact Ev.sub (l := []) rfl rfl mm_sub_n (t360_16 hd h)
theorem i361_0 : mm_cd 361 0 = some (.aload_n 1, 1, 0, 0) := rfl
theorem i361_1 : mm_cd 361 1 = some (.iconst 0, 1, 0, 0) := rfl
theorem i361_2 : mm_cd 361 2 = some (.aload_n 0, 1, 0, 0) := rfl
theorem i361_3 : mm_cd 361 3 = some (.invokevirtual 76, 3, 0, 164) := rfl
theorem i361_6 : mm_cd 361 6 = some (.i2l, 1, 0, 0) := rfl
theorem i361_7 : mm_cd 361 7 = some (.lastore, 1, 0, 0) := rfl
theorem i361_8 : mm_cd 361 8 = some (.goto 6, 3, 0, 0) := rfl
theorem i361_14 : mm_cd 361 14 = some (.iconst 0, 1, 0, 0) := rfl
theorem i361_15 : mm_cd 361 15 = some (.ireturn, 1, 0, 0) := rfl
/-- SerialGateLaw.who(LSerialGate;[J)I -/
def q361 (s : mS) : Option mQ := bC [(0, 11, 1)] (q164 s) fun x2 s1 => gA 1 (0 : Int32) <| sp (sL s1 524 (0 : Int32).toNatClampNeg x2.toInt64) fun s3 => rv (0 : Int32) s3
theorem c361 {L : Nat} {xs : Nat → Int32} {s : mS} {r : mQ} (h : q361 s = some r) : ∀ d, 4 ≤ d → Cl L xs d 361 [.ref 0, .ref 524] (hp s) (hr r) := by
  intro d hd
  show Ev L xs d 361 0 [(0, .ref 0), (1, .ref 524)] [] (hp s) (hr r)
  unfold q361 at h
  refine Ev.aload_n H361 i361_0 rfl ?_
  refine Ev.iconst H361 i361_1 kI_0 ?_
  refine Ev.aload_n H361 i361_2 rfl ?_
  refine Rd.cV0vC H361 i361_3 cal164 ob10 (Nat.le_of_ble_eq_true rfl) (Nat.le_of_ble_eq_true rfl) rfl (Nat.lt_of_lt_of_le (by decide) hd) (fun q hq => c164 hq) h (fun x2 s1 h => ?_)
  refine Ev.i2l H361 i361_6 ?_
  refine Rd.lastore H361 i361_7 ar_524 h (fun s3 h => ?_)
  refine Ev.goto H361 i361_8 (t := 14) (by decide) ?_
  refine Ev.iconst H361 i361_14 kI_0 ?_
  exact Rd.ireturn H361 i361_15 rfl h
theorem i362_0 : mm_cd 362 0 = some (.aload_n 1, 1, 0, 0) := rfl
theorem i362_1 : mm_cd 362 1 = some (.iconst 0, 1, 0, 0) := rfl
theorem i362_2 : mm_cd 362 2 = some (.aload_n 0, 1, 0, 0) := rfl
theorem i362_3 : mm_cd 362 3 = some (.invokevirtual 79, 3, 0, 165) := rfl
theorem i362_6 : mm_cd 362 6 = some (.i2l, 1, 0, 0) := rfl
theorem i362_7 : mm_cd 362 7 = some (.lastore, 1, 0, 0) := rfl
theorem i362_8 : mm_cd 362 8 = some (.goto 6, 3, 0, 0) := rfl
theorem i362_14 : mm_cd 362 14 = some (.iconst 0, 1, 0, 0) := rfl
theorem i362_15 : mm_cd 362 15 = some (.ireturn, 1, 0, 0) := rfl
/-- SerialGateLaw.likely(LSerialGate;[J)I -/
def q362 (s : mS) : Option mQ := bC [(0, 11, 1)] (q165 s) fun x2 s1 => gA 1 (0 : Int32) <| sp (sL s1 524 (0 : Int32).toNatClampNeg x2.toInt64) fun s3 => rv (0 : Int32) s3
theorem c362 {L : Nat} {xs : Nat → Int32} {s : mS} {r : mQ} (h : q362 s = some r) : ∀ d, 3 ≤ d → Cl L xs d 362 [.ref 0, .ref 524] (hp s) (hr r) := by
  intro d hd
  show Ev L xs d 362 0 [(0, .ref 0), (1, .ref 524)] [] (hp s) (hr r)
  unfold q362 at h
  refine Ev.aload_n H362 i362_0 rfl ?_
  refine Ev.iconst H362 i362_1 kI_0 ?_
  refine Ev.aload_n H362 i362_2 rfl ?_
  refine Rd.cV0vC H362 i362_3 cal165 ob10 (Nat.le_of_ble_eq_true rfl) (Nat.le_of_ble_eq_true rfl) rfl (Nat.lt_of_lt_of_le (by decide) hd) (fun q hq => c165 hq) h (fun x2 s1 h => ?_)
  refine Ev.i2l H362 i362_6 ?_
  refine Rd.lastore H362 i362_7 ar_524 h (fun s3 h => ?_)
  refine Ev.goto H362 i362_8 (t := 14) (by decide) ?_
  refine Ev.iconst H362 i362_14 kI_0 ?_
  exact Rd.ireturn H362 i362_15 rfl h
