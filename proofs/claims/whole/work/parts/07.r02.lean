theorem i50_0 : mm_cd 50 0 = some (.iconst 0, 1, 0, 0) := rfl
theorem i50_1 : mm_cd 50 1 = some (.istore_n 2, 1, 0, 0) := rfl
theorem i50_2 : mm_cd 50 2 = some (.iload_n 2, 1, 0, 0) := rfl
theorem i50_3 : mm_cd 50 3 = some (.aload_n 0, 1, 0, 0) := rfl
theorem i50_4 : mm_cd 50 4 = some (.getfield 25, 3, ((5 : Nat) : Int), 0) := rfl
theorem i50_7 : mm_cd 50 7 = some (.getfield 29, 3, ((0 : Nat) : Int), 0) := rfl
theorem i50_10 : mm_cd 50 10 = some (.if_icmp .ge 52, 3, 0, 0) := rfl
theorem i50_13 : mm_cd 50 13 = some (.iconst 0, 1, 0, 0) := rfl
theorem i50_14 : mm_cd 50 14 = some (.istore_n 3, 1, 0, 0) := rfl
theorem i50_15 : mm_cd 50 15 = some (.iload_n 3, 1, 0, 0) := rfl
theorem i50_16 : mm_cd 50 16 = some (.iload_n 2, 1, 0, 0) := rfl
theorem i50_17 : mm_cd 50 17 = some (.if_icmp .ge 39, 3, 0, 0) := rfl
theorem i50_20 : mm_cd 50 20 = some (.iload_n 1, 1, 0, 0) := rfl
theorem i50_21 : mm_cd 50 21 = some (.iload_n 2, 1, 0, 0) := rfl
theorem i50_22 : mm_cd 50 22 = some (.ishr, 1, 0, 0) := rfl
theorem i50_23 : mm_cd 50 23 = some (.iconst 1, 1, 0, 0) := rfl
theorem i50_24 : mm_cd 50 24 = some (.iand, 1, 0, 0) := rfl
theorem i50_25 : mm_cd 50 25 = some (.ifCond .eq 25, 3, 0, 0) := rfl
theorem i50_28 : mm_cd 50 28 = some (.iload_n 1, 1, 0, 0) := rfl
theorem i50_29 : mm_cd 50 29 = some (.iload_n 3, 1, 0, 0) := rfl
theorem i50_30 : mm_cd 50 30 = some (.ishr, 1, 0, 0) := rfl
theorem i50_31 : mm_cd 50 31 = some (.iconst 1, 1, 0, 0) := rfl
theorem i50_32 : mm_cd 50 32 = some (.iand, 1, 0, 0) := rfl
theorem i50_33 : mm_cd 50 33 = some (.ifCond .eq 17, 3, 0, 0) := rfl
theorem i50_36 : mm_cd 50 36 = some (.aload_n 0, 1, 0, 0) := rfl
theorem i50_37 : mm_cd 50 37 = some (.getfield 25, 3, ((5 : Nat) : Int), 0) := rfl
theorem i50_40 : mm_cd 50 40 = some (.iload_n 2, 1, 0, 0) := rfl
theorem i50_41 : mm_cd 50 41 = some (.iload_n 3, 1, 0, 0) := rfl
theorem i50_42 : mm_cd 50 42 = some (.invokevirtual 44, 3, 0, 5) := rfl
theorem i50_45 : mm_cd 50 45 = some (.ifCond .eq 5, 3, 0, 0) := rfl
theorem i50_48 : mm_cd 50 48 = some (.iconst 0, 1, 0, 0) := rfl
theorem i50_49 : mm_cd 50 49 = some (.ireturn, 1, 0, 0) := rfl
theorem i50_50 : mm_cd 50 50 = some (.iinc 3 1, 3, 0, 0) := rfl
theorem i50_53 : mm_cd 50 53 = some (.goto (-38), 3, 0, 0) := rfl
theorem i50_56 : mm_cd 50 56 = some (.iinc 2 1, 3, 0, 0) := rfl
theorem i50_59 : mm_cd 50 59 = some (.goto (-57), 3, 0, 0) := rfl
theorem i50_62 : mm_cd 50 62 = some (.iconst 1, 1, 0, 0) := rfl
theorem i50_63 : mm_cd 50 63 = some (.ireturn, 1, 0, 0) := rfl
def q50_50 (k15 : Int32 → Int32 → Int32 → mS → Option mQ) (v1 : Int32) (v2 : Int32) (v3 : Int32) (s : mS) : Option mQ := bx (v3 + (1 : Int32)) fun x1 => k15 v1 v2 x1 s
theorem t50_50 {L : Nat} {xs : Nat → Int32} {d : Nat} {k15 : Int32 → Int32 → Int32 → mS → Option mQ} (hk15 : ∀ (v1 : Int32) (v2 : Int32) (v3 : Int32) (s : mS) (r : mQ), k15 v1 v2 v3 s = some r → Ev L xs d 50 15 [(0, .ref 123), (1, .int v1), (2, .int v2), (3, .int v3)] [] (hp s) (hr r)) (hd : 2 ≤ d) {v1 : Int32} {v2 : Int32} {v3 : Int32} {s : mS} {r : mQ} (h : q50_50 k15 v1 v2 v3 s = some r) : Ev L xs d 50 50 [(0, .ref 123), (1, .int v1), (2, .int v2), (3, .int v3)] [] (hp s) (hr r) := by
  unfold q50_50 at h
  refine Rd.iinc H50 i50_50 (Nat.le_of_ble_eq_true rfl) rfl kI_1 (lv2 := fun x1 => [(3, .int x1), (0, .ref 123), (1, .int v1), (2, .int v2)]) (fun _ => rfl) h (fun x1 h => ?_)
  refine Ev.goto H50 i50_53 (t := 15) (by decide) ?_
  exact Ev.sub (l := [(0, .ref 123), (1, .int v1), (2, .int v2), (3, .int x1)]) rfl rfl (mm_sub_c rfl (mm_sub_c rfl (mm_sub_c rfl (mm_sub_c rfl mm_sub_n)))) (hk15 _ _ _ _ _ h)
def q50_15 (k56 : Int32 → Int32 → mS → Option mQ) : Nat → Int32 → Int32 → Int32 → mS → Option mQ
  | 0, _, _, _, _ => none
  | n + 1, v1, v2, v3, s => if v2 ≤ v3 then (k56 v1 v2 s) else (if ((shrI v1 v2) &&& (1 : Int32)) = 0 then (q50_50 (q50_15 k56 n) v1 v2 v3 s) else (if ((shrI v1 v3) &&& (1 : Int32)) = 0 then (q50_50 (q50_15 k56 n) v1 v2 v3 s) else (bN (q5 27 v2 v3 s) fun x3 s2 => if x3 = 0 then (q50_50 (q50_15 k56 n) v1 v2 v3 s2) else (rv (0 : Int32) s2))))
theorem t50_15 {L : Nat} {xs : Nat → Int32} {d : Nat} {k56 : Int32 → Int32 → mS → Option mQ} (hk56 : ∀ (v1 : Int32) (v2 : Int32) (s : mS) (r : mQ), k56 v1 v2 s = some r → Ev L xs d 50 56 [(0, .ref 123), (1, .int v1), (2, .int v2)] [] (hp s) (hr r)) (hd : 2 ≤ d) : ∀ (n : Nat) (v1 : Int32) (v2 : Int32) (v3 : Int32) (s : mS) (r : mQ), q50_15 k56 n v1 v2 v3 s = some r → Ev L xs d 50 15 [(0, .ref 123), (1, .int v1), (2, .int v2), (3, .int v3)] [] (hp s) (hr r) := by
  intro n
  induction n with
  | zero => intro v1 v2 v3 s r h; rw [q50_15] at h; cases h
  | succ n ih =>
    intro v1 v2 v3 s r h
    rw [q50_15] at h
    refine Ev.iload_n H50 i50_15 rfl ?_
    refine Ev.iload_n H50 i50_16 rfl ?_
    refine Rd.ic_ge H50 i50_17 (t := 56) (by decide) h (fun hc h => ?_) (fun hc h => ?_)
    · exact Ev.sub (l := [(0, .ref 123), (1, .int v1), (2, .int v2)]) rfl rfl (mm_sub_c rfl (mm_sub_c rfl (mm_sub_c rfl mm_sub_n))) (hk56 _ _ _ _ h)
    · refine Ev.iload_n H50 i50_20 rfl ?_
      refine Ev.iload_n H50 i50_21 rfl ?_
      refine Rd.ishr H50 i50_22 ?_
      refine Ev.iconst H50 i50_23 kI_1 ?_
      refine Ev.iand H50 i50_24 ?_
      refine Rd.if_eq H50 i50_25 (t := 50) (by decide) h (fun hc h => ?_) (fun hc h => ?_)
      · exact Ev.sub (l := [(0, .ref 123), (1, .int v1), (2, .int v2), (3, .int v3)]) rfl rfl (mm_sub_c rfl (mm_sub_c rfl (mm_sub_c rfl (mm_sub_c rfl mm_sub_n)))) (t50_50 (k15 := (q50_15 k56 n)) (fun _ _ _ _ _ h => ih _ _ _ _ _ h) hd h)
      · refine Ev.iload_n H50 i50_28 rfl ?_
        refine Ev.iload_n H50 i50_29 rfl ?_
        refine Rd.ishr H50 i50_30 ?_
        refine Ev.iconst H50 i50_31 kI_1 ?_
        refine Ev.iand H50 i50_32 ?_
        refine Rd.if_eq H50 i50_33 (t := 50) (by decide) h (fun hc h => ?_) (fun hc h => ?_)
        · exact Ev.sub (l := [(0, .ref 123), (1, .int v1), (2, .int v2), (3, .int v3)]) rfl rfl (mm_sub_c rfl (mm_sub_c rfl (mm_sub_c rfl (mm_sub_c rfl mm_sub_n)))) (t50_50 (k15 := (q50_15 k56 n)) (fun _ _ _ _ _ h => ih _ _ _ _ _ h) hd h)
        · refine Ev.aload_n H50 i50_36 rfl ?_
          refine Rd.getR H50 i50_37 ob5 rfl ?_
          refine Ev.iload_n H50 i50_40 rfl ?_
          refine Ev.iload_n H50 i50_41 rfl ?_
          refine Rd.cV2vN H50 i50_42 cal5 (ob0 mA0_27) (Nat.le_of_ble_eq_true rfl) (Nat.le_of_ble_eq_true rfl) (Nat.lt_of_lt_of_le (by decide) hd) (fun q hq => c5 mA0_27 hq) h (fun x3 s2 h => ?_)
          refine Rd.if_eq H50 i50_45 (t := 50) (by decide) h (fun hc h => ?_) (fun hc h => ?_)
          · exact Ev.sub (l := [(0, .ref 123), (1, .int v1), (2, .int v2), (3, .int v3)]) rfl rfl (mm_sub_c rfl (mm_sub_c rfl (mm_sub_c rfl (mm_sub_c rfl mm_sub_n)))) (t50_50 (k15 := (q50_15 k56 n)) (fun _ _ _ _ _ h => ih _ _ _ _ _ h) hd h)
          · refine Ev.iconst H50 i50_48 kI_0 ?_
            exact Rd.ireturnK H50 i50_49 rfl (Or.inl rfl) h
def q50_56 (k2 : Int32 → Int32 → mS → Option mQ) (v1 : Int32) (v2 : Int32) (s : mS) : Option mQ := bx (v2 + (1 : Int32)) fun x4 => k2 v1 x4 s
theorem t50_56 {L : Nat} {xs : Nat → Int32} {d : Nat} {k2 : Int32 → Int32 → mS → Option mQ} (hk2 : ∀ (v1 : Int32) (v2 : Int32) (s : mS) (r : mQ), k2 v1 v2 s = some r → Ev L xs d 50 2 [(0, .ref 123), (1, .int v1), (2, .int v2)] [] (hp s) (hr r)) (hd : 2 ≤ d) {v1 : Int32} {v2 : Int32} {s : mS} {r : mQ} (h : q50_56 k2 v1 v2 s = some r) : Ev L xs d 50 56 [(0, .ref 123), (1, .int v1), (2, .int v2)] [] (hp s) (hr r) := by
  unfold q50_56 at h
  refine Rd.iinc H50 i50_56 (Nat.le_of_ble_eq_true rfl) rfl kI_1 (lv2 := fun x4 => [(2, .int x4), (0, .ref 123), (1, .int v1)]) (fun _ => rfl) h (fun x4 h => ?_)
  refine Ev.goto H50 i50_59 (t := 2) (by decide) ?_
  exact Ev.sub (l := [(0, .ref 123), (1, .int v1), (2, .int x4)]) rfl rfl (mm_sub_c rfl (mm_sub_c rfl (mm_sub_c rfl mm_sub_n))) (hk2 _ _ _ _ h)
def q50_2 : Nat → Int32 → Int32 → mS → Option mQ
  | 0, _, _, _ => none
  | n + 1, v1, v2, s => if (s.1 27 0) ≤ v2 then (rv (1 : Int32) s) else (q50_15 (q50_56 (q50_2 n)) 10000 v1 v2 (0 : Int32) s)
theorem t50_2 {L : Nat} {xs : Nat → Int32} {d : Nat} (hd : 2 ≤ d) : ∀ (n : Nat) (v1 : Int32) (v2 : Int32) (s : mS) (r : mQ), q50_2 n v1 v2 s = some r → Ev L xs d 50 2 [(0, .ref 123), (1, .int v1), (2, .int v2)] [] (hp s) (hr r) := by
  intro n
  induction n with
  | zero => intro v1 v2 s r h; rw [q50_2] at h; cases h
  | succ n ih =>
    intro v1 v2 s r h
    rw [q50_2] at h
    refine Ev.iload_n H50 i50_2 rfl ?_
    refine Ev.aload_n H50 i50_3 rfl ?_
    refine Rd.getR H50 i50_4 ob5 rfl ?_
    refine Rd.getI H50 i50_7 (ob0 mA0_27) rfl ?_
    refine Rd.ic_ge H50 i50_10 (t := 62) (by decide) h (fun hc h => ?_) (fun hc h => ?_)
    · refine Ev.iconst H50 i50_62 kI_1 ?_
      exact Rd.ireturnK H50 i50_63 rfl (Or.inr rfl) h
    · refine Ev.iconst H50 i50_13 kI_0 ?_
      refine Ev.istore_n H50 i50_14 (Nat.le_of_ble_eq_true rfl) (lv2 := [(3, .int (0 : Int32)), (0, .ref 123), (1, .int v1), (2, .int v2)]) rfl ?_
      exact Ev.sub (l := [(0, .ref 123), (1, .int v1), (2, .int v2), (3, .int (0 : Int32))]) rfl rfl (mm_sub_c rfl (mm_sub_c rfl (mm_sub_c rfl (mm_sub_c rfl mm_sub_n)))) (t50_15 (k56 := (q50_56 (q50_2 n))) (fun _ _ _ _ h => t50_56 (k2 := (q50_2 n)) (fun _ _ _ _ h => ih _ _ _ _ h) hd h) hd 10000 _ _ _ _ _ h)
/-- SerialGate$Planner.areApart(I)Z -/
def q50 (v1 : Int32) (s : mS) : Option mQ := q50_2 10000 v1 (0 : Int32) s
theorem c50 {L : Nat} {xs : Nat → Int32} {v1 : Int32} {s : mS} {r : mQ} (h : q50 v1 s = some r) : ∀ d, 2 ≤ d → Cl L xs d 50 [.ref 123, .int v1] (hp s) (hr r) := by
  intro d hd
  show Ev L xs d 50 0 [(0, .ref 123), (1, .int v1)] [] (hp s) (hr r)
  unfold q50 at h
  refine Ev.iconst H50 i50_0 kI_0 ?_
  refine Ev.istore_n H50 i50_1 (Nat.le_of_ble_eq_true rfl) (lv2 := [(2, .int (0 : Int32)), (0, .ref 123), (1, .int v1)]) rfl ?_
  exact Ev.sub (l := [(0, .ref 123), (1, .int v1), (2, .int (0 : Int32))]) rfl rfl (mm_sub_c rfl (mm_sub_c rfl (mm_sub_c rfl mm_sub_n))) (t50_2 hd 10000 _ _ _ _ h)
theorem i49_0 : mm_cd 49 0 = some (.iconst 0, 1, 0, 0) := rfl
theorem i49_1 : mm_cd 49 1 = some (.istore_n 1, 1, 0, 0) := rfl
theorem i49_2 : mm_cd 49 2 = some (.iconst 1, 1, 0, 0) := rfl
theorem i49_3 : mm_cd 49 3 = some (.istore_n 2, 1, 0, 0) := rfl
theorem i49_4 : mm_cd 49 4 = some (.iload_n 2, 1, 0, 0) := rfl
theorem i49_5 : mm_cd 49 5 = some (.iconst 1, 1, 0, 0) := rfl
theorem i49_6 : mm_cd 49 6 = some (.aload_n 0, 1, 0, 0) := rfl
theorem i49_7 : mm_cd 49 7 = some (.getfield 25, 3, ((5 : Nat) : Int), 0) := rfl
theorem i49_10 : mm_cd 49 10 = some (.getfield 29, 3, ((0 : Nat) : Int), 0) := rfl
theorem i49_13 : mm_cd 49 13 = some (.ishl, 1, 0, 0) := rfl
theorem i49_14 : mm_cd 49 14 = some (.if_icmp .ge 30, 3, 0, 0) := rfl
theorem i49_17 : mm_cd 49 17 = some (.iload_n 2, 1, 0, 0) := rfl
theorem i49_18 : mm_cd 49 18 = some (.invokestatic 34, 3, 0, 343) := rfl
theorem i49_21 : mm_cd 49 21 = some (.iload_n 1, 1, 0, 0) := rfl
theorem i49_22 : mm_cd 49 22 = some (.invokestatic 34, 3, 0, 343) := rfl
theorem i49_25 : mm_cd 49 25 = some (.if_icmp .le 13, 3, 0, 0) := rfl
theorem i49_28 : mm_cd 49 28 = some (.aload_n 0, 1, 0, 0) := rfl
theorem i49_29 : mm_cd 49 29 = some (.iload_n 2, 1, 0, 0) := rfl
theorem i49_30 : mm_cd 49 30 = some (.invokevirtual 40, 3, 0, 50) := rfl
theorem i49_33 : mm_cd 49 33 = some (.ifCond .eq 5, 3, 0, 0) := rfl
theorem i49_36 : mm_cd 49 36 = some (.iload_n 2, 1, 0, 0) := rfl
theorem i49_37 : mm_cd 49 37 = some (.istore_n 1, 1, 0, 0) := rfl
theorem i49_38 : mm_cd 49 38 = some (.iinc 2 1, 3, 0, 0) := rfl
theorem i49_41 : mm_cd 49 41 = some (.goto (-37), 3, 0, 0) := rfl
theorem i49_44 : mm_cd 49 44 = some (.iload_n 1, 1, 0, 0) := rfl
theorem i49_45 : mm_cd 49 45 = some (.ireturn, 1, 0, 0) := rfl
def q49_38 (k4 : Int32 → Int32 → mS → Option mQ) (v1 : Int32) (v2 : Int32) (s : mS) : Option mQ := bx (v2 + (1 : Int32)) fun x1 => k4 v1 x1 s
theorem t49_38 {L : Nat} {xs : Nat → Int32} {d : Nat} {k4 : Int32 → Int32 → mS → Option mQ} (hk4 : ∀ (v1 : Int32) (v2 : Int32) (s : mS) (r : mQ), k4 v1 v2 s = some r → Ev L xs d 49 4 [(0, .ref 123), (1, .int v1), (2, .int v2)] [] (hp s) (hr r)) (hd : 3 ≤ d) {v1 : Int32} {v2 : Int32} {s : mS} {r : mQ} (h : q49_38 k4 v1 v2 s = some r) : Ev L xs d 49 38 [(0, .ref 123), (1, .int v1), (2, .int v2)] [] (hp s) (hr r) := by
  unfold q49_38 at h
  refine Rd.iinc H49 i49_38 (Nat.le_of_ble_eq_true rfl) rfl kI_1 (lv2 := fun x1 => [(2, .int x1), (0, .ref 123), (1, .int v1)]) (fun _ => rfl) h (fun x1 h => ?_)
  refine Ev.goto H49 i49_41 (t := 4) (by decide) ?_
  exact Ev.sub (l := [(0, .ref 123), (1, .int v1), (2, .int x1)]) rfl rfl (mm_sub_c rfl (mm_sub_c rfl (mm_sub_c rfl mm_sub_n))) (hk4 _ _ _ _ h)
def q49_4 : Nat → Int32 → Int32 → mS → Option mQ
  | 0, _, _, _ => none
  | n + 1, v1, v2, s => if (shlI (1 : Int32) (s.1 27 0)) ≤ v2 then (rv v1 s) else (bN (q343 v2 s) fun x3 s2 => bN (q343 v1 s2) fun x5 s4 => if x3 ≤ x5 then (q49_38 (q49_4 n) v1 v2 s4) else (bN (q50 v2 s4) fun x7 s6 => if x7 = 0 then (q49_38 (q49_4 n) v1 v2 s6) else (q49_38 (q49_4 n) v2 v2 s6)))
theorem t49_4 {L : Nat} {xs : Nat → Int32} {d : Nat} (hd : 3 ≤ d) : ∀ (n : Nat) (v1 : Int32) (v2 : Int32) (s : mS) (r : mQ), q49_4 n v1 v2 s = some r → Ev L xs d 49 4 [(0, .ref 123), (1, .int v1), (2, .int v2)] [] (hp s) (hr r) := by
  intro n
  induction n with
  | zero => intro v1 v2 s r h; rw [q49_4] at h; cases h
  | succ n ih =>
    intro v1 v2 s r h
    rw [q49_4] at h
    refine Ev.iload_n H49 i49_4 rfl ?_
    refine Ev.iconst H49 i49_5 kI_1 ?_
    refine Ev.aload_n H49 i49_6 rfl ?_
    refine Rd.getR H49 i49_7 ob5 rfl ?_
    refine Rd.getI H49 i49_10 (ob0 mA0_27) rfl ?_
    refine Rd.ishl H49 i49_13 ?_
    refine Rd.ic_ge H49 i49_14 (t := 44) (by decide) h (fun hc h => ?_) (fun hc h => ?_)
    · refine Ev.iload_n H49 i49_44 rfl ?_
      exact Rd.ireturn H49 i49_45 rfl h
    · refine Ev.iload_n H49 i49_17 rfl ?_
      refine Rd.cS1vN H49 i49_18 cal343 (Nat.le_of_ble_eq_true rfl) (Nat.le_of_ble_eq_true rfl) (Nat.lt_of_lt_of_le (by decide) hd) (fun q hq => c343 hq) h (fun x3 s2 h => ?_)
      refine Ev.iload_n H49 i49_21 rfl ?_
      refine Rd.cS1vN H49 i49_22 cal343 (Nat.le_of_ble_eq_true rfl) (Nat.le_of_ble_eq_true rfl) (Nat.lt_of_lt_of_le (by decide) hd) (fun q hq => c343 hq) h (fun x5 s4 h => ?_)
      refine Rd.ic_le H49 i49_25 (t := 38) (by decide) h (fun hc h => ?_) (fun hc h => ?_)
      · exact Ev.sub (l := [(0, .ref 123), (1, .int v1), (2, .int v2)]) rfl rfl (mm_sub_c rfl (mm_sub_c rfl (mm_sub_c rfl mm_sub_n))) (t49_38 (k4 := (q49_4 n)) (fun _ _ _ _ h => ih _ _ _ _ h) hd h)
      · refine Ev.aload_n H49 i49_28 rfl ?_
        refine Ev.iload_n H49 i49_29 rfl ?_
        refine Rd.cV1vN H49 i49_30 cal50 ob5 (Nat.le_of_ble_eq_true rfl) (Nat.le_of_ble_eq_true rfl) (Nat.lt_of_lt_of_le (by decide) hd) (fun q hq => c50 hq) h (fun x7 s6 h => ?_)
        refine Rd.if_eq H49 i49_33 (t := 38) (by decide) h (fun hc h => ?_) (fun hc h => ?_)
        · exact Ev.sub (l := [(0, .ref 123), (1, .int v1), (2, .int v2)]) rfl rfl (mm_sub_c rfl (mm_sub_c rfl (mm_sub_c rfl mm_sub_n))) (t49_38 (k4 := (q49_4 n)) (fun _ _ _ _ h => ih _ _ _ _ h) hd h)
        · refine Ev.iload_n H49 i49_36 rfl ?_
          refine Ev.istore_n H49 i49_37 (Nat.le_of_ble_eq_true rfl) (lv2 := [(1, .int v2), (0, .ref 123), (2, .int v2)]) rfl ?_
          exact Ev.sub (l := [(0, .ref 123), (1, .int v2), (2, .int v2)]) rfl rfl (mm_sub_c rfl (mm_sub_c rfl (mm_sub_c rfl mm_sub_n))) (t49_38 (k4 := (q49_4 n)) (fun _ _ _ _ h => ih _ _ _ _ h) hd h)
/-- SerialGate$Planner.mostApart()I -/
def q49 (s : mS) : Option mQ := q49_4 10000 (0 : Int32) (1 : Int32) s
theorem c49 {L : Nat} {xs : Nat → Int32} {s : mS} {r : mQ} (h : q49 s = some r) : ∀ d, 3 ≤ d → Cl L xs d 49 [.ref 123] (hp s) (hr r) := by
  intro d hd
  show Ev L xs d 49 0 [(0, .ref 123)] [] (hp s) (hr r)
  unfold q49 at h
  refine Ev.iconst H49 i49_0 kI_0 ?_
  refine Ev.istore_n H49 i49_1 (Nat.le_of_ble_eq_true rfl) (lv2 := [(1, .int (0 : Int32)), (0, .ref 123)]) rfl ?_
  refine Ev.iconst H49 i49_2 kI_1 ?_
  refine Ev.istore_n H49 i49_3 (Nat.le_of_ble_eq_true rfl) (lv2 := [(2, .int (1 : Int32)), (1, .int (0 : Int32)), (0, .ref 123)]) rfl ?_
  exact Ev.sub (l := [(0, .ref 123), (1, .int (0 : Int32)), (2, .int (1 : Int32))]) rfl rfl (mm_sub_c rfl (mm_sub_c rfl (mm_sub_c rfl mm_sub_n))) (t49_4 hd 10000 _ _ _ _ h)
theorem i54_0 : mm_cd 54 0 = some (.iconst 0, 1, 0, 0) := rfl
theorem i54_1 : mm_cd 54 1 = some (.istore_n 3, 1, 0, 0) := rfl
theorem i54_2 : mm_cd 54 2 = some (.iload_n 3, 1, 0, 0) := rfl
theorem i54_3 : mm_cd 54 3 = some (.iload_n 1, 1, 0, 0) := rfl
theorem i54_4 : mm_cd 54 4 = some (.if_icmp .ge 33, 3, 0, 0) := rfl
theorem i54_7 : mm_cd 54 7 = some (.aload_n 0, 1, 0, 0) := rfl
theorem i54_8 : mm_cd 54 8 = some (.getfield 9, 3, ((5 : Nat) : Int), 1) := rfl
theorem i54_11 : mm_cd 54 11 = some (.iload_n 3, 1, 0, 0) := rfl
theorem i54_12 : mm_cd 54 12 = some (.iaload, 1, 0, 0) := rfl
theorem i54_13 : mm_cd 54 13 = some (.iload_n 2, 1, 0, 0) := rfl
theorem i54_14 : mm_cd 54 14 = some (.if_icmp .ne 17, 3, 0, 0) := rfl
theorem i54_17 : mm_cd 54 17 = some (.aload_n 0, 1, 0, 0) := rfl
theorem i54_18 : mm_cd 54 18 = some (.getfield 25, 3, ((5 : Nat) : Int), 0) := rfl
theorem i54_21 : mm_cd 54 21 = some (.iload_n 3, 1, 0, 0) := rfl
theorem i54_22 : mm_cd 54 22 = some (.iload_n 1, 1, 0, 0) := rfl
theorem i54_23 : mm_cd 54 23 = some (.invokevirtual 44, 3, 0, 5) := rfl
theorem i54_26 : mm_cd 54 26 = some (.ifCond .eq 5, 3, 0, 0) := rfl
theorem i54_29 : mm_cd 54 29 = some (.iconst 0, 1, 0, 0) := rfl
theorem i54_30 : mm_cd 54 30 = some (.ireturn, 1, 0, 0) := rfl
theorem i54_31 : mm_cd 54 31 = some (.iinc 3 1, 3, 0, 0) := rfl
theorem i54_34 : mm_cd 54 34 = some (.goto (-32), 3, 0, 0) := rfl
theorem i54_37 : mm_cd 54 37 = some (.iconst 1, 1, 0, 0) := rfl
theorem i54_38 : mm_cd 54 38 = some (.ireturn, 1, 0, 0) := rfl
def q54_31 (k2 : Int32 → Int32 → Int32 → mS → Option mQ) (v1 : Int32) (v2 : Int32) (v3 : Int32) (s : mS) : Option mQ := bx (v3 + (1 : Int32)) fun x1 => k2 v1 v2 x1 s
theorem t54_31 {L : Nat} {xs : Nat → Int32} {d : Nat} {k2 : Int32 → Int32 → Int32 → mS → Option mQ} (hk2 : ∀ (v1 : Int32) (v2 : Int32) (v3 : Int32) (s : mS) (r : mQ), k2 v1 v2 v3 s = some r → Ev L xs d 54 2 [(0, .ref 123), (1, .int v1), (2, .int v2), (3, .int v3)] [] (hp s) (hr r)) (hd : 2 ≤ d) {v1 : Int32} {v2 : Int32} {v3 : Int32} {s : mS} {r : mQ} (h : q54_31 k2 v1 v2 v3 s = some r) : Ev L xs d 54 31 [(0, .ref 123), (1, .int v1), (2, .int v2), (3, .int v3)] [] (hp s) (hr r) := by
  unfold q54_31 at h
  refine Rd.iinc H54 i54_31 (Nat.le_of_ble_eq_true rfl) rfl kI_1 (lv2 := fun x1 => [(3, .int x1), (0, .ref 123), (1, .int v1), (2, .int v2)]) (fun _ => rfl) h (fun x1 h => ?_)
  refine Ev.goto H54 i54_34 (t := 2) (by decide) ?_
  exact Ev.sub (l := [(0, .ref 123), (1, .int v1), (2, .int v2), (3, .int x1)]) rfl rfl (mm_sub_c rfl (mm_sub_c rfl (mm_sub_c rfl (mm_sub_c rfl mm_sub_n)))) (hk2 _ _ _ _ _ h)
def q54_2 : Nat → Int32 → Int32 → Int32 → mS → Option mQ
  | 0, _, _, _, _ => none
  | n + 1, v1, v2, v3, s => if v1 ≤ v3 then (rv (1 : Int32) s) else (gA 5 v3 <| if ¬ (s.1 124 v3.toNatClampNeg) = v2 then (q54_31 (q54_2 n) v1 v2 v3 s) else (bN (q5 27 v3 v1 s) fun x3 s2 => if x3 = 0 then (q54_31 (q54_2 n) v1 v2 v3 s2) else (rv (0 : Int32) s2)))
theorem t54_2 {L : Nat} {xs : Nat → Int32} {d : Nat} (hd : 2 ≤ d) : ∀ (n : Nat) (v1 : Int32) (v2 : Int32) (v3 : Int32) (s : mS) (r : mQ), q54_2 n v1 v2 v3 s = some r → Ev L xs d 54 2 [(0, .ref 123), (1, .int v1), (2, .int v2), (3, .int v3)] [] (hp s) (hr r) := by
  intro n
  induction n with
  | zero => intro v1 v2 v3 s r h; rw [q54_2] at h; cases h
  | succ n ih =>
    intro v1 v2 v3 s r h
    rw [q54_2] at h
    refine Ev.iload_n H54 i54_2 rfl ?_
    refine Ev.iload_n H54 i54_3 rfl ?_
    refine Rd.ic_ge H54 i54_4 (t := 37) (by decide) h (fun hc h => ?_) (fun hc h => ?_)
    · refine Ev.iconst H54 i54_37 kI_1 ?_
      exact Rd.ireturnK H54 i54_38 rfl (Or.inr rfl) h
    · refine Ev.aload_n H54 i54_7 rfl ?_
      refine Rd.getR H54 i54_8 ob5 rfl ?_
      refine Ev.iload_n H54 i54_11 rfl ?_
      refine Rd.iaload H54 i54_12 ar_124 h (fun h => ?_)
      refine Ev.iload_n H54 i54_13 rfl ?_
      refine Rd.ic_ne H54 i54_14 (t := 31) (by decide) h (fun hc h => ?_) (fun hc h => ?_)
      · exact Ev.sub (l := [(0, .ref 123), (1, .int v1), (2, .int v2), (3, .int v3)]) rfl rfl (mm_sub_c rfl (mm_sub_c rfl (mm_sub_c rfl (mm_sub_c rfl mm_sub_n)))) (t54_31 (k2 := (q54_2 n)) (fun _ _ _ _ _ h => ih _ _ _ _ _ h) hd h)
      · refine Ev.aload_n H54 i54_17 rfl ?_
        refine Rd.getR H54 i54_18 ob5 rfl ?_
        refine Ev.iload_n H54 i54_21 rfl ?_
        refine Ev.iload_n H54 i54_22 rfl ?_
        refine Rd.cV2vN H54 i54_23 cal5 (ob0 mA0_27) (Nat.le_of_ble_eq_true rfl) (Nat.le_of_ble_eq_true rfl) (Nat.lt_of_lt_of_le (by decide) hd) (fun q hq => c5 mA0_27 hq) h (fun x3 s2 h => ?_)
        refine Rd.if_eq H54 i54_26 (t := 31) (by decide) h (fun hc h => ?_) (fun hc h => ?_)
        · exact Ev.sub (l := [(0, .ref 123), (1, .int v1), (2, .int v2), (3, .int v3)]) rfl rfl (mm_sub_c rfl (mm_sub_c rfl (mm_sub_c rfl (mm_sub_c rfl mm_sub_n)))) (t54_31 (k2 := (q54_2 n)) (fun _ _ _ _ _ h => ih _ _ _ _ _ h) hd h)
        · refine Ev.iconst H54 i54_29 kI_0 ?_
          exact Rd.ireturnK H54 i54_30 rfl (Or.inl rfl) h
/-- SerialGate$Planner.fitsRound(II)Z -/
def q54 (v1 : Int32) (v2 : Int32) (s : mS) : Option mQ := q54_2 10000 v1 v2 (0 : Int32) s
theorem c54 {L : Nat} {xs : Nat → Int32} {v1 : Int32} {v2 : Int32} {s : mS} {r : mQ} (h : q54 v1 v2 s = some r) : ∀ d, 2 ≤ d → Cl L xs d 54 [.ref 123, .int v1, .int v2] (hp s) (hr r) := by
  intro d hd
  show Ev L xs d 54 0 [(0, .ref 123), (1, .int v1), (2, .int v2)] [] (hp s) (hr r)
  unfold q54 at h
  refine Ev.iconst H54 i54_0 kI_0 ?_
  refine Ev.istore_n H54 i54_1 (Nat.le_of_ble_eq_true rfl) (lv2 := [(3, .int (0 : Int32)), (0, .ref 123), (1, .int v1), (2, .int v2)]) rfl ?_
  exact Ev.sub (l := [(0, .ref 123), (1, .int v1), (2, .int v2), (3, .int (0 : Int32))]) rfl rfl (mm_sub_c rfl (mm_sub_c rfl (mm_sub_c rfl (mm_sub_c rfl mm_sub_n)))) (t54_2 hd 10000 _ _ _ _ _ h)
theorem i53_0 : mm_cd 53 0 = some (.iload_n 1, 1, 0, 0) := rfl
theorem i53_1 : mm_cd 53 1 = some (.aload_n 0, 1, 0, 0) := rfl
theorem i53_2 : mm_cd 53 2 = some (.getfield 25, 3, ((5 : Nat) : Int), 0) := rfl
theorem i53_5 : mm_cd 53 5 = some (.getfield 29, 3, ((0 : Nat) : Int), 0) := rfl
theorem i53_8 : mm_cd 53 8 = some (.if_icmp .lt 5, 3, 0, 0) := rfl
theorem i53_11 : mm_cd 53 11 = some (.iconst 1, 1, 0, 0) := rfl
theorem i53_12 : mm_cd 53 12 = some (.ireturn, 1, 0, 0) := rfl
theorem i53_13 : mm_cd 53 13 = some (.iconst 0, 1, 0, 0) := rfl
theorem i53_14 : mm_cd 53 14 = some (.istore 4, 2, 0, 0) := rfl
theorem i53_16 : mm_cd 53 16 = some (.iload 4, 2, 0, 0) := rfl
theorem i53_18 : mm_cd 53 18 = some (.iload_n 2, 1, 0, 0) := rfl
theorem i53_19 : mm_cd 53 19 = some (.if_icmp .gt 59, 3, 0, 0) := rfl
theorem i53_22 : mm_cd 53 22 = some (.iload 4, 2, 0, 0) := rfl
theorem i53_24 : mm_cd 53 24 = some (.iload_n 3, 1, 0, 0) := rfl
theorem i53_25 : mm_cd 53 25 = some (.if_icmp .ge 53, 3, 0, 0) := rfl
theorem i53_28 : mm_cd 53 28 = some (.aload_n 0, 1, 0, 0) := rfl
theorem i53_29 : mm_cd 53 29 = some (.iload_n 1, 1, 0, 0) := rfl
theorem i53_30 : mm_cd 53 30 = some (.iload 4, 2, 0, 0) := rfl
theorem i53_32 : mm_cd 53 32 = some (.invokevirtual 56, 3, 0, 54) := rfl
theorem i53_35 : mm_cd 53 35 = some (.ifCond .eq 37, 3, 0, 0) := rfl
theorem i53_38 : mm_cd 53 38 = some (.aload_n 0, 1, 0, 0) := rfl
theorem i53_39 : mm_cd 53 39 = some (.getfield 9, 3, ((5 : Nat) : Int), 1) := rfl
theorem i53_42 : mm_cd 53 42 = some (.iload_n 1, 1, 0, 0) := rfl
theorem i53_43 : mm_cd 53 43 = some (.iload 4, 2, 0, 0) := rfl
theorem i53_45 : mm_cd 53 45 = some (.iastore, 1, 0, 0) := rfl
theorem i53_46 : mm_cd 53 46 = some (.aload_n 0, 1, 0, 0) := rfl
theorem i53_47 : mm_cd 53 47 = some (.iload_n 1, 1, 0, 0) := rfl
theorem i53_48 : mm_cd 53 48 = some (.iconst 1, 1, 0, 0) := rfl
theorem i53_49 : mm_cd 53 49 = some (.iadd, 1, 0, 0) := rfl
theorem i53_50 : mm_cd 53 50 = some (.iload 4, 2, 0, 0) := rfl
theorem i53_52 : mm_cd 53 52 = some (.iload_n 2, 1, 0, 0) := rfl
theorem i53_53 : mm_cd 53 53 = some (.if_icmp .ne 9, 3, 0, 0) := rfl
theorem i53_56 : mm_cd 53 56 = some (.iload_n 2, 1, 0, 0) := rfl
theorem i53_57 : mm_cd 53 57 = some (.iconst 1, 1, 0, 0) := rfl
theorem i53_58 : mm_cd 53 58 = some (.iadd, 1, 0, 0) := rfl
theorem i53_59 : mm_cd 53 59 = some (.goto 4, 3, 0, 0) := rfl
theorem i53_62 : mm_cd 53 62 = some (.iload_n 2, 1, 0, 0) := rfl
theorem i53_63 : mm_cd 53 63 = some (.iload_n 3, 1, 0, 0) := rfl
theorem i53_64 : mm_cd 53 64 = some (.invokestatic 48, 3, 0, 53) := rfl
theorem i53_67 : mm_cd 53 67 = some (.ifCond .eq 5, 3, 0, 0) := rfl
theorem i53_70 : mm_cd 53 70 = some (.iconst 1, 1, 0, 0) := rfl
theorem i53_71 : mm_cd 53 71 = some (.ireturn, 1, 0, 0) := rfl
theorem i53_72 : mm_cd 53 72 = some (.iinc 4 1, 3, 0, 0) := rfl
theorem i53_75 : mm_cd 53 75 = some (.goto (-59), 3, 0, 0) := rfl
theorem i53_78 : mm_cd 53 78 = some (.iconst 0, 1, 0, 0) := rfl
theorem i53_79 : mm_cd 53 79 = some (.ireturn, 1, 0, 0) := rfl
def q53_72 (k16 : Int32 → Int32 → Int32 → Int32 → mS → Option mQ) (R53 : Int32 → Int32 → Int32 → mS → Option mQ) (v1 : Int32) (v2 : Int32) (v3 : Int32) (v4 : Int32) (s : mS) : Option mQ := bx (v4 + (1 : Int32)) fun x1 => k16 v1 v2 v3 x1 s
theorem t53_72 {L : Nat} {xs : Nat → Int32} {d dr : Nat} {k16 : Int32 → Int32 → Int32 → Int32 → mS → Option mQ} {R53 : Int32 → Int32 → Int32 → mS → Option mQ} (hk16 : ∀ (v1 : Int32) (v2 : Int32) (v3 : Int32) (v4 : Int32) (s : mS) (r : mQ), k16 v1 v2 v3 v4 s = some r → Ev L xs d 53 16 [(0, .ref 123), (1, .int v1), (2, .int v2), (3, .int v3), (4, .int v4)] [] (hp s) (hr r)) (hR53 : ∀ {v1 : Int32} {v2 : Int32} {v3 : Int32} {s : mS} {q : mQ}, R53 v1 v2 v3 s = some q → ∀ e, dr ≤ e → Cl L xs e 53 [.ref 123, .int v1, .int v2, .int v3] (hp s) (hr q)) (hdr : dr < d) (hd : 3 ≤ d) {v1 : Int32} {v2 : Int32} {v3 : Int32} {v4 : Int32} {s : mS} {r : mQ} (h : q53_72 k16 R53 v1 v2 v3 v4 s = some r) : Ev L xs d 53 72 [(0, .ref 123), (1, .int v1), (2, .int v2), (3, .int v3), (4, .int v4)] [] (hp s) (hr r) := by
  unfold q53_72 at h
  refine Rd.iinc H53 i53_72 (Nat.le_of_ble_eq_true rfl) rfl kI_1 (lv2 := fun x1 => [(4, .int x1), (0, .ref 123), (1, .int v1), (2, .int v2), (3, .int v3)]) (fun _ => rfl) h (fun x1 h => ?_)
  refine Ev.goto H53 i53_75 (t := 16) (by decide) ?_
  exact Ev.sub (l := [(0, .ref 123), (1, .int v1), (2, .int v2), (3, .int v3), (4, .int x1)]) rfl rfl (mm_sub_c rfl (mm_sub_c rfl (mm_sub_c rfl (mm_sub_c rfl (mm_sub_c rfl mm_sub_n))))) (hk16 _ _ _ _ _ _ h)
def q53_63 (k16 : Int32 → Int32 → Int32 → Int32 → mS → Option mQ) (R53 : Int32 → Int32 → Int32 → mS → Option mQ) (v1 : Int32) (v2 : Int32) (v3 : Int32) (v4 : Int32) (y1 : Int32) (y2 : Int32) (s : mS) : Option mQ := bN (R53 y1 y2 v3 s) fun x3 s2 => if x3 = 0 then (q53_72 k16 R53 v1 v2 v3 v4 s2) else (rv (1 : Int32) s2)
theorem t53_63 {L : Nat} {xs : Nat → Int32} {d dr : Nat} {k16 : Int32 → Int32 → Int32 → Int32 → mS → Option mQ} {R53 : Int32 → Int32 → Int32 → mS → Option mQ} (hk16 : ∀ (v1 : Int32) (v2 : Int32) (v3 : Int32) (v4 : Int32) (s : mS) (r : mQ), k16 v1 v2 v3 v4 s = some r → Ev L xs d 53 16 [(0, .ref 123), (1, .int v1), (2, .int v2), (3, .int v3), (4, .int v4)] [] (hp s) (hr r)) (hR53 : ∀ {v1 : Int32} {v2 : Int32} {v3 : Int32} {s : mS} {q : mQ}, R53 v1 v2 v3 s = some q → ∀ e, dr ≤ e → Cl L xs e 53 [.ref 123, .int v1, .int v2, .int v3] (hp s) (hr q)) (hdr : dr < d) (hd : 3 ≤ d) {v1 : Int32} {v2 : Int32} {v3 : Int32} {v4 : Int32} {y1 : Int32} {y2 : Int32} {s : mS} {r : mQ} (h : q53_63 k16 R53 v1 v2 v3 v4 y1 y2 s = some r) : Ev L xs d 53 63 [(0, .ref 123), (1, .int v1), (2, .int v2), (3, .int v3), (4, .int v4)] [.int y2, .int y1, .ref 123] (hp s) (hr r) := by
  unfold q53_63 at h
  refine Ev.iload_n H53 i53_63 rfl ?_
  refine Rd.cS4vN H53 i53_64 cal53 (Nat.le_of_ble_eq_true rfl) (Nat.le_of_ble_eq_true rfl) hdr (fun q hq => hR53 hq) h (fun x3 s2 h => ?_)
  refine Rd.if_eq H53 i53_67 (t := 72) (by decide) h (fun hc h => ?_) (fun hc h => ?_)
  · exact Ev.sub (l := [(0, .ref 123), (1, .int v1), (2, .int v2), (3, .int v3), (4, .int v4)]) rfl rfl (mm_sub_c rfl (mm_sub_c rfl (mm_sub_c rfl (mm_sub_c rfl (mm_sub_c rfl mm_sub_n))))) (t53_72 (k16 := k16) hk16 hR53 hdr hd h)
  · refine Ev.iconst H53 i53_70 kI_1 ?_
    exact Rd.ireturnK H53 i53_71 rfl (Or.inr rfl) h
def q53_16 (R53 : Int32 → Int32 → Int32 → mS → Option mQ) : Nat → Int32 → Int32 → Int32 → Int32 → mS → Option mQ
  | 0, _, _, _, _, _ => none
  | n + 1, v1, v2, v3, v4, s => if v2 < v4 then (rv (0 : Int32) s) else (if v3 ≤ v4 then (rv (0 : Int32) s) else (bN (q54 v1 v4 s) fun x5 s4 => if x5 = 0 then (q53_72 (q53_16 R53 n) R53 v1 v2 v3 v4 s4) else (gA 5 v1 <| sp (sI s4 124 v1.toNatClampNeg v4) fun s6 => if ¬ v4 = v2 then (q53_63 (q53_16 R53 n) R53 v1 v2 v3 v4 (v1 + (1 : Int32)) v2 s6) else (q53_63 (q53_16 R53 n) R53 v1 v2 v3 v4 (v1 + (1 : Int32)) (v2 + (1 : Int32)) s6))))
theorem t53_16 {L : Nat} {xs : Nat → Int32} {d dr : Nat} {R53 : Int32 → Int32 → Int32 → mS → Option mQ} (hR53 : ∀ {v1 : Int32} {v2 : Int32} {v3 : Int32} {s : mS} {q : mQ}, R53 v1 v2 v3 s = some q → ∀ e, dr ≤ e → Cl L xs e 53 [.ref 123, .int v1, .int v2, .int v3] (hp s) (hr q)) (hdr : dr < d) (hd : 3 ≤ d) : ∀ (n : Nat) (v1 : Int32) (v2 : Int32) (v3 : Int32) (v4 : Int32) (s : mS) (r : mQ), q53_16 R53 n v1 v2 v3 v4 s = some r → Ev L xs d 53 16 [(0, .ref 123), (1, .int v1), (2, .int v2), (3, .int v3), (4, .int v4)] [] (hp s) (hr r) := by
  intro n
  induction n with
  | zero => intro v1 v2 v3 v4 s r h; rw [q53_16] at h; cases h
  | succ n ih =>
    intro v1 v2 v3 v4 s r h
    rw [q53_16] at h
    refine Ev.iload H53 i53_16 rfl ?_
    refine Ev.iload_n H53 i53_18 rfl ?_
    refine Rd.ic_gt H53 i53_19 (t := 78) (by decide) h (fun hc h => ?_) (fun hc h => ?_)
    · refine Ev.iconst H53 i53_78 kI_0 ?_
      exact Rd.ireturnK H53 i53_79 rfl (Or.inl rfl) h
    · refine Ev.iload H53 i53_22 rfl ?_
      refine Ev.iload_n H53 i53_24 rfl ?_
      refine Rd.ic_ge H53 i53_25 (t := 78) (by decide) h (fun hc h => ?_) (fun hc h => ?_)
      · refine Ev.iconst H53 i53_78 kI_0 ?_
        exact Rd.ireturnK H53 i53_79 rfl (Or.inl rfl) h
      · refine Ev.aload_n H53 i53_28 rfl ?_
        refine Ev.iload_n H53 i53_29 rfl ?_
        refine Ev.iload H53 i53_30 rfl ?_
        refine Rd.cV2vN H53 i53_32 cal54 ob5 (Nat.le_of_ble_eq_true rfl) (Nat.le_of_ble_eq_true rfl) (Nat.lt_of_lt_of_le (by decide) hd) (fun q hq => c54 hq) h (fun x5 s4 h => ?_)
        refine Rd.if_eq H53 i53_35 (t := 72) (by decide) h (fun hc h => ?_) (fun hc h => ?_)
        · exact Ev.sub (l := [(0, .ref 123), (1, .int v1), (2, .int v2), (3, .int v3), (4, .int v4)]) rfl rfl (mm_sub_c rfl (mm_sub_c rfl (mm_sub_c rfl (mm_sub_c rfl (mm_sub_c rfl mm_sub_n))))) (t53_72 (k16 := (q53_16 R53 n)) (fun _ _ _ _ _ _ h => ih _ _ _ _ _ _ h) hR53 hdr hd h)
        · refine Ev.aload_n H53 i53_38 rfl ?_
          refine Rd.getR H53 i53_39 ob5 rfl ?_
          refine Ev.iload_n H53 i53_42 rfl ?_
          refine Ev.iload H53 i53_43 rfl ?_
          refine Rd.iastore H53 i53_45 ar_124 h (fun s6 h => ?_)
          refine Ev.aload_n H53 i53_46 rfl ?_
          refine Ev.iload_n H53 i53_47 rfl ?_
          refine Ev.iconst H53 i53_48 kI_1 ?_
          refine Ev.iadd H53 i53_49 ?_
          refine Ev.iload H53 i53_50 rfl ?_
          refine Ev.iload_n H53 i53_52 rfl ?_
          refine Rd.ic_ne H53 i53_53 (t := 62) (by decide) h (fun hc h => ?_) (fun hc h => ?_)
          · refine Ev.iload_n H53 i53_62 rfl ?_
            exact Ev.sub (l := [(0, .ref 123), (1, .int v1), (2, .int v2), (3, .int v3), (4, .int v4)]) rfl rfl (mm_sub_c rfl (mm_sub_c rfl (mm_sub_c rfl (mm_sub_c rfl (mm_sub_c rfl mm_sub_n))))) (t53_63 (k16 := (q53_16 R53 n)) (fun _ _ _ _ _ _ h => ih _ _ _ _ _ _ h) hR53 hdr hd h)
          · refine Ev.iload_n H53 i53_56 rfl ?_
            refine Ev.iconst H53 i53_57 kI_1 ?_
            refine Ev.iadd H53 i53_58 ?_
            refine Ev.goto H53 i53_59 (t := 63) (by decide) ?_
            exact Ev.sub (l := [(0, .ref 123), (1, .int v1), (2, .int v2), (3, .int v3), (4, .int v4)]) rfl rfl (mm_sub_c rfl (mm_sub_c rfl (mm_sub_c rfl (mm_sub_c rfl (mm_sub_c rfl mm_sub_n))))) (t53_63 (k16 := (q53_16 R53 n)) (fun _ _ _ _ _ _ h => ih _ _ _ _ _ _ h) hR53 hdr hd h)
/-- SerialGate$Planner.placesFrom(LSerialGate$Planner;III)Z -/
def q53F (R53 : Int32 → Int32 → Int32 → mS → Option mQ) (v1 : Int32) (v2 : Int32) (v3 : Int32) (s : mS) : Option mQ := if v1 < (s.1 27 0) then (q53_16 R53 10000 v1 v2 v3 (0 : Int32) s) else (rv (1 : Int32) s)
theorem c53F {L : Nat} {xs : Nat → Int32} {dr : Nat} {R53 : Int32 → Int32 → Int32 → mS → Option mQ} (hR53 : ∀ {v1 : Int32} {v2 : Int32} {v3 : Int32} {s : mS} {q : mQ}, R53 v1 v2 v3 s = some q → ∀ e, dr ≤ e → Cl L xs e 53 [.ref 123, .int v1, .int v2, .int v3] (hp s) (hr q)) {v1 : Int32} {v2 : Int32} {v3 : Int32} {s : mS} {r : mQ} (h : q53F R53 v1 v2 v3 s = some r) : ∀ d, 3 ≤ d → dr < d → Cl L xs d 53 [.ref 123, .int v1, .int v2, .int v3] (hp s) (hr r) := by
  intro d hd hdr
  show Ev L xs d 53 0 [(0, .ref 123), (1, .int v1), (2, .int v2), (3, .int v3)] [] (hp s) (hr r)
  unfold q53F at h
  refine Ev.iload_n H53 i53_0 rfl ?_
  refine Ev.aload_n H53 i53_1 rfl ?_
  refine Rd.getR H53 i53_2 ob5 rfl ?_
  refine Rd.getI H53 i53_5 (ob0 mA0_27) rfl ?_
  refine Rd.ic_lt H53 i53_8 (t := 13) (by decide) h (fun hc h => ?_) (fun hc h => ?_)
  · refine Ev.iconst H53 i53_13 kI_0 ?_
    refine Ev.istore H53 i53_14 (Nat.le_of_ble_eq_true rfl) (lv2 := [(4, .int (0 : Int32)), (0, .ref 123), (1, .int v1), (2, .int v2), (3, .int v3)]) rfl ?_
    exact Ev.sub (l := [(0, .ref 123), (1, .int v1), (2, .int v2), (3, .int v3), (4, .int (0 : Int32))]) rfl rfl (mm_sub_c rfl (mm_sub_c rfl (mm_sub_c rfl (mm_sub_c rfl (mm_sub_c rfl mm_sub_n))))) (t53_16 hR53 hdr hd 10000 _ _ _ _ _ _ h)
  · refine Ev.iconst H53 i53_11 kI_1 ?_
    exact Rd.ireturnK H53 i53_12 rfl (Or.inr rfl) h
def q53 : Nat → Int32 → Int32 → Int32 → mS → Option mQ
  | 0, _, _, _, _ => none
  | n + 1, v1, v2, v3, s => q53F (q53 n) v1 v2 v3 s
theorem c53n {L : Nat} {xs : Nat → Int32} : ∀ (n : Nat) {v1 : Int32} {v2 : Int32} {v3 : Int32} {s : mS} {r : mQ}, q53 n v1 v2 v3 s = some r → ∀ d, 3 + n ≤ d → Cl L xs d 53 [.ref 123, .int v1, .int v2, .int v3] (hp s) (hr r) := by
  intro n
  induction n with
  | zero => intro v1 v2 v3 s r h; rw [q53] at h; cases h
  | succ n ih =>
    intro v1 v2 v3 s r h d hd
    rw [q53] at h
    exact c53F (dr := 3 + n) ih h d (by omega) (by omega)
theorem c53 {L : Nat} {xs : Nat → Int32} {v1 : Int32} {v2 : Int32} {v3 : Int32} {s : mS} {r : mQ} (h : q53 7 v1 v2 v3 s = some r) : ∀ d, 10 ≤ d → Cl L xs d 53 [.ref 123, .int v1, .int v2, .int v3] (hp s) (hr r) := c53n 7 h
theorem i51_0 : mm_cd 51 0 = some (.iconst 0, 1, 0, 0) := rfl
theorem i51_1 : mm_cd 51 1 = some (.istore_n 1, 1, 0, 0) := rfl
theorem i51_2 : mm_cd 51 2 = some (.iload_n 1, 1, 0, 0) := rfl
theorem i51_3 : mm_cd 51 3 = some (.aload_n 0, 1, 0, 0) := rfl
theorem i51_4 : mm_cd 51 4 = some (.getfield 25, 3, ((5 : Nat) : Int), 0) := rfl
theorem i51_7 : mm_cd 51 7 = some (.getfield 29, 3, ((0 : Nat) : Int), 0) := rfl
theorem i51_10 : mm_cd 51 10 = some (.if_icmp .ge 21, 3, 0, 0) := rfl
theorem i51_13 : mm_cd 51 13 = some (.aload_n 0, 1, 0, 0) := rfl
theorem i51_14 : mm_cd 51 14 = some (.iconst 0, 1, 0, 0) := rfl
theorem i51_15 : mm_cd 51 15 = some (.iconst 0, 1, 0, 0) := rfl
theorem i51_16 : mm_cd 51 16 = some (.iload_n 1, 1, 0, 0) := rfl
theorem i51_17 : mm_cd 51 17 = some (.invokestatic 48, 3, 0, 53) := rfl
theorem i51_20 : mm_cd 51 20 = some (.ifCond .eq 5, 3, 0, 0) := rfl
theorem i51_23 : mm_cd 51 23 = some (.iload_n 1, 1, 0, 0) := rfl
theorem i51_24 : mm_cd 51 24 = some (.ireturn, 1, 0, 0) := rfl
theorem i51_25 : mm_cd 51 25 = some (.iinc 1 1, 3, 0, 0) := rfl
theorem i51_28 : mm_cd 51 28 = some (.goto (-26), 3, 0, 0) := rfl
theorem i51_31 : mm_cd 51 31 = some (.aload_n 0, 1, 0, 0) := rfl
theorem i51_32 : mm_cd 51 32 = some (.iconst 0, 1, 0, 0) := rfl
theorem i51_33 : mm_cd 51 33 = some (.iconst 0, 1, 0, 0) := rfl
theorem i51_34 : mm_cd 51 34 = some (.aload_n 0, 1, 0, 0) := rfl
theorem i51_35 : mm_cd 51 35 = some (.getfield 25, 3, ((5 : Nat) : Int), 0) := rfl
theorem i51_38 : mm_cd 51 38 = some (.getfield 29, 3, ((0 : Nat) : Int), 0) := rfl
theorem i51_41 : mm_cd 51 41 = some (.invokestatic 48, 3, 0, 53) := rfl
theorem i51_44 : mm_cd 51 44 = some (.pop, 1, 0, 0) := rfl
theorem i51_45 : mm_cd 51 45 = some (.aload_n 0, 1, 0, 0) := rfl
theorem i51_46 : mm_cd 51 46 = some (.getfield 25, 3, ((5 : Nat) : Int), 0) := rfl
theorem i51_49 : mm_cd 51 49 = some (.getfield 29, 3, ((0 : Nat) : Int), 0) := rfl
theorem i51_52 : mm_cd 51 52 = some (.ireturn, 1, 0, 0) := rfl
def q51_2 (k31 : mS → Option mQ) : Nat → Int32 → mS → Option mQ
  | 0, _, _ => none
  | n + 1, v1, s => if (s.1 27 0) ≤ v1 then (k31 s) else (bN (q53 7 (0 : Int32) (0 : Int32) v1 s) fun x2 s1 => if x2 = 0 then (bx (v1 + (1 : Int32)) fun x3 => q51_2 k31 n x3 s1) else (rv v1 s1))
theorem t51_2 {L : Nat} {xs : Nat → Int32} {d : Nat} {k31 : mS → Option mQ} (hk31 : ∀ (s : mS) (r : mQ), k31 s = some r → Ev L xs d 51 31 [(0, .ref 123)] [] (hp s) (hr r)) (hd : 11 ≤ d) : ∀ (n : Nat) (v1 : Int32) (s : mS) (r : mQ), q51_2 k31 n v1 s = some r → Ev L xs d 51 2 [(0, .ref 123), (1, .int v1)] [] (hp s) (hr r) := by
  intro n
  induction n with
  | zero => intro v1 s r h; rw [q51_2] at h; cases h
  | succ n ih =>
    intro v1 s r h
    rw [q51_2] at h
    refine Ev.iload_n H51 i51_2 rfl ?_
    refine Ev.aload_n H51 i51_3 rfl ?_
    refine Rd.getR H51 i51_4 ob5 rfl ?_
    refine Rd.getI H51 i51_7 (ob0 mA0_27) rfl ?_
    refine Rd.ic_ge H51 i51_10 (t := 31) (by decide) h (fun hc h => ?_) (fun hc h => ?_)
    · exact Ev.sub (l := [(0, .ref 123)]) rfl rfl (mm_sub_c rfl mm_sub_n) (hk31 _ _ h)
    · refine Ev.aload_n H51 i51_13 rfl ?_
      refine Ev.iconst H51 i51_14 kI_0 ?_
      refine Ev.iconst H51 i51_15 kI_0 ?_
      refine Ev.iload_n H51 i51_16 rfl ?_
      refine Rd.cS4vN H51 i51_17 cal53 (Nat.le_of_ble_eq_true rfl) (Nat.le_of_ble_eq_true rfl) (Nat.lt_of_lt_of_le (by decide) hd) (fun q hq => c53 hq) h (fun x2 s1 h => ?_)
      refine Rd.if_eq H51 i51_20 (t := 25) (by decide) h (fun hc h => ?_) (fun hc h => ?_)
      · refine Rd.iinc H51 i51_25 (Nat.le_of_ble_eq_true rfl) rfl kI_1 (lv2 := fun x3 => [(1, .int x3), (0, .ref 123)]) (fun _ => rfl) h (fun x3 h => ?_)
        refine Ev.goto H51 i51_28 (t := 2) (by decide) ?_
        exact Ev.sub (l := [(0, .ref 123), (1, .int x3)]) rfl rfl (mm_sub_c rfl (mm_sub_c rfl mm_sub_n)) (ih _ _ _ h)
      · refine Ev.iload_n H51 i51_23 rfl ?_
        exact Rd.ireturn H51 i51_24 rfl h
def q51_31 (s : mS) : Option mQ := bN (q53 7 (0 : Int32) (0 : Int32) (s.1 27 0) s) fun x5 s4 => rv (s4.1 27 0) s4
theorem t51_31 {L : Nat} {xs : Nat → Int32} {d : Nat} (hd : 11 ≤ d) {s : mS} {r : mQ} (h : q51_31 s = some r) : Ev L xs d 51 31 [(0, .ref 123)] [] (hp s) (hr r) := by
  unfold q51_31 at h
  refine Ev.aload_n H51 i51_31 rfl ?_
  refine Ev.iconst H51 i51_32 kI_0 ?_
  refine Ev.iconst H51 i51_33 kI_0 ?_
  refine Ev.aload_n H51 i51_34 rfl ?_
  refine Rd.getR H51 i51_35 ob5 rfl ?_
  refine Rd.getI H51 i51_38 (ob0 mA0_27) rfl ?_
  refine Rd.cS4vN H51 i51_41 cal53 (Nat.le_of_ble_eq_true rfl) (Nat.le_of_ble_eq_true rfl) (Nat.lt_of_lt_of_le (by decide) hd) (fun q hq => c53 hq) h (fun x5 s4 h => ?_)
  refine Ev.pop H51 i51_44 rfl ?_
  refine Ev.aload_n H51 i51_45 rfl ?_
  refine Rd.getR H51 i51_46 ob5 rfl ?_
  refine Rd.getI H51 i51_49 (ob0 mA0_27) rfl ?_
  exact Rd.ireturn H51 i51_52 rfl h
/-- SerialGate$Planner.fewestRounds()I -/
def q51 (s : mS) : Option mQ := q51_2 (q51_31) 10000 (0 : Int32) s
theorem c51 {L : Nat} {xs : Nat → Int32} {s : mS} {r : mQ} (h : q51 s = some r) : ∀ d, 11 ≤ d → Cl L xs d 51 [.ref 123] (hp s) (hr r) := by
  intro d hd
  show Ev L xs d 51 0 [(0, .ref 123)] [] (hp s) (hr r)
  unfold q51 at h
  refine Ev.iconst H51 i51_0 kI_0 ?_
  refine Ev.istore_n H51 i51_1 (Nat.le_of_ble_eq_true rfl) (lv2 := [(1, .int (0 : Int32)), (0, .ref 123)]) rfl ?_
  exact Ev.sub (l := [(0, .ref 123), (1, .int (0 : Int32))]) rfl rfl (mm_sub_c rfl (mm_sub_c rfl mm_sub_n)) (t51_2 (k31 := (q51_31)) (fun _ _ h => t51_31 hd h) hd 10000 _ _ _ h)
theorem i52_0 : mm_cd 52 0 = some (.aload_n 0, 1, 0, 0) := rfl
theorem i52_1 : mm_cd 52 1 = some (.invokevirtual 52, 3, 0, 51) := rfl
theorem i52_4 : mm_cd 52 4 = some (.pop, 1, 0, 0) := rfl
theorem i52_5 : mm_cd 52 5 = some (.aload_n 0, 1, 0, 0) := rfl
theorem i52_6 : mm_cd 52 6 = some (.getfield 9, 3, ((5 : Nat) : Int), 1) := rfl
theorem i52_9 : mm_cd 52 9 = some (.iload_n 1, 1, 0, 0) := rfl
theorem i52_10 : mm_cd 52 10 = some (.iaload, 1, 0, 0) := rfl
theorem i52_11 : mm_cd 52 11 = some (.ireturn, 1, 0, 0) := rfl
/-- SerialGate$Planner.roundOf(I)I -/
def q52 (v1 : Int32) (s : mS) : Option mQ := bN (q51 s) fun x2 s1 => gA 5 v1 <| rv (s1.1 124 v1.toNatClampNeg) s1
theorem c52 {L : Nat} {xs : Nat → Int32} {v1 : Int32} {s : mS} {r : mQ} (h : q52 v1 s = some r) : ∀ d, 12 ≤ d → Cl L xs d 52 [.ref 123, .int v1] (hp s) (hr r) := by
  intro d hd
  show Ev L xs d 52 0 [(0, .ref 123), (1, .int v1)] [] (hp s) (hr r)
  unfold q52 at h
  refine Ev.aload_n H52 i52_0 rfl ?_
  refine Rd.cV0vN H52 i52_1 cal51 ob5 (Nat.le_of_ble_eq_true rfl) (Nat.le_of_ble_eq_true rfl) (Nat.lt_of_lt_of_le (by decide) hd) (fun q hq => c51 hq) h (fun x2 s1 h => ?_)
  refine Ev.pop H52 i52_4 rfl ?_
  refine Ev.aload_n H52 i52_5 rfl ?_
  refine Rd.getR H52 i52_6 ob5 rfl ?_
  refine Ev.iload_n H52 i52_9 rfl ?_
  refine Rd.iaload H52 i52_10 ar_124 h (fun h => ?_)
  exact Rd.ireturn H52 i52_11 rfl h
theorem i56_0 : mm_cd 56 0 = some (.iconst 0, 1, 0, 0) := rfl
theorem i56_1 : mm_cd 56 1 = some (.istore_n 2, 1, 0, 0) := rfl
theorem i56_2 : mm_cd 56 2 = some (.iload_n 2, 1, 0, 0) := rfl
theorem i56_3 : mm_cd 56 3 = some (.aload_n 0, 1, 0, 0) := rfl
theorem i56_4 : mm_cd 56 4 = some (.getfield 25, 3, ((5 : Nat) : Int), 0) := rfl
theorem i56_7 : mm_cd 56 7 = some (.getfield 29, 3, ((0 : Nat) : Int), 0) := rfl
theorem i56_10 : mm_cd 56 10 = some (.if_icmp .ge 30, 3, 0, 0) := rfl
theorem i56_13 : mm_cd 56 13 = some (.aload_n 0, 1, 0, 0) := rfl
theorem i56_14 : mm_cd 56 14 = some (.getfield 25, 3, ((5 : Nat) : Int), 0) := rfl
theorem i56_17 : mm_cd 56 17 = some (.iload_n 2, 1, 0, 0) := rfl
theorem i56_18 : mm_cd 56 18 = some (.invokevirtual 62, 3, 0, 4) := rfl
theorem i56_21 : mm_cd 56 21 = some (.istore_n 3, 1, 0, 0) := rfl
theorem i56_22 : mm_cd 56 22 = some (.iload_n 3, 1, 0, 0) := rfl
theorem i56_23 : mm_cd 56 23 = some (.ifCond .eq 11, 3, 0, 0) := rfl
theorem i56_26 : mm_cd 56 26 = some (.iload_n 3, 1, 0, 0) := rfl
theorem i56_27 : mm_cd 56 27 = some (.iload_n 1, 1, 0, 0) := rfl
theorem i56_28 : mm_cd 56 28 = some (.iand, 1, 0, 0) := rfl
theorem i56_29 : mm_cd 56 29 = some (.ifCond .ne 5, 3, 0, 0) := rfl
theorem i56_32 : mm_cd 56 32 = some (.iconst 0, 1, 0, 0) := rfl
theorem i56_33 : mm_cd 56 33 = some (.ireturn, 1, 0, 0) := rfl
theorem i56_34 : mm_cd 56 34 = some (.iinc 2 1, 3, 0, 0) := rfl
theorem i56_37 : mm_cd 56 37 = some (.goto (-35), 3, 0, 0) := rfl
theorem i56_40 : mm_cd 56 40 = some (.iconst 1, 1, 0, 0) := rfl
theorem i56_41 : mm_cd 56 41 = some (.ireturn, 1, 0, 0) := rfl
def q56_34 (k2 : Int32 → Int32 → mS → Option mQ) (v1 : Int32) (v2 : Int32) (s : mS) : Option mQ := bx (v2 + (1 : Int32)) fun x1 => k2 v1 x1 s
theorem t56_34 {L : Nat} {xs : Nat → Int32} {d : Nat} {k2 : Int32 → Int32 → mS → Option mQ} (hk2 : ∀ (v1 : Int32) (v2 : Int32) (s : mS) (r : mQ), k2 v1 v2 s = some r → Ev L xs d 56 2 [(0, .ref 123), (1, .int v1), (2, .int v2)] [] (hp s) (hr r)) (hd : 1 ≤ d) {v1 : Int32} {v2 : Int32} {s : mS} {r : mQ} (h : q56_34 k2 v1 v2 s = some r) : Ev L xs d 56 34 [(0, .ref 123), (1, .int v1), (2, .int v2)] [] (hp s) (hr r) := by
  unfold q56_34 at h
  refine Rd.iinc H56 i56_34 (Nat.le_of_ble_eq_true rfl) rfl kI_1 (lv2 := fun x1 => [(2, .int x1), (0, .ref 123), (1, .int v1)]) (fun _ => rfl) h (fun x1 h => ?_)
  refine Ev.goto H56 i56_37 (t := 2) (by decide) ?_
  exact Ev.sub (l := [(0, .ref 123), (1, .int v1), (2, .int x1)]) rfl rfl (mm_sub_c rfl (mm_sub_c rfl (mm_sub_c rfl mm_sub_n))) (hk2 _ _ _ _ h)
def q56_2 : Nat → Int32 → Int32 → mS → Option mQ
  | 0, _, _, _ => none
  | n + 1, v1, v2, s => if (s.1 27 0) ≤ v2 then (rv (1 : Int32) s) else (bN (q4 27 v2 s) fun x3 s2 => if x3 = 0 then (q56_34 (q56_2 n) v1 v2 s2) else (if ¬ (x3 &&& v1) = 0 then (q56_34 (q56_2 n) v1 v2 s2) else (rv (0 : Int32) s2)))
theorem t56_2 {L : Nat} {xs : Nat → Int32} {d : Nat} (hd : 1 ≤ d) : ∀ (n : Nat) (v1 : Int32) (v2 : Int32) (s : mS) (r : mQ), q56_2 n v1 v2 s = some r → Ev L xs d 56 2 [(0, .ref 123), (1, .int v1), (2, .int v2)] [] (hp s) (hr r) := by
  intro n
  induction n with
  | zero => intro v1 v2 s r h; rw [q56_2] at h; cases h
  | succ n ih =>
    intro v1 v2 s r h
    rw [q56_2] at h
    refine Ev.iload_n H56 i56_2 rfl ?_
    refine Ev.aload_n H56 i56_3 rfl ?_
    refine Rd.getR H56 i56_4 ob5 rfl ?_
    refine Rd.getI H56 i56_7 (ob0 mA0_27) rfl ?_
    refine Rd.ic_ge H56 i56_10 (t := 40) (by decide) h (fun hc h => ?_) (fun hc h => ?_)
    · refine Ev.iconst H56 i56_40 kI_1 ?_
      exact Rd.ireturnK H56 i56_41 rfl (Or.inr rfl) h
    · refine Ev.aload_n H56 i56_13 rfl ?_
      refine Rd.getR H56 i56_14 ob5 rfl ?_
      refine Ev.iload_n H56 i56_17 rfl ?_
      refine Rd.cV1vN H56 i56_18 cal4 (ob0 mA0_27) (Nat.le_of_ble_eq_true rfl) (Nat.le_of_ble_eq_true rfl) (Nat.lt_of_lt_of_le (by decide) hd) (fun q hq => c4 mA0_27 hq) h (fun x3 s2 h => ?_)
      refine Ev.istore_n H56 i56_21 (Nat.le_of_ble_eq_true rfl) (lv2 := [(3, .int x3), (0, .ref 123), (1, .int v1), (2, .int v2)]) rfl ?_
      refine Ev.iload_n H56 i56_22 rfl ?_
      refine Rd.if_eq H56 i56_23 (t := 34) (by decide) h (fun hc h => ?_) (fun hc h => ?_)
      · exact Ev.sub (l := [(0, .ref 123), (1, .int v1), (2, .int v2)]) rfl rfl (mm_sub_c rfl (mm_sub_c rfl (mm_sub_c rfl mm_sub_n))) (t56_34 (k2 := (q56_2 n)) (fun _ _ _ _ h => ih _ _ _ _ h) hd h)
      · refine Ev.iload_n H56 i56_26 rfl ?_
        refine Ev.iload_n H56 i56_27 rfl ?_
        refine Ev.iand H56 i56_28 ?_
        refine Rd.if_ne H56 i56_29 (t := 34) (by decide) h (fun hc h => ?_) (fun hc h => ?_)
        · exact Ev.sub (l := [(0, .ref 123), (1, .int v1), (2, .int v2)]) rfl rfl (mm_sub_c rfl (mm_sub_c rfl (mm_sub_c rfl mm_sub_n))) (t56_34 (k2 := (q56_2 n)) (fun _ _ _ _ h => ih _ _ _ _ h) hd h)
        · refine Ev.iconst H56 i56_32 kI_0 ?_
          exact Rd.ireturnK H56 i56_33 rfl (Or.inl rfl) h
/-- SerialGate$Planner.coversAll(I)Z -/
def q56 (v1 : Int32) (s : mS) : Option mQ := q56_2 10000 v1 (0 : Int32) s
theorem c56 {L : Nat} {xs : Nat → Int32} {v1 : Int32} {s : mS} {r : mQ} (h : q56 v1 s = some r) : ∀ d, 1 ≤ d → Cl L xs d 56 [.ref 123, .int v1] (hp s) (hr r) := by
  intro d hd
  show Ev L xs d 56 0 [(0, .ref 123), (1, .int v1)] [] (hp s) (hr r)
  unfold q56 at h
  refine Ev.iconst H56 i56_0 kI_0 ?_
  refine Ev.istore_n H56 i56_1 (Nat.le_of_ble_eq_true rfl) (lv2 := [(2, .int (0 : Int32)), (0, .ref 123), (1, .int v1)]) rfl ?_
  exact Ev.sub (l := [(0, .ref 123), (1, .int v1), (2, .int (0 : Int32))]) rfl rfl (mm_sub_c rfl (mm_sub_c rfl (mm_sub_c rfl mm_sub_n))) (t56_2 hd 10000 _ _ _ _ h)
theorem i55_0 : mm_cd 55 0 = some (.sipush 1023, 3, 0, 0) := rfl
theorem i55_3 : mm_cd 55 3 = some (.istore_n 1, 1, 0, 0) := rfl
theorem i55_4 : mm_cd 55 4 = some (.iconst 0, 1, 0, 0) := rfl
theorem i55_5 : mm_cd 55 5 = some (.istore_n 2, 1, 0, 0) := rfl
theorem i55_6 : mm_cd 55 6 = some (.iload_n 2, 1, 0, 0) := rfl
theorem i55_7 : mm_cd 55 7 = some (.sipush 1024, 3, 0, 0) := rfl
theorem i55_10 : mm_cd 55 10 = some (.if_icmp .ge 30, 3, 0, 0) := rfl
theorem i55_13 : mm_cd 55 13 = some (.iload_n 2, 1, 0, 0) := rfl
theorem i55_14 : mm_cd 55 14 = some (.invokestatic 34, 3, 0, 343) := rfl
theorem i55_17 : mm_cd 55 17 = some (.iload_n 1, 1, 0, 0) := rfl
theorem i55_18 : mm_cd 55 18 = some (.invokestatic 34, 3, 0, 343) := rfl
theorem i55_21 : mm_cd 55 21 = some (.if_icmp .ge 13, 3, 0, 0) := rfl
theorem i55_24 : mm_cd 55 24 = some (.aload_n 0, 1, 0, 0) := rfl
theorem i55_25 : mm_cd 55 25 = some (.iload_n 2, 1, 0, 0) := rfl
theorem i55_26 : mm_cd 55 26 = some (.invokevirtual 59, 3, 0, 56) := rfl
theorem i55_29 : mm_cd 55 29 = some (.ifCond .eq 5, 3, 0, 0) := rfl
theorem i55_32 : mm_cd 55 32 = some (.iload_n 2, 1, 0, 0) := rfl
theorem i55_33 : mm_cd 55 33 = some (.istore_n 1, 1, 0, 0) := rfl
theorem i55_34 : mm_cd 55 34 = some (.iinc 2 1, 3, 0, 0) := rfl
theorem i55_37 : mm_cd 55 37 = some (.goto (-31), 3, 0, 0) := rfl
theorem i55_40 : mm_cd 55 40 = some (.iload_n 1, 1, 0, 0) := rfl
theorem i55_41 : mm_cd 55 41 = some (.ireturn, 1, 0, 0) := rfl
def q55_34 (k6 : Int32 → Int32 → mS → Option mQ) (v1 : Int32) (v2 : Int32) (s : mS) : Option mQ := bx (v2 + (1 : Int32)) fun x1 => k6 v1 x1 s
theorem t55_34 {L : Nat} {xs : Nat → Int32} {d : Nat} {k6 : Int32 → Int32 → mS → Option mQ} (hk6 : ∀ (v1 : Int32) (v2 : Int32) (s : mS) (r : mQ), k6 v1 v2 s = some r → Ev L xs d 55 6 [(0, .ref 123), (1, .int v1), (2, .int v2)] [] (hp s) (hr r)) (hd : 2 ≤ d) {v1 : Int32} {v2 : Int32} {s : mS} {r : mQ} (h : q55_34 k6 v1 v2 s = some r) : Ev L xs d 55 34 [(0, .ref 123), (1, .int v1), (2, .int v2)] [] (hp s) (hr r) := by
  unfold q55_34 at h
  refine Rd.iinc H55 i55_34 (Nat.le_of_ble_eq_true rfl) rfl kI_1 (lv2 := fun x1 => [(2, .int x1), (0, .ref 123), (1, .int v1)]) (fun _ => rfl) h (fun x1 h => ?_)
  refine Ev.goto H55 i55_37 (t := 6) (by decide) ?_
  exact Ev.sub (l := [(0, .ref 123), (1, .int v1), (2, .int x1)]) rfl rfl (mm_sub_c rfl (mm_sub_c rfl (mm_sub_c rfl mm_sub_n))) (hk6 _ _ _ _ h)
def q55_6 : Nat → Int32 → Int32 → mS → Option mQ
  | 0, _, _, _ => none
  | n + 1, v1, v2, s => if (1024 : Int32) ≤ v2 then (rv v1 s) else (bN (q343 v2 s) fun x3 s2 => bN (q343 v1 s2) fun x5 s4 => if x5 ≤ x3 then (q55_34 (q55_6 n) v1 v2 s4) else (bN (q56 v2 s4) fun x7 s6 => if x7 = 0 then (q55_34 (q55_6 n) v1 v2 s6) else (q55_34 (q55_6 n) v2 v2 s6)))
theorem t55_6 {L : Nat} {xs : Nat → Int32} {d : Nat} (hd : 2 ≤ d) : ∀ (n : Nat) (v1 : Int32) (v2 : Int32) (s : mS) (r : mQ), q55_6 n v1 v2 s = some r → Ev L xs d 55 6 [(0, .ref 123), (1, .int v1), (2, .int v2)] [] (hp s) (hr r) := by
  intro n
  induction n with
  | zero => intro v1 v2 s r h; rw [q55_6] at h; cases h
  | succ n ih =>
    intro v1 v2 s r h
    rw [q55_6] at h
    refine Ev.iload_n H55 i55_6 rfl ?_
    refine Ev.sipush H55 i55_7 kS_1024 ?_
    refine Rd.ic_ge H55 i55_10 (t := 40) (by decide) h (fun hc h => ?_) (fun hc h => ?_)
    · refine Ev.iload_n H55 i55_40 rfl ?_
      exact Rd.ireturn H55 i55_41 rfl h
    · refine Ev.iload_n H55 i55_13 rfl ?_
      refine Rd.cS1vN H55 i55_14 cal343 (Nat.le_of_ble_eq_true rfl) (Nat.le_of_ble_eq_true rfl) (Nat.lt_of_lt_of_le (by decide) hd) (fun q hq => c343 hq) h (fun x3 s2 h => ?_)
      refine Ev.iload_n H55 i55_17 rfl ?_
      refine Rd.cS1vN H55 i55_18 cal343 (Nat.le_of_ble_eq_true rfl) (Nat.le_of_ble_eq_true rfl) (Nat.lt_of_lt_of_le (by decide) hd) (fun q hq => c343 hq) h (fun x5 s4 h => ?_)
      refine Rd.ic_ge H55 i55_21 (t := 34) (by decide) h (fun hc h => ?_) (fun hc h => ?_)
      · exact Ev.sub (l := [(0, .ref 123), (1, .int v1), (2, .int v2)]) rfl rfl (mm_sub_c rfl (mm_sub_c rfl (mm_sub_c rfl mm_sub_n))) (t55_34 (k6 := (q55_6 n)) (fun _ _ _ _ h => ih _ _ _ _ h) hd h)
      · refine Ev.aload_n H55 i55_24 rfl ?_
        refine Ev.iload_n H55 i55_25 rfl ?_
        refine Rd.cV1vN H55 i55_26 cal56 ob5 (Nat.le_of_ble_eq_true rfl) (Nat.le_of_ble_eq_true rfl) (Nat.lt_of_lt_of_le (by decide) hd) (fun q hq => c56 hq) h (fun x7 s6 h => ?_)
        refine Rd.if_eq H55 i55_29 (t := 34) (by decide) h (fun hc h => ?_) (fun hc h => ?_)
        · exact Ev.sub (l := [(0, .ref 123), (1, .int v1), (2, .int v2)]) rfl rfl (mm_sub_c rfl (mm_sub_c rfl (mm_sub_c rfl mm_sub_n))) (t55_34 (k6 := (q55_6 n)) (fun _ _ _ _ h => ih _ _ _ _ h) hd h)
        · refine Ev.iload_n H55 i55_32 rfl ?_
          refine Ev.istore_n H55 i55_33 (Nat.le_of_ble_eq_true rfl) (lv2 := [(1, .int v2), (0, .ref 123), (2, .int v2)]) rfl ?_
          exact Ev.sub (l := [(0, .ref 123), (1, .int v2), (2, .int v2)]) rfl rfl (mm_sub_c rfl (mm_sub_c rfl (mm_sub_c rfl mm_sub_n))) (t55_34 (k6 := (q55_6 n)) (fun _ _ _ _ h => ih _ _ _ _ h) hd h)
/-- SerialGate$Planner.leastCover()I -/
def q55 (s : mS) : Option mQ := q55_6 10000 (1023 : Int32) (0 : Int32) s
theorem c55 {L : Nat} {xs : Nat → Int32} {s : mS} {r : mQ} (h : q55 s = some r) : ∀ d, 2 ≤ d → Cl L xs d 55 [.ref 123] (hp s) (hr r) := by
  intro d hd
  show Ev L xs d 55 0 [(0, .ref 123)] [] (hp s) (hr r)
  unfold q55 at h
  refine Ev.sipush H55 i55_0 kS_1023 ?_
  refine Ev.istore_n H55 i55_3 (Nat.le_of_ble_eq_true rfl) (lv2 := [(1, .int (1023 : Int32)), (0, .ref 123)]) rfl ?_
  refine Ev.iconst H55 i55_4 kI_0 ?_
  refine Ev.istore_n H55 i55_5 (Nat.le_of_ble_eq_true rfl) (lv2 := [(2, .int (0 : Int32)), (1, .int (1023 : Int32)), (0, .ref 123)]) rfl ?_
  exact Ev.sub (l := [(0, .ref 123), (1, .int (1023 : Int32)), (2, .int (0 : Int32))]) rfl rfl (mm_sub_c rfl (mm_sub_c rfl (mm_sub_c rfl mm_sub_n))) (t55_6 hd 10000 _ _ _ _ h)
theorem i58_0 : mm_cd 58 0 = some (.aload_n 0, 1, 0, 0) := rfl
theorem i58_1 : mm_cd 58 1 = some (.getfield 25, 3, ((5 : Nat) : Int), 0) := rfl
theorem i58_4 : mm_cd 58 4 = some (.astore_n 3, 1, 0, 0) := rfl
theorem i58_5 : mm_cd 58 5 = some (.aload_n 0, 1, 0, 0) := rfl
theorem i58_6 : mm_cd 58 6 = some (.getfield 15, 3, ((5 : Nat) : Int), 2) := rfl
theorem i58_9 : mm_cd 58 9 = some (.astore 4, 2, 0, 0) := rfl
theorem i58_11 : mm_cd 58 11 = some (.iload_n 1, 1, 0, 0) := rfl
theorem i58_12 : mm_cd 58 12 = some (.aload_n 3, 1, 0, 0) := rfl
theorem i58_13 : mm_cd 58 13 = some (.getfield 29, 3, ((0 : Nat) : Int), 0) := rfl
theorem i58_16 : mm_cd 58 16 = some (.if_icmp .lt 29, 3, 0, 0) := rfl
theorem i58_19 : mm_cd 58 19 = some (.iload_n 2, 1, 0, 0) := rfl
theorem i58_20 : mm_cd 58 20 = some (.aload_n 0, 1, 0, 0) := rfl
theorem i58_21 : mm_cd 58 21 = some (.getfield 21, 3, ((5 : Nat) : Int), 4) := rfl
theorem i58_24 : mm_cd 58 24 = some (.if_icmp .le 20, 3, 0, 0) := rfl
theorem i58_27 : mm_cd 58 27 = some (.aload_n 0, 1, 0, 0) := rfl
theorem i58_28 : mm_cd 58 28 = some (.iload_n 2, 1, 0, 0) := rfl
theorem i58_29 : mm_cd 58 29 = some (.putfield 21, 3, ((5 : Nat) : Int), 4) := rfl
theorem i58_32 : mm_cd 58 32 = some (.aload 4, 2, 0, 0) := rfl
theorem i58_34 : mm_cd 58 34 = some (.iconst 0, 1, 0, 0) := rfl
theorem i58_35 : mm_cd 58 35 = some (.aload_n 0, 1, 0, 0) := rfl
theorem i58_36 : mm_cd 58 36 = some (.getfield 18, 3, ((5 : Nat) : Int), 3) := rfl
theorem i58_39 : mm_cd 58 39 = some (.iconst 0, 1, 0, 0) := rfl
theorem i58_40 : mm_cd 58 40 = some (.iconst 5, 1, 0, 0) := rfl
theorem i58_41 : mm_cd 58 41 = some (.invokestatic 69, 3, 1, 0) := rfl
theorem i58_44 : mm_cd 58 44 = some (.return_, 1, 0, 0) := rfl
theorem i58_45 : mm_cd 58 45 = some (.aload_n 0, 1, 0, 0) := rfl
theorem i58_46 : mm_cd 58 46 = some (.iload_n 1, 1, 0, 0) := rfl
theorem i58_47 : mm_cd 58 47 = some (.iconst 1, 1, 0, 0) := rfl
theorem i58_48 : mm_cd 58 48 = some (.iadd, 1, 0, 0) := rfl
theorem i58_49 : mm_cd 58 49 = some (.iload_n 2, 1, 0, 0) := rfl
theorem i58_50 : mm_cd 58 50 = some (.invokestatic 65, 3, 0, 58) := rfl
theorem i58_53 : mm_cd 58 53 = some (.iload_n 1, 1, 0, 0) := rfl
theorem i58_54 : mm_cd 58 54 = some (.iconst 1, 1, 0, 0) := rfl
theorem i58_55 : mm_cd 58 55 = some (.iadd, 1, 0, 0) := rfl
theorem i58_56 : mm_cd 58 56 = some (.istore 5, 2, 0, 0) := rfl
theorem i58_58 : mm_cd 58 58 = some (.aload 4, 2, 0, 0) := rfl
theorem i58_60 : mm_cd 58 60 = some (.iload_n 1, 1, 0, 0) := rfl
theorem i58_61 : mm_cd 58 61 = some (.iaload, 1, 0, 0) := rfl
theorem i58_62 : mm_cd 58 62 = some (.iconst (-1), 1, 0, 0) := rfl
theorem i58_63 : mm_cd 58 63 = some (.if_icmp .ne 91, 3, 0, 0) := rfl
theorem i58_66 : mm_cd 58 66 = some (.iload 5, 2, 0, 0) := rfl
theorem i58_68 : mm_cd 58 68 = some (.aload_n 3, 1, 0, 0) := rfl
theorem i58_69 : mm_cd 58 69 = some (.getfield 29, 3, ((0 : Nat) : Int), 0) := rfl
theorem i58_72 : mm_cd 58 72 = some (.if_icmp .ge 82, 3, 0, 0) := rfl
theorem i58_75 : mm_cd 58 75 = some (.aload 4, 2, 0, 0) := rfl
theorem i58_77 : mm_cd 58 77 = some (.iload 5, 2, 0, 0) := rfl
theorem i58_79 : mm_cd 58 79 = some (.iaload, 1, 0, 0) := rfl
theorem i58_80 : mm_cd 58 80 = some (.iconst (-1), 1, 0, 0) := rfl
theorem i58_81 : mm_cd 58 81 = some (.if_icmp .ne 67, 3, 0, 0) := rfl
theorem i58_84 : mm_cd 58 84 = some (.aload_n 3, 1, 0, 0) := rfl
theorem i58_85 : mm_cd 58 85 = some (.iload_n 1, 1, 0, 0) := rfl
theorem i58_86 : mm_cd 58 86 = some (.iload 5, 2, 0, 0) := rfl
theorem i58_88 : mm_cd 58 88 = some (.invokevirtual 44, 3, 0, 5) := rfl
theorem i58_91 : mm_cd 58 91 = some (.ifCond .ne 57, 3, 0, 0) := rfl
theorem i58_94 : mm_cd 58 94 = some (.aload 4, 2, 0, 0) := rfl
theorem i58_96 : mm_cd 58 96 = some (.iload_n 1, 1, 0, 0) := rfl
theorem i58_97 : mm_cd 58 97 = some (.iload 5, 2, 0, 0) := rfl
theorem i58_99 : mm_cd 58 99 = some (.iastore, 1, 0, 0) := rfl
theorem i58_100 : mm_cd 58 100 = some (.aload 4, 2, 0, 0) := rfl
theorem i58_102 : mm_cd 58 102 = some (.iload 5, 2, 0, 0) := rfl
theorem i58_104 : mm_cd 58 104 = some (.iload_n 1, 1, 0, 0) := rfl
theorem i58_105 : mm_cd 58 105 = some (.iastore, 1, 0, 0) := rfl
theorem i58_106 : mm_cd 58 106 = some (.aload_n 3, 1, 0, 0) := rfl
theorem i58_107 : mm_cd 58 107 = some (.iload_n 1, 1, 0, 0) := rfl
theorem i58_108 : mm_cd 58 108 = some (.invokevirtual 62, 3, 0, 4) := rfl
theorem i58_111 : mm_cd 58 111 = some (.invokestatic 34, 3, 0, 343) := rfl
theorem i58_114 : mm_cd 58 114 = some (.aload_n 3, 1, 0, 0) := rfl
theorem i58_115 : mm_cd 58 115 = some (.iload 5, 2, 0, 0) := rfl
theorem i58_117 : mm_cd 58 117 = some (.invokevirtual 62, 3, 0, 4) := rfl
theorem i58_120 : mm_cd 58 120 = some (.invokestatic 34, 3, 0, 343) := rfl
theorem i58_123 : mm_cd 58 123 = some (.iadd, 1, 0, 0) := rfl
theorem i58_124 : mm_cd 58 124 = some (.istore 6, 2, 0, 0) := rfl
theorem i58_126 : mm_cd 58 126 = some (.aload_n 0, 1, 0, 0) := rfl
theorem i58_127 : mm_cd 58 127 = some (.iload_n 1, 1, 0, 0) := rfl
theorem i58_128 : mm_cd 58 128 = some (.iconst 1, 1, 0, 0) := rfl
theorem i58_129 : mm_cd 58 129 = some (.iadd, 1, 0, 0) := rfl
theorem i58_130 : mm_cd 58 130 = some (.iload_n 2, 1, 0, 0) := rfl
theorem i58_131 : mm_cd 58 131 = some (.iload 6, 2, 0, 0) := rfl
theorem i58_133 : mm_cd 58 133 = some (.iadd, 1, 0, 0) := rfl
theorem i58_134 : mm_cd 58 134 = some (.invokestatic 65, 3, 0, 58) := rfl
theorem i58_137 : mm_cd 58 137 = some (.aload 4, 2, 0, 0) := rfl
theorem i58_139 : mm_cd 58 139 = some (.iload_n 1, 1, 0, 0) := rfl
theorem i58_140 : mm_cd 58 140 = some (.iconst (-1), 1, 0, 0) := rfl
theorem i58_141 : mm_cd 58 141 = some (.iastore, 1, 0, 0) := rfl
theorem i58_142 : mm_cd 58 142 = some (.aload 4, 2, 0, 0) := rfl
theorem i58_144 : mm_cd 58 144 = some (.iload 5, 2, 0, 0) := rfl
theorem i58_146 : mm_cd 58 146 = some (.iconst (-1), 1, 0, 0) := rfl
theorem i58_147 : mm_cd 58 147 = some (.iastore, 1, 0, 0) := rfl
theorem i58_148 : mm_cd 58 148 = some (.iinc 5 1, 3, 0, 0) := rfl
theorem i58_151 : mm_cd 58 151 = some (.goto (-93), 3, 0, 0) := rfl
theorem i58_154 : mm_cd 58 154 = some (.return_, 1, 0, 0) := rfl
def q58_148 (k58 : Int32 → Int32 → Int32 → mS → Option mQ) (R58 : Int32 → Int32 → mS → Option mQ) (v1 : Int32) (v2 : Int32) (v5 : Int32) (s : mS) : Option mQ := bx (v5 + (1 : Int32)) fun x1 => k58 v1 v2 x1 s
theorem t58_148 {L : Nat} {xs : Nat → Int32} {d dr : Nat} {k58 : Int32 → Int32 → Int32 → mS → Option mQ} {R58 : Int32 → Int32 → mS → Option mQ} (hk58 : ∀ (v1 : Int32) (v2 : Int32) (v5 : Int32) (s : mS) (r : mQ), k58 v1 v2 v5 s = some r → Ev L xs d 58 58 [(0, .ref 123), (1, .int v1), (2, .int v2), (3, .ref 27), (4, .ref 125), (5, .int v5)] [] (hp s) (hr r)) (hR58 : ∀ {v1 : Int32} {v2 : Int32} {s : mS} {q : mQ}, R58 v1 v2 s = some q → ∀ e, dr ≤ e → Cl L xs e 58 [.ref 123, .int v1, .int v2] (hp s) (hr q)) (hdr : dr < d) (hd : 2 ≤ d) {v1 : Int32} {v2 : Int32} {v5 : Int32} {s : mS} {r : mQ} (h : q58_148 k58 R58 v1 v2 v5 s = some r) : Ev L xs d 58 148 [(0, .ref 123), (1, .int v1), (2, .int v2), (3, .ref 27), (4, .ref 125), (5, .int v5)] [] (hp s) (hr r) := by
  unfold q58_148 at h
  refine Rd.iinc H58 i58_148 (Nat.le_of_ble_eq_true rfl) rfl kI_1 (lv2 := fun x1 => [(5, .int x1), (0, .ref 123), (1, .int v1), (2, .int v2), (3, .ref 27), (4, .ref 125)]) (fun _ => rfl) h (fun x1 h => ?_)
  refine Ev.goto H58 i58_151 (t := 58) (by decide) ?_
  exact Ev.sub (l := [(0, .ref 123), (1, .int v1), (2, .int v2), (3, .ref 27), (4, .ref 125), (5, .int x1)]) rfl rfl (mm_sub_c rfl (mm_sub_c rfl (mm_sub_c rfl (mm_sub_c rfl (mm_sub_c rfl (mm_sub_c rfl mm_sub_n)))))) (hk58 _ _ _ _ _ h)
def q58_58 (R58 : Int32 → Int32 → mS → Option mQ) : Nat → Int32 → Int32 → Int32 → mS → Option mQ
  | 0, _, _, _, _ => none
  | n + 1, v1, v2, v5, s => gA 5 v1 <| if ¬ (s.1 125 v1.toNatClampNeg) = (-1 : Int32) then (ru s) else (if (s.1 27 0) ≤ v5 then (ru s) else (gA 5 v5 <| if ¬ (s.1 125 v5.toNatClampNeg) = (-1 : Int32) then (q58_148 (q58_58 R58 n) R58 v1 v2 v5 s) else (bN (q5 27 v1 v5 s) fun x3 s2 => if ¬ x3 = 0 then (q58_148 (q58_58 R58 n) R58 v1 v2 v5 s2) else (gA 5 v1 <| sp (sI s2 125 v1.toNatClampNeg v5) fun s4 => gA 5 v5 <| sp (sI s4 125 v5.toNatClampNeg v1) fun s5 => bN (q4 27 v1 s5) fun x7 s6 => bN (q343 x7 s6) fun x9 s8 => bN (q4 27 v5 s8) fun x11 s10 => bN (q343 x11 s10) fun x13 s12 => bx (x9 + x13) fun x14 => bM (R58 (v1 + (1 : Int32)) (v2 + x14) s12) fun s15 => gA 5 v1 <| sp (sI s15 125 v1.toNatClampNeg (-1 : Int32)) fun s16 => gA 5 v5 <| sp (sI s16 125 v5.toNatClampNeg (-1 : Int32)) fun s17 => q58_148 (q58_58 R58 n) R58 v1 v2 v5 s17))))
theorem t58_58 {L : Nat} {xs : Nat → Int32} {d dr : Nat} {R58 : Int32 → Int32 → mS → Option mQ} (hR58 : ∀ {v1 : Int32} {v2 : Int32} {s : mS} {q : mQ}, R58 v1 v2 s = some q → ∀ e, dr ≤ e → Cl L xs e 58 [.ref 123, .int v1, .int v2] (hp s) (hr q)) (hdr : dr < d) (hd : 2 ≤ d) : ∀ (n : Nat) (v1 : Int32) (v2 : Int32) (v5 : Int32) (s : mS) (r : mQ), q58_58 R58 n v1 v2 v5 s = some r → Ev L xs d 58 58 [(0, .ref 123), (1, .int v1), (2, .int v2), (3, .ref 27), (4, .ref 125), (5, .int v5)] [] (hp s) (hr r) := by
  intro n
  induction n with
  | zero => intro v1 v2 v5 s r h; rw [q58_58] at h; cases h
  | succ n ih =>
    intro v1 v2 v5 s r h
    rw [q58_58] at h
    refine Ev.aload H58 i58_58 rfl ?_
    refine Ev.iload_n H58 i58_60 rfl ?_
    refine Rd.iaload H58 i58_61 ar_125 h (fun h => ?_)
    refine Ev.iconst H58 i58_62 kI_m1 ?_
    refine Rd.ic_ne H58 i58_63 (t := 154) (by decide) h (fun hc h => ?_) (fun hc h => ?_)
    · exact Rd.return_ H58 i58_154 rfl h
    · refine Ev.iload H58 i58_66 rfl ?_
      refine Ev.aload_n H58 i58_68 rfl ?_
      refine Rd.getI H58 i58_69 (ob0 mA0_27) rfl ?_
      refine Rd.ic_ge H58 i58_72 (t := 154) (by decide) h (fun hc h => ?_) (fun hc h => ?_)
      · exact Rd.return_ H58 i58_154 rfl h
      · refine Ev.aload H58 i58_75 rfl ?_
        refine Ev.iload H58 i58_77 rfl ?_
        refine Rd.iaload H58 i58_79 ar_125 h (fun h => ?_)
        refine Ev.iconst H58 i58_80 kI_m1 ?_
        refine Rd.ic_ne H58 i58_81 (t := 148) (by decide) h (fun hc h => ?_) (fun hc h => ?_)
        · exact Ev.sub (l := [(0, .ref 123), (1, .int v1), (2, .int v2), (3, .ref 27), (4, .ref 125), (5, .int v5)]) rfl rfl (mm_sub_c rfl (mm_sub_c rfl (mm_sub_c rfl (mm_sub_c rfl (mm_sub_c rfl (mm_sub_c rfl mm_sub_n)))))) (t58_148 (k58 := (q58_58 R58 n)) (fun _ _ _ _ _ h => ih _ _ _ _ _ h) hR58 hdr hd h)
        · refine Ev.aload_n H58 i58_84 rfl ?_
          refine Ev.iload_n H58 i58_85 rfl ?_
          refine Ev.iload H58 i58_86 rfl ?_
          refine Rd.cV2vN H58 i58_88 cal5 (ob0 mA0_27) (Nat.le_of_ble_eq_true rfl) (Nat.le_of_ble_eq_true rfl) (Nat.lt_of_lt_of_le (by decide) hd) (fun q hq => c5 mA0_27 hq) h (fun x3 s2 h => ?_)
          refine Rd.if_ne H58 i58_91 (t := 148) (by decide) h (fun hc h => ?_) (fun hc h => ?_)
          · exact Ev.sub (l := [(0, .ref 123), (1, .int v1), (2, .int v2), (3, .ref 27), (4, .ref 125), (5, .int v5)]) rfl rfl (mm_sub_c rfl (mm_sub_c rfl (mm_sub_c rfl (mm_sub_c rfl (mm_sub_c rfl (mm_sub_c rfl mm_sub_n)))))) (t58_148 (k58 := (q58_58 R58 n)) (fun _ _ _ _ _ h => ih _ _ _ _ _ h) hR58 hdr hd h)
          · refine Ev.aload H58 i58_94 rfl ?_
            refine Ev.iload_n H58 i58_96 rfl ?_
            refine Ev.iload H58 i58_97 rfl ?_
            refine Rd.iastore H58 i58_99 ar_125 h (fun s4 h => ?_)
            refine Ev.aload H58 i58_100 rfl ?_
            refine Ev.iload H58 i58_102 rfl ?_
            refine Ev.iload_n H58 i58_104 rfl ?_
            refine Rd.iastore H58 i58_105 ar_125 h (fun s5 h => ?_)
            refine Ev.aload_n H58 i58_106 rfl ?_
            refine Ev.iload_n H58 i58_107 rfl ?_
            refine Rd.cV1vN H58 i58_108 cal4 (ob0 mA0_27) (Nat.le_of_ble_eq_true rfl) (Nat.le_of_ble_eq_true rfl) (Nat.lt_of_lt_of_le (by decide) hd) (fun q hq => c4 mA0_27 hq) h (fun x7 s6 h => ?_)
            refine Rd.cS1vN H58 i58_111 cal343 (Nat.le_of_ble_eq_true rfl) (Nat.le_of_ble_eq_true rfl) (Nat.lt_of_lt_of_le (by decide) hd) (fun q hq => c343 hq) h (fun x9 s8 h => ?_)
            refine Ev.aload_n H58 i58_114 rfl ?_
            refine Ev.iload H58 i58_115 rfl ?_
            refine Rd.cV1vN H58 i58_117 cal4 (ob0 mA0_27) (Nat.le_of_ble_eq_true rfl) (Nat.le_of_ble_eq_true rfl) (Nat.lt_of_lt_of_le (by decide) hd) (fun q hq => c4 mA0_27 hq) h (fun x11 s10 h => ?_)
            refine Rd.cS1vN H58 i58_120 cal343 (Nat.le_of_ble_eq_true rfl) (Nat.le_of_ble_eq_true rfl) (Nat.lt_of_lt_of_le (by decide) hd) (fun q hq => c343 hq) h (fun x13 s12 h => ?_)
            refine Ev.iadd H58 i58_123 ?_
            refine Rd.istore H58 i58_124 (Nat.le_of_ble_eq_true rfl) (lv2 := fun x14 => [(6, .int x14), (0, .ref 123), (1, .int v1), (2, .int v2), (3, .ref 27), (4, .ref 125), (5, .int v5)]) (fun _ => rfl) h (fun x14 h => ?_)
            refine Ev.aload_n H58 i58_126 rfl ?_
            refine Ev.iload_n H58 i58_127 rfl ?_
            refine Ev.iconst H58 i58_128 kI_1 ?_
            refine Ev.iadd H58 i58_129 ?_
            refine Ev.iload_n H58 i58_130 rfl ?_
            refine Ev.iload H58 i58_131 rfl ?_
            refine Ev.iadd H58 i58_133 ?_
            refine Rd.cS3uN H58 i58_134 cal58 (Nat.le_of_ble_eq_true rfl) (Nat.le_of_ble_eq_true rfl) hdr (fun q hq => hR58 hq) h (fun s15 h => ?_)
            refine Ev.aload H58 i58_137 rfl ?_
            refine Ev.iload_n H58 i58_139 rfl ?_
            refine Ev.iconst H58 i58_140 kI_m1 ?_
            refine Rd.iastore H58 i58_141 ar_125 h (fun s16 h => ?_)
            refine Ev.aload H58 i58_142 rfl ?_
            refine Ev.iload H58 i58_144 rfl ?_
            refine Ev.iconst H58 i58_146 kI_m1 ?_
            refine Rd.iastore H58 i58_147 ar_125 h (fun s17 h => ?_)
            exact Ev.sub (l := [(0, .ref 123), (1, .int v1), (2, .int v2), (3, .ref 27), (4, .ref 125), (5, .int v5)]) rfl rfl (mm_sub_c rfl (mm_sub_c rfl (mm_sub_c rfl (mm_sub_c rfl (mm_sub_c rfl (mm_sub_c rfl mm_sub_n)))))) (t58_148 (k58 := (q58_58 R58 n)) (fun _ _ _ _ _ h => ih _ _ _ _ _ h) hR58 hdr hd h)
/-- SerialGate$Planner.pairFrom(LSerialGate$Planner;II)V -/
def q58F (R58 : Int32 → Int32 → mS → Option mQ) (v1 : Int32) (v2 : Int32) (s : mS) : Option mQ := if v1 < (s.1 27 0) then (bM (R58 (v1 + (1 : Int32)) v2 s) fun s18 => bx (v1 + (1 : Int32)) fun x19 => q58_58 R58 10000 v1 v2 x19 s18) else (if v2 ≤ (s.1 123 4) then (ru s) else (sp (sI s 123 4 v2) fun s20 => gC 5 5 (0 : Int32) (0 : Int32) (5 : Int32) <| sp (sC s20 125 126 (0 : Int32).toNatClampNeg (0 : Int32).toNatClampNeg (5 : Int32).toNatClampNeg) fun s21 => ru s21))
theorem c58F {L : Nat} {xs : Nat → Int32} {dr : Nat} {R58 : Int32 → Int32 → mS → Option mQ} (hR58 : ∀ {v1 : Int32} {v2 : Int32} {s : mS} {q : mQ}, R58 v1 v2 s = some q → ∀ e, dr ≤ e → Cl L xs e 58 [.ref 123, .int v1, .int v2] (hp s) (hr q)) {v1 : Int32} {v2 : Int32} {s : mS} {r : mQ} (h : q58F R58 v1 v2 s = some r) : ∀ d, 2 ≤ d → dr < d → Cl L xs d 58 [.ref 123, .int v1, .int v2] (hp s) (hr r) := by
  intro d hd hdr
  show Ev L xs d 58 0 [(0, .ref 123), (1, .int v1), (2, .int v2)] [] (hp s) (hr r)
  unfold q58F at h
  refine Ev.aload_n H58 i58_0 rfl ?_
  refine Rd.getR H58 i58_1 ob5 rfl ?_
  refine Ev.astore_n H58 i58_4 (Nat.le_of_ble_eq_true rfl) (lv2 := [(3, .ref 27), (0, .ref 123), (1, .int v1), (2, .int v2)]) rfl ?_
  refine Ev.aload_n H58 i58_5 rfl ?_
  refine Rd.getR H58 i58_6 ob5 rfl ?_
  refine Ev.astore H58 i58_9 (Nat.le_of_ble_eq_true rfl) (lv2 := [(4, .ref 125), (3, .ref 27), (0, .ref 123), (1, .int v1), (2, .int v2)]) rfl ?_
  refine Ev.iload_n H58 i58_11 rfl ?_
  refine Ev.aload_n H58 i58_12 rfl ?_
  refine Rd.getI H58 i58_13 (ob0 mA0_27) rfl ?_
  refine Rd.ic_lt H58 i58_16 (t := 45) (by decide) h (fun hc h => ?_) (fun hc h => ?_)
  · refine Ev.aload_n H58 i58_45 rfl ?_
    refine Ev.iload_n H58 i58_46 rfl ?_
    refine Ev.iconst H58 i58_47 kI_1 ?_
    refine Ev.iadd H58 i58_48 ?_
    refine Ev.iload_n H58 i58_49 rfl ?_
    refine Rd.cS3uN H58 i58_50 cal58 (Nat.le_of_ble_eq_true rfl) (Nat.le_of_ble_eq_true rfl) hdr (fun q hq => hR58 hq) h (fun s18 h => ?_)
    refine Ev.iload_n H58 i58_53 rfl ?_
    refine Ev.iconst H58 i58_54 kI_1 ?_
    refine Ev.iadd H58 i58_55 ?_
    refine Rd.istore H58 i58_56 (Nat.le_of_ble_eq_true rfl) (lv2 := fun x19 => [(5, .int x19), (4, .ref 125), (3, .ref 27), (0, .ref 123), (1, .int v1), (2, .int v2)]) (fun _ => rfl) h (fun x19 h => ?_)
    exact Ev.sub (l := [(0, .ref 123), (1, .int v1), (2, .int v2), (3, .ref 27), (4, .ref 125), (5, .int x19)]) rfl rfl (mm_sub_c rfl (mm_sub_c rfl (mm_sub_c rfl (mm_sub_c rfl (mm_sub_c rfl (mm_sub_c rfl mm_sub_n)))))) (t58_58 hR58 hdr hd 10000 _ _ _ _ _ h)
  · refine Ev.iload_n H58 i58_19 rfl ?_
    refine Ev.aload_n H58 i58_20 rfl ?_
    refine Rd.getI H58 i58_21 ob5 rfl ?_
    refine Rd.ic_le H58 i58_24 (t := 44) (by decide) h (fun hc h => ?_) (fun hc h => ?_)
    · exact Rd.return_ H58 i58_44 rfl h
    · refine Ev.aload_n H58 i58_27 rfl ?_
      refine Ev.iload_n H58 i58_28 rfl ?_
      refine Rd.putI H58 i58_29 ob5 rfl ty5_4.1 ty5_4.2 h (fun s20 h => ?_)
      refine Ev.aload H58 i58_32 rfl ?_
      refine Ev.iconst H58 i58_34 kI_0 ?_
      refine Ev.aload_n H58 i58_35 rfl ?_
      refine Rd.getR H58 i58_36 ob5 rfl ?_
      refine Ev.iconst H58 i58_39 kI_0 ?_
      refine Ev.iconst H58 i58_40 kI_5 ?_
      refine Rd.copy H58 i58_41 ar_125 ar_126 (Nat.le_of_ble_eq_true rfl) h (fun s21 h => ?_)
      exact Rd.return_ H58 i58_44 rfl h
def q58 : Nat → Int32 → Int32 → mS → Option mQ
  | 0, _, _, _ => none
  | n + 1, v1, v2, s => q58F (q58 n) v1 v2 s
theorem c58n {L : Nat} {xs : Nat → Int32} : ∀ (n : Nat) {v1 : Int32} {v2 : Int32} {s : mS} {r : mQ}, q58 n v1 v2 s = some r → ∀ d, 2 + n ≤ d → Cl L xs d 58 [.ref 123, .int v1, .int v2] (hp s) (hr r) := by
  intro n
  induction n with
  | zero => intro v1 v2 s r h; rw [q58] at h; cases h
  | succ n ih =>
    intro v1 v2 s r h d hd
    rw [q58] at h
    exact c58F (dr := 2 + n) ih h d (by omega) (by omega)
theorem c58 {L : Nat} {xs : Nat → Int32} {v1 : Int32} {v2 : Int32} {s : mS} {r : mQ} (h : q58 7 v1 v2 s = some r) : ∀ d, 9 ≤ d → Cl L xs d 58 [.ref 123, .int v1, .int v2] (hp s) (hr r) := c58n 7 h
theorem i57_0 : mm_cd 57 0 = some (.iconst 0, 1, 0, 0) := rfl
theorem i57_1 : mm_cd 57 1 = some (.istore_n 2, 1, 0, 0) := rfl
theorem i57_2 : mm_cd 57 2 = some (.iload_n 2, 1, 0, 0) := rfl
theorem i57_3 : mm_cd 57 3 = some (.iconst 5, 1, 0, 0) := rfl
theorem i57_4 : mm_cd 57 4 = some (.if_icmp .ge 16, 3, 0, 0) := rfl
theorem i57_7 : mm_cd 57 7 = some (.aload_n 0, 1, 0, 0) := rfl
theorem i57_8 : mm_cd 57 8 = some (.getfield 15, 3, ((5 : Nat) : Int), 2) := rfl
theorem i57_11 : mm_cd 57 11 = some (.iload_n 2, 1, 0, 0) := rfl
theorem i57_12 : mm_cd 57 12 = some (.iconst (-1), 1, 0, 0) := rfl
theorem i57_13 : mm_cd 57 13 = some (.iastore, 1, 0, 0) := rfl
theorem i57_14 : mm_cd 57 14 = some (.iinc 2 1, 3, 0, 0) := rfl
theorem i57_17 : mm_cd 57 17 = some (.goto (-15), 3, 0, 0) := rfl
theorem i57_20 : mm_cd 57 20 = some (.aload_n 0, 1, 0, 0) := rfl
theorem i57_21 : mm_cd 57 21 = some (.iconst (-1), 1, 0, 0) := rfl
theorem i57_22 : mm_cd 57 22 = some (.putfield 21, 3, ((5 : Nat) : Int), 4) := rfl
theorem i57_25 : mm_cd 57 25 = some (.aload_n 0, 1, 0, 0) := rfl
theorem i57_26 : mm_cd 57 26 = some (.iconst 0, 1, 0, 0) := rfl
theorem i57_27 : mm_cd 57 27 = some (.iconst 0, 1, 0, 0) := rfl
theorem i57_28 : mm_cd 57 28 = some (.invokestatic 65, 3, 0, 58) := rfl
theorem i57_31 : mm_cd 57 31 = some (.iload_n 1, 1, 0, 0) := rfl
theorem i57_32 : mm_cd 57 32 = some (.ifCond .lt 8, 3, 0, 0) := rfl
theorem i57_35 : mm_cd 57 35 = some (.iload_n 1, 1, 0, 0) := rfl
theorem i57_36 : mm_cd 57 36 = some (.iconst 5, 1, 0, 0) := rfl
theorem i57_37 : mm_cd 57 37 = some (.if_icmp .lt 10, 3, 0, 0) := rfl
theorem i57_40 : mm_cd 57 40 = some (.aload_n 0, 1, 0, 0) := rfl
theorem i57_41 : mm_cd 57 41 = some (.getfield 21, 3, ((5 : Nat) : Int), 4) := rfl
theorem i57_44 : mm_cd 57 44 = some (.goto 9, 3, 0, 0) := rfl
theorem i57_47 : mm_cd 57 47 = some (.aload_n 0, 1, 0, 0) := rfl
theorem i57_48 : mm_cd 57 48 = some (.getfield 18, 3, ((5 : Nat) : Int), 3) := rfl
theorem i57_51 : mm_cd 57 51 = some (.iload_n 1, 1, 0, 0) := rfl
theorem i57_52 : mm_cd 57 52 = some (.iaload, 1, 0, 0) := rfl
theorem i57_53 : mm_cd 57 53 = some (.ireturn, 1, 0, 0) := rfl
def q57_2 (k20 : Int32 → mS → Option mQ) : Nat → Int32 → Int32 → mS → Option mQ
  | 0, _, _, _ => none
  | n + 1, v1, v2, s => if (5 : Int32) ≤ v2 then (k20 v1 s) else (gA 5 v2 <| sp (sI s 125 v2.toNatClampNeg (-1 : Int32)) fun s1 => bx (v2 + (1 : Int32)) fun x2 => q57_2 k20 n v1 x2 s1)
theorem t57_2 {L : Nat} {xs : Nat → Int32} {d : Nat} {k20 : Int32 → mS → Option mQ} (hk20 : ∀ (v1 : Int32) (s : mS) (r : mQ), k20 v1 s = some r → Ev L xs d 57 20 [(0, .ref 123), (1, .int v1)] [] (hp s) (hr r)) (hd : 10 ≤ d) : ∀ (n : Nat) (v1 : Int32) (v2 : Int32) (s : mS) (r : mQ), q57_2 k20 n v1 v2 s = some r → Ev L xs d 57 2 [(0, .ref 123), (1, .int v1), (2, .int v2)] [] (hp s) (hr r) := by
  intro n
  induction n with
  | zero => intro v1 v2 s r h; rw [q57_2] at h; cases h
  | succ n ih =>
    intro v1 v2 s r h
    rw [q57_2] at h
    refine Ev.iload_n H57 i57_2 rfl ?_
    refine Ev.iconst H57 i57_3 kI_5 ?_
    refine Rd.ic_ge H57 i57_4 (t := 20) (by decide) h (fun hc h => ?_) (fun hc h => ?_)
    · exact Ev.sub (l := [(0, .ref 123), (1, .int v1)]) rfl rfl (mm_sub_c rfl (mm_sub_c rfl mm_sub_n)) (hk20 _ _ _ h)
    · refine Ev.aload_n H57 i57_7 rfl ?_
      refine Rd.getR H57 i57_8 ob5 rfl ?_
      refine Ev.iload_n H57 i57_11 rfl ?_
      refine Ev.iconst H57 i57_12 kI_m1 ?_
      refine Rd.iastore H57 i57_13 ar_125 h (fun s1 h => ?_)
      refine Rd.iinc H57 i57_14 (Nat.le_of_ble_eq_true rfl) rfl kI_1 (lv2 := fun x2 => [(2, .int x2), (0, .ref 123), (1, .int v1)]) (fun _ => rfl) h (fun x2 h => ?_)
      refine Ev.goto H57 i57_17 (t := 2) (by decide) ?_
      exact Ev.sub (l := [(0, .ref 123), (1, .int v1), (2, .int x2)]) rfl rfl (mm_sub_c rfl (mm_sub_c rfl (mm_sub_c rfl mm_sub_n))) (ih _ _ _ _ h)
def q57_40 (s : mS) : Option mQ := rv (s.1 123 4) s
theorem t57_40 {L : Nat} {xs : Nat → Int32} {d : Nat} (hd : 10 ≤ d) {s : mS} {r : mQ} (h : q57_40 s = some r) : Ev L xs d 57 40 [(0, .ref 123)] [] (hp s) (hr r) := by
  unfold q57_40 at h
  refine Ev.aload_n H57 i57_40 rfl ?_
  refine Rd.getI H57 i57_41 ob5 rfl ?_
  refine Ev.goto H57 i57_44 (t := 53) (by decide) ?_
  exact Rd.ireturn H57 i57_53 rfl h
def q57_20 (v1 : Int32) (s : mS) : Option mQ := sp (sI s 123 4 (-1 : Int32)) fun s3 => bM (q58 7 (0 : Int32) (0 : Int32) s3) fun s4 => if v1 < 0 then (q57_40 s4) else (if v1 < (5 : Int32) then (gA 5 v1 <| rv (s4.1 126 v1.toNatClampNeg) s4) else (q57_40 s4))
theorem t57_20 {L : Nat} {xs : Nat → Int32} {d : Nat} (hd : 10 ≤ d) {v1 : Int32} {s : mS} {r : mQ} (h : q57_20 v1 s = some r) : Ev L xs d 57 20 [(0, .ref 123), (1, .int v1)] [] (hp s) (hr r) := by
  unfold q57_20 at h
  refine Ev.aload_n H57 i57_20 rfl ?_
  refine Ev.iconst H57 i57_21 kI_m1 ?_
  refine Rd.putI H57 i57_22 ob5 rfl ty5_4.1 ty5_4.2 h (fun s3 h => ?_)
  refine Ev.aload_n H57 i57_25 rfl ?_
  refine Ev.iconst H57 i57_26 kI_0 ?_
  refine Ev.iconst H57 i57_27 kI_0 ?_
  refine Rd.cS3uN H57 i57_28 cal58 (Nat.le_of_ble_eq_true rfl) (Nat.le_of_ble_eq_true rfl) (Nat.lt_of_lt_of_le (by decide) hd) (fun q hq => c58 hq) h (fun s4 h => ?_)
  refine Ev.iload_n H57 i57_31 rfl ?_
  refine Rd.if_lt H57 i57_32 (t := 40) (by decide) h (fun hc h => ?_) (fun hc h => ?_)
  · exact Ev.sub (l := [(0, .ref 123)]) rfl rfl (mm_sub_c rfl mm_sub_n) (t57_40 hd h)
  · refine Ev.iload_n H57 i57_35 rfl ?_
    refine Ev.iconst H57 i57_36 kI_5 ?_
    refine Rd.ic_lt H57 i57_37 (t := 47) (by decide) h (fun hc h => ?_) (fun hc h => ?_)
    · refine Ev.aload_n H57 i57_47 rfl ?_
      refine Rd.getR H57 i57_48 ob5 rfl ?_
      refine Ev.iload_n H57 i57_51 rfl ?_
      refine Rd.iaload H57 i57_52 ar_126 h (fun h => ?_)
      exact Rd.ireturn H57 i57_53 rfl h
    · exact Ev.sub (l := [(0, .ref 123)]) rfl rfl (mm_sub_c rfl mm_sub_n) (t57_40 hd h)
/-- SerialGate$Planner.pairOf(I)I -/
def q57 (v1 : Int32) (s : mS) : Option mQ := q57_2 (q57_20) 10000 v1 (0 : Int32) s
theorem c57 {L : Nat} {xs : Nat → Int32} {v1 : Int32} {s : mS} {r : mQ} (h : q57 v1 s = some r) : ∀ d, 10 ≤ d → Cl L xs d 57 [.ref 123, .int v1] (hp s) (hr r) := by
  intro d hd
  show Ev L xs d 57 0 [(0, .ref 123), (1, .int v1)] [] (hp s) (hr r)
  unfold q57 at h
  refine Ev.iconst H57 i57_0 kI_0 ?_
  refine Ev.istore_n H57 i57_1 (Nat.le_of_ble_eq_true rfl) (lv2 := [(2, .int (0 : Int32)), (0, .ref 123), (1, .int v1)]) rfl ?_
  exact Ev.sub (l := [(0, .ref 123), (1, .int v1), (2, .int (0 : Int32))]) rfl rfl (mm_sub_c rfl (mm_sub_c rfl (mm_sub_c rfl mm_sub_n))) (t57_2 (k20 := (q57_20)) (fun _ _ _ h => t57_20 hd h) hd 10000 _ _ _ _ h)
theorem i60_0 : mm_cd 60 0 = some (.iload_n 0, 1, 0, 0) := rfl
theorem i60_1 : mm_cd 60 1 = some (.iload_n 1, 1, 0, 0) := rfl
theorem i60_2 : mm_cd 60 2 = some (.if_icmp .ne 13, 3, 0, 0) := rfl
theorem i60_5 : mm_cd 60 5 = some (.iload_n 0, 1, 0, 0) := rfl
theorem i60_6 : mm_cd 60 6 = some (.ifCond .ne 7, 3, 0, 0) := rfl
theorem i60_9 : mm_cd 60 9 = some (.iload_n 2, 1, 0, 0) := rfl
theorem i60_10 : mm_cd 60 10 = some (.goto 4, 3, 0, 0) := rfl
theorem i60_13 : mm_cd 60 13 = some (.iconst 0, 1, 0, 0) := rfl
theorem i60_14 : mm_cd 60 14 = some (.ireturn, 1, 0, 0) := rfl
theorem i60_15 : mm_cd 60 15 = some (.iload_n 0, 1, 0, 0) := rfl
theorem i60_16 : mm_cd 60 16 = some (.ifCond .ne 7, 3, 0, 0) := rfl
theorem i60_19 : mm_cd 60 19 = some (.iconst 3, 1, 0, 0) := rfl
theorem i60_20 : mm_cd 60 20 = some (.goto 5, 3, 0, 0) := rfl
theorem i60_23 : mm_cd 60 23 = some (.iload_n 3, 1, 0, 0) := rfl
theorem i60_24 : mm_cd 60 24 = some (.ineg, 1, 0, 0) := rfl
theorem i60_25 : mm_cd 60 25 = some (.ireturn, 1, 0, 0) := rfl
/-- SerialGate$Planner.hasBy(IIII)I -/
def q60 (v0 : Int32) (v1 : Int32) (v2 : Int32) (v3 : Int32) (s : mS) : Option mQ := if ¬ v0 = v1 then (if ¬ v0 = 0 then (rv (-v3) s) else (rv (3 : Int32) s)) else (if ¬ v0 = 0 then (rv (0 : Int32) s) else (rv v2 s))
theorem c60 {L : Nat} {xs : Nat → Int32} {v0 : Int32} {v1 : Int32} {v2 : Int32} {v3 : Int32} {s : mS} {r : mQ} (h : q60 v0 v1 v2 v3 s = some r) : ∀ d, 0 ≤ d → Cl L xs d 60 [.int v0, .int v1, .int v2, .int v3] (hp s) (hr r) := by
  intro d hd
  show Ev L xs d 60 0 [(0, .int v0), (1, .int v1), (2, .int v2), (3, .int v3)] [] (hp s) (hr r)
  unfold q60 at h
  refine Ev.iload_n H60 i60_0 rfl ?_
  refine Ev.iload_n H60 i60_1 rfl ?_
  refine Rd.ic_ne H60 i60_2 (t := 15) (by decide) h (fun hc h => ?_) (fun hc h => ?_)
  · refine Ev.iload_n H60 i60_15 rfl ?_
    refine Rd.if_ne H60 i60_16 (t := 23) (by decide) h (fun hc h => ?_) (fun hc h => ?_)
    · refine Ev.iload_n H60 i60_23 rfl ?_
      refine Ev.ineg H60 i60_24 ?_
      exact Rd.ireturn H60 i60_25 rfl h
    · refine Ev.iconst H60 i60_19 kI_3 ?_
      refine Ev.goto H60 i60_20 (t := 25) (by decide) ?_
      exact Rd.ireturn H60 i60_25 rfl h
  · refine Ev.iload_n H60 i60_5 rfl ?_
    refine Rd.if_ne H60 i60_6 (t := 13) (by decide) h (fun hc h => ?_) (fun hc h => ?_)
    · refine Ev.iconst H60 i60_13 kI_0 ?_
      exact Rd.ireturn H60 i60_14 rfl h
    · refine Ev.iload_n H60 i60_9 rfl ?_
      refine Ev.goto H60 i60_10 (t := 14) (by decide) ?_
      exact Rd.ireturn H60 i60_14 rfl h
theorem i59_0 : mm_cd 59 0 = some (.aload_n 0, 1, 0, 0) := rfl
theorem i59_1 : mm_cd 59 1 = some (.getfield 25, 3, ((5 : Nat) : Int), 0) := rfl
theorem i59_4 : mm_cd 59 4 = some (.iload_n 1, 1, 0, 0) := rfl
theorem i59_5 : mm_cd 59 5 = some (.iload_n 2, 1, 0, 0) := rfl
theorem i59_6 : mm_cd 59 6 = some (.invokevirtual 44, 3, 0, 5) := rfl
theorem i59_9 : mm_cd 59 9 = some (.ifCond .eq 8, 3, 0, 0) := rfl
theorem i59_12 : mm_cd 59 12 = some (.bipush (-2), 2, 0, 0) := rfl
theorem i59_14 : mm_cd 59 14 = some (.goto 4, 3, 0, 0) := rfl
theorem i59_17 : mm_cd 59 17 = some (.iconst 2, 1, 0, 0) := rfl
theorem i59_18 : mm_cd 59 18 = some (.istore_n 3, 1, 0, 0) := rfl
theorem i59_19 : mm_cd 59 19 = some (.iconst 0, 1, 0, 0) := rfl
theorem i59_20 : mm_cd 59 20 = some (.istore 4, 2, 0, 0) := rfl
theorem i59_22 : mm_cd 59 22 = some (.iconst 0, 1, 0, 0) := rfl
theorem i59_23 : mm_cd 59 23 = some (.istore 5, 2, 0, 0) := rfl
theorem i59_25 : mm_cd 59 25 = some (.iload 5, 2, 0, 0) := rfl
theorem i59_27 : mm_cd 59 27 = some (.iconst 2, 1, 0, 0) := rfl
theorem i59_28 : mm_cd 59 28 = some (.if_icmp .ge 124, 3, 0, 0) := rfl
theorem i59_31 : mm_cd 59 31 = some (.iconst 0, 1, 0, 0) := rfl
theorem i59_32 : mm_cd 59 32 = some (.istore 6, 2, 0, 0) := rfl
theorem i59_34 : mm_cd 59 34 = some (.iload 6, 2, 0, 0) := rfl
theorem i59_36 : mm_cd 59 36 = some (.iconst 2, 1, 0, 0) := rfl
theorem i59_37 : mm_cd 59 37 = some (.if_icmp .ge 109, 3, 0, 0) := rfl
theorem i59_40 : mm_cd 59 40 = some (.iload 5, 2, 0, 0) := rfl
theorem i59_42 : mm_cd 59 42 = some (.iload 6, 2, 0, 0) := rfl
theorem i59_44 : mm_cd 59 44 = some (.iload_n 3, 1, 0, 0) := rfl
theorem i59_45 : mm_cd 59 45 = some (.aload_n 0, 1, 0, 0) := rfl
theorem i59_46 : mm_cd 59 46 = some (.getfield 25, 3, ((5 : Nat) : Int), 0) := rfl
theorem i59_49 : mm_cd 59 49 = some (.getfield 75, 3, ((0 : Nat) : Int), 4) := rfl
theorem i59_52 : mm_cd 59 52 = some (.iload_n 1, 1, 0, 0) := rfl
theorem i59_53 : mm_cd 59 53 = some (.iaload, 1, 0, 0) := rfl
theorem i59_54 : mm_cd 59 54 = some (.invokestatic 78, 3, 0, 60) := rfl
theorem i59_57 : mm_cd 59 57 = some (.istore 7, 2, 0, 0) := rfl
theorem i59_59 : mm_cd 59 59 = some (.iload 6, 2, 0, 0) := rfl
theorem i59_61 : mm_cd 59 61 = some (.iload 5, 2, 0, 0) := rfl
theorem i59_63 : mm_cd 59 63 = some (.iload_n 3, 1, 0, 0) := rfl
theorem i59_64 : mm_cd 59 64 = some (.aload_n 0, 1, 0, 0) := rfl
theorem i59_65 : mm_cd 59 65 = some (.getfield 25, 3, ((5 : Nat) : Int), 0) := rfl
theorem i59_68 : mm_cd 59 68 = some (.getfield 75, 3, ((0 : Nat) : Int), 4) := rfl
theorem i59_71 : mm_cd 59 71 = some (.iload_n 2, 1, 0, 0) := rfl
theorem i59_72 : mm_cd 59 72 = some (.iaload, 1, 0, 0) := rfl
theorem i59_73 : mm_cd 59 73 = some (.invokestatic 78, 3, 0, 60) := rfl
theorem i59_76 : mm_cd 59 76 = some (.istore 8, 2, 0, 0) := rfl
theorem i59_78 : mm_cd 59 78 = some (.iload 7, 2, 0, 0) := rfl
theorem i59_80 : mm_cd 59 80 = some (.iconst 1, 1, 0, 0) := rfl
theorem i59_81 : mm_cd 59 81 = some (.iload 5, 2, 0, 0) := rfl
theorem i59_83 : mm_cd 59 83 = some (.isub, 1, 0, 0) := rfl
theorem i59_84 : mm_cd 59 84 = some (.iload 6, 2, 0, 0) := rfl
theorem i59_86 : mm_cd 59 86 = some (.iload_n 3, 1, 0, 0) := rfl
theorem i59_87 : mm_cd 59 87 = some (.aload_n 0, 1, 0, 0) := rfl
theorem i59_88 : mm_cd 59 88 = some (.getfield 25, 3, ((5 : Nat) : Int), 0) := rfl
theorem i59_91 : mm_cd 59 91 = some (.getfield 75, 3, ((0 : Nat) : Int), 4) := rfl
theorem i59_94 : mm_cd 59 94 = some (.iload_n 1, 1, 0, 0) := rfl
theorem i59_95 : mm_cd 59 95 = some (.iaload, 1, 0, 0) := rfl
theorem i59_96 : mm_cd 59 96 = some (.invokestatic 78, 3, 0, 60) := rfl
theorem i59_99 : mm_cd 59 99 = some (.if_icmp .lt 41, 3, 0, 0) := rfl
theorem i59_102 : mm_cd 59 102 = some (.iload 8, 2, 0, 0) := rfl
theorem i59_104 : mm_cd 59 104 = some (.iconst 1, 1, 0, 0) := rfl
theorem i59_105 : mm_cd 59 105 = some (.iload 6, 2, 0, 0) := rfl
theorem i59_107 : mm_cd 59 107 = some (.isub, 1, 0, 0) := rfl
theorem i59_108 : mm_cd 59 108 = some (.iload 5, 2, 0, 0) := rfl
theorem i59_110 : mm_cd 59 110 = some (.iload_n 3, 1, 0, 0) := rfl
theorem i59_111 : mm_cd 59 111 = some (.aload_n 0, 1, 0, 0) := rfl
theorem i59_112 : mm_cd 59 112 = some (.getfield 25, 3, ((5 : Nat) : Int), 0) := rfl
theorem i59_115 : mm_cd 59 115 = some (.getfield 75, 3, ((0 : Nat) : Int), 4) := rfl
theorem i59_118 : mm_cd 59 118 = some (.iload_n 2, 1, 0, 0) := rfl
theorem i59_119 : mm_cd 59 119 = some (.iaload, 1, 0, 0) := rfl
theorem i59_120 : mm_cd 59 120 = some (.invokestatic 78, 3, 0, 60) := rfl
theorem i59_123 : mm_cd 59 123 = some (.if_icmp .lt 17, 3, 0, 0) := rfl
theorem i59_126 : mm_cd 59 126 = some (.iload 4, 2, 0, 0) := rfl
theorem i59_128 : mm_cd 59 128 = some (.iconst 1, 1, 0, 0) := rfl
theorem i59_129 : mm_cd 59 129 = some (.iconst 2, 1, 0, 0) := rfl
theorem i59_130 : mm_cd 59 130 = some (.iload 5, 2, 0, 0) := rfl
theorem i59_132 : mm_cd 59 132 = some (.imul, 1, 0, 0) := rfl
theorem i59_133 : mm_cd 59 133 = some (.iload 6, 2, 0, 0) := rfl
theorem i59_135 : mm_cd 59 135 = some (.iadd, 1, 0, 0) := rfl
theorem i59_136 : mm_cd 59 136 = some (.ishl, 1, 0, 0) := rfl
theorem i59_137 : mm_cd 59 137 = some (.ior, 1, 0, 0) := rfl
theorem i59_138 : mm_cd 59 138 = some (.istore 4, 2, 0, 0) := rfl
theorem i59_140 : mm_cd 59 140 = some (.iinc 6 1, 3, 0, 0) := rfl
theorem i59_143 : mm_cd 59 143 = some (.goto (-109), 3, 0, 0) := rfl
theorem i59_146 : mm_cd 59 146 = some (.iinc 5 1, 3, 0, 0) := rfl
theorem i59_149 : mm_cd 59 149 = some (.goto (-124), 3, 0, 0) := rfl
theorem i59_152 : mm_cd 59 152 = some (.iload 4, 2, 0, 0) := rfl
theorem i59_154 : mm_cd 59 154 = some (.ireturn, 1, 0, 0) := rfl
def q59_140 (k34 : Int32 → Int32 → Int32 → Int32 → Int32 → Int32 → mS → Option mQ) (v1 : Int32) (v2 : Int32) (v3 : Int32) (v4 : Int32) (v5 : Int32) (v6 : Int32) (s : mS) : Option mQ := bx (v6 + (1 : Int32)) fun x1 => k34 v1 v2 v3 v4 v5 x1 s
theorem t59_140 {L : Nat} {xs : Nat → Int32} {d : Nat} {k34 : Int32 → Int32 → Int32 → Int32 → Int32 → Int32 → mS → Option mQ} (hk34 : ∀ (v1 : Int32) (v2 : Int32) (v3 : Int32) (v4 : Int32) (v5 : Int32) (v6 : Int32) (s : mS) (r : mQ), k34 v1 v2 v3 v4 v5 v6 s = some r → Ev L xs d 59 34 [(0, .ref 123), (1, .int v1), (2, .int v2), (3, .int v3), (4, .int v4), (5, .int v5), (6, .int v6)] [] (hp s) (hr r)) (hd : 2 ≤ d) {v1 : Int32} {v2 : Int32} {v3 : Int32} {v4 : Int32} {v5 : Int32} {v6 : Int32} {s : mS} {r : mQ} (h : q59_140 k34 v1 v2 v3 v4 v5 v6 s = some r) : Ev L xs d 59 140 [(0, .ref 123), (1, .int v1), (2, .int v2), (3, .int v3), (4, .int v4), (5, .int v5), (6, .int v6)] [] (hp s) (hr r) := by
  unfold q59_140 at h
  refine Rd.iinc H59 i59_140 (Nat.le_of_ble_eq_true rfl) rfl kI_1 (lv2 := fun x1 => [(6, .int x1), (0, .ref 123), (1, .int v1), (2, .int v2), (3, .int v3), (4, .int v4), (5, .int v5)]) (fun _ => rfl) h (fun x1 h => ?_)
  refine Ev.goto H59 i59_143 (t := 34) (by decide) ?_
  exact Ev.sub (l := [(0, .ref 123), (1, .int v1), (2, .int v2), (3, .int v3), (4, .int v4), (5, .int v5), (6, .int x1)]) rfl rfl (mm_sub_c rfl (mm_sub_c rfl (mm_sub_c rfl (mm_sub_c rfl (mm_sub_c rfl (mm_sub_c rfl (mm_sub_c rfl mm_sub_n))))))) (hk34 _ _ _ _ _ _ _ _ h)
def q59_34 (k146 : Int32 → Int32 → Int32 → Int32 → Int32 → mS → Option mQ) : Nat → Int32 → Int32 → Int32 → Int32 → Int32 → Int32 → mS → Option mQ
  | 0, _, _, _, _, _, _, _ => none
  | n + 1, v1, v2, v3, v4, v5, v6, s => if (2 : Int32) ≤ v6 then (k146 v1 v2 v3 v4 v5 s) else (gA 5 v1 <| bN (q60 v5 v6 v3 (s.1 (27 + 3) v1.toNatClampNeg) s) fun x3 s2 => gA 5 v2 <| bN (q60 v6 v5 v3 (s2.1 (27 + 3) v2.toNatClampNeg) s2) fun x5 s4 => gA 5 v1 <| bN (q60 ((1 : Int32) - v5) v6 v3 (s4.1 (27 + 3) v1.toNatClampNeg) s4) fun x7 s6 => if x3 < x7 then (q59_140 (q59_34 k146 n) v1 v2 v3 v4 v5 v6 s6) else (gA 5 v2 <| bN (q60 ((1 : Int32) - v6) v5 v3 (s6.1 (27 + 3) v2.toNatClampNeg) s6) fun x9 s8 => if x5 < x9 then (q59_140 (q59_34 k146 n) v1 v2 v3 v4 v5 v6 s8) else (bx (v4 ||| (shlI (1 : Int32) (((2 : Int32) * v5) + v6))) fun x10 => q59_140 (q59_34 k146 n) v1 v2 v3 x10 v5 v6 s8)))
theorem t59_34 {L : Nat} {xs : Nat → Int32} {d : Nat} {k146 : Int32 → Int32 → Int32 → Int32 → Int32 → mS → Option mQ} (hk146 : ∀ (v1 : Int32) (v2 : Int32) (v3 : Int32) (v4 : Int32) (v5 : Int32) (s : mS) (r : mQ), k146 v1 v2 v3 v4 v5 s = some r → Ev L xs d 59 146 [(0, .ref 123), (1, .int v1), (2, .int v2), (3, .int v3), (4, .int v4), (5, .int v5)] [] (hp s) (hr r)) (hd : 2 ≤ d) : ∀ (n : Nat) (v1 : Int32) (v2 : Int32) (v3 : Int32) (v4 : Int32) (v5 : Int32) (v6 : Int32) (s : mS) (r : mQ), q59_34 k146 n v1 v2 v3 v4 v5 v6 s = some r → Ev L xs d 59 34 [(0, .ref 123), (1, .int v1), (2, .int v2), (3, .int v3), (4, .int v4), (5, .int v5), (6, .int v6)] [] (hp s) (hr r) := by
  intro n
  induction n with
  | zero => intro v1 v2 v3 v4 v5 v6 s r h; rw [q59_34] at h; cases h
  | succ n ih =>
    intro v1 v2 v3 v4 v5 v6 s r h
    rw [q59_34] at h
    refine Ev.iload H59 i59_34 rfl ?_
    refine Ev.iconst H59 i59_36 kI_2 ?_
    refine Rd.ic_ge H59 i59_37 (t := 146) (by decide) h (fun hc h => ?_) (fun hc h => ?_)
    · exact Ev.sub (l := [(0, .ref 123), (1, .int v1), (2, .int v2), (3, .int v3), (4, .int v4), (5, .int v5)]) rfl rfl (mm_sub_c rfl (mm_sub_c rfl (mm_sub_c rfl (mm_sub_c rfl (mm_sub_c rfl (mm_sub_c rfl mm_sub_n)))))) (hk146 _ _ _ _ _ _ _ h)
    · refine Ev.iload H59 i59_40 rfl ?_
      refine Ev.iload H59 i59_42 rfl ?_
      refine Ev.iload_n H59 i59_44 rfl ?_
      refine Ev.aload_n H59 i59_45 rfl ?_
      refine Rd.getR H59 i59_46 ob5 rfl ?_
      refine Rd.getR H59 i59_49 (ob0 mA0_27) rfl ?_
      refine Ev.iload_n H59 i59_52 rfl ?_
      refine Rd.iaload H59 i59_53 (ar0_3 mA0_27) h (fun h => ?_)
      refine Rd.cS4vN H59 i59_54 cal60 (Nat.le_of_ble_eq_true rfl) (Nat.le_of_ble_eq_true rfl) (Nat.lt_of_lt_of_le (by decide) hd) (fun q hq => c60 hq) h (fun x3 s2 h => ?_)
      refine Ev.istore H59 i59_57 (Nat.le_of_ble_eq_true rfl) (lv2 := [(7, .int x3), (0, .ref 123), (1, .int v1), (2, .int v2), (3, .int v3), (4, .int v4), (5, .int v5), (6, .int v6)]) rfl ?_
      refine Ev.iload H59 i59_59 rfl ?_
      refine Ev.iload H59 i59_61 rfl ?_
      refine Ev.iload_n H59 i59_63 rfl ?_
      refine Ev.aload_n H59 i59_64 rfl ?_
      refine Rd.getR H59 i59_65 ob5 rfl ?_
      refine Rd.getR H59 i59_68 (ob0 mA0_27) rfl ?_
      refine Ev.iload_n H59 i59_71 rfl ?_
      refine Rd.iaload H59 i59_72 (ar0_3 mA0_27) h (fun h => ?_)
      refine Rd.cS4vN H59 i59_73 cal60 (Nat.le_of_ble_eq_true rfl) (Nat.le_of_ble_eq_true rfl) (Nat.lt_of_lt_of_le (by decide) hd) (fun q hq => c60 hq) h (fun x5 s4 h => ?_)
      refine Ev.istore H59 i59_76 (Nat.le_of_ble_eq_true rfl) (lv2 := [(8, .int x5), (7, .int x3), (0, .ref 123), (1, .int v1), (2, .int v2), (3, .int v3), (4, .int v4), (5, .int v5), (6, .int v6)]) rfl ?_
      refine Ev.iload H59 i59_78 rfl ?_
      refine Ev.iconst H59 i59_80 kI_1 ?_
      refine Ev.iload H59 i59_81 rfl ?_
      refine Ev.isub H59 i59_83 ?_
      refine Ev.iload H59 i59_84 rfl ?_
      refine Ev.iload_n H59 i59_86 rfl ?_
      refine Ev.aload_n H59 i59_87 rfl ?_
      refine Rd.getR H59 i59_88 ob5 rfl ?_
      refine Rd.getR H59 i59_91 (ob0 mA0_27) rfl ?_
      refine Ev.iload_n H59 i59_94 rfl ?_
      refine Rd.iaload H59 i59_95 (ar0_3 mA0_27) h (fun h => ?_)
      refine Rd.cS4vN H59 i59_96 cal60 (Nat.le_of_ble_eq_true rfl) (Nat.le_of_ble_eq_true rfl) (Nat.lt_of_lt_of_le (by decide) hd) (fun q hq => c60 hq) h (fun x7 s6 h => ?_)
      refine Rd.ic_lt H59 i59_99 (t := 140) (by decide) h (fun hc h => ?_) (fun hc h => ?_)
      · exact Ev.sub (l := [(0, .ref 123), (1, .int v1), (2, .int v2), (3, .int v3), (4, .int v4), (5, .int v5), (6, .int v6)]) rfl rfl (mm_sub_c rfl (mm_sub_c rfl (mm_sub_c rfl (mm_sub_c rfl (mm_sub_c rfl (mm_sub_c rfl (mm_sub_c rfl mm_sub_n))))))) (t59_140 (k34 := (q59_34 k146 n)) (fun _ _ _ _ _ _ _ _ h => ih _ _ _ _ _ _ _ _ h) hd h)
      · refine Ev.iload H59 i59_102 rfl ?_
        refine Ev.iconst H59 i59_104 kI_1 ?_
        refine Ev.iload H59 i59_105 rfl ?_
        refine Ev.isub H59 i59_107 ?_
        refine Ev.iload H59 i59_108 rfl ?_
        refine Ev.iload_n H59 i59_110 rfl ?_
        refine Ev.aload_n H59 i59_111 rfl ?_
        refine Rd.getR H59 i59_112 ob5 rfl ?_
        refine Rd.getR H59 i59_115 (ob0 mA0_27) rfl ?_
        refine Ev.iload_n H59 i59_118 rfl ?_
        refine Rd.iaload H59 i59_119 (ar0_3 mA0_27) h (fun h => ?_)
        refine Rd.cS4vN H59 i59_120 cal60 (Nat.le_of_ble_eq_true rfl) (Nat.le_of_ble_eq_true rfl) (Nat.lt_of_lt_of_le (by decide) hd) (fun q hq => c60 hq) h (fun x9 s8 h => ?_)
        refine Rd.ic_lt H59 i59_123 (t := 140) (by decide) h (fun hc h => ?_) (fun hc h => ?_)
        · exact Ev.sub (l := [(0, .ref 123), (1, .int v1), (2, .int v2), (3, .int v3), (4, .int v4), (5, .int v5), (6, .int v6)]) rfl rfl (mm_sub_c rfl (mm_sub_c rfl (mm_sub_c rfl (mm_sub_c rfl (mm_sub_c rfl (mm_sub_c rfl (mm_sub_c rfl mm_sub_n))))))) (t59_140 (k34 := (q59_34 k146 n)) (fun _ _ _ _ _ _ _ _ h => ih _ _ _ _ _ _ _ _ h) hd h)
        · refine Ev.iload H59 i59_126 rfl ?_
          refine Ev.iconst H59 i59_128 kI_1 ?_
          refine Ev.iconst H59 i59_129 kI_2 ?_
          refine Ev.iload H59 i59_130 rfl ?_
          refine Ev.imul H59 i59_132 ?_
          refine Ev.iload H59 i59_133 rfl ?_
          refine Ev.iadd H59 i59_135 ?_
          refine Rd.ishl H59 i59_136 ?_
          refine Ev.ior H59 i59_137 ?_
          refine Rd.istore H59 i59_138 (Nat.le_of_ble_eq_true rfl) (lv2 := fun x10 => [(4, .int x10), (8, .int x5), (7, .int x3), (0, .ref 123), (1, .int v1), (2, .int v2), (3, .int v3), (5, .int v5), (6, .int v6)]) (fun _ => rfl) h (fun x10 h => ?_)
          exact Ev.sub (l := [(0, .ref 123), (1, .int v1), (2, .int v2), (3, .int v3), (4, .int x10), (5, .int v5), (6, .int v6)]) rfl rfl (mm_sub_c rfl (mm_sub_c rfl (mm_sub_c rfl (mm_sub_c rfl (mm_sub_c rfl (mm_sub_c rfl (mm_sub_c rfl mm_sub_n))))))) (t59_140 (k34 := (q59_34 k146 n)) (fun _ _ _ _ _ _ _ _ h => ih _ _ _ _ _ _ _ _ h) hd h)
def q59_146 (k25 : Int32 → Int32 → Int32 → Int32 → Int32 → mS → Option mQ) (v1 : Int32) (v2 : Int32) (v3 : Int32) (v4 : Int32) (v5 : Int32) (s : mS) : Option mQ := bx (v5 + (1 : Int32)) fun x11 => k25 v1 v2 v3 v4 x11 s
theorem t59_146 {L : Nat} {xs : Nat → Int32} {d : Nat} {k25 : Int32 → Int32 → Int32 → Int32 → Int32 → mS → Option mQ} (hk25 : ∀ (v1 : Int32) (v2 : Int32) (v3 : Int32) (v4 : Int32) (v5 : Int32) (s : mS) (r : mQ), k25 v1 v2 v3 v4 v5 s = some r → Ev L xs d 59 25 [(0, .ref 123), (1, .int v1), (2, .int v2), (3, .int v3), (4, .int v4), (5, .int v5)] [] (hp s) (hr r)) (hd : 2 ≤ d) {v1 : Int32} {v2 : Int32} {v3 : Int32} {v4 : Int32} {v5 : Int32} {s : mS} {r : mQ} (h : q59_146 k25 v1 v2 v3 v4 v5 s = some r) : Ev L xs d 59 146 [(0, .ref 123), (1, .int v1), (2, .int v2), (3, .int v3), (4, .int v4), (5, .int v5)] [] (hp s) (hr r) := by
  unfold q59_146 at h
  refine Rd.iinc H59 i59_146 (Nat.le_of_ble_eq_true rfl) rfl kI_1 (lv2 := fun x11 => [(5, .int x11), (0, .ref 123), (1, .int v1), (2, .int v2), (3, .int v3), (4, .int v4)]) (fun _ => rfl) h (fun x11 h => ?_)
  refine Ev.goto H59 i59_149 (t := 25) (by decide) ?_
  exact Ev.sub (l := [(0, .ref 123), (1, .int v1), (2, .int v2), (3, .int v3), (4, .int v4), (5, .int x11)]) rfl rfl (mm_sub_c rfl (mm_sub_c rfl (mm_sub_c rfl (mm_sub_c rfl (mm_sub_c rfl (mm_sub_c rfl mm_sub_n)))))) (hk25 _ _ _ _ _ _ _ h)
def q59_25 : Nat → Int32 → Int32 → Int32 → Int32 → Int32 → mS → Option mQ
  | 0, _, _, _, _, _, _ => none
  | n + 1, v1, v2, v3, v4, v5, s => if (2 : Int32) ≤ v5 then (rv v4 s) else (q59_34 (q59_146 (q59_25 n)) 10000 v1 v2 v3 v4 v5 (0 : Int32) s)
theorem t59_25 {L : Nat} {xs : Nat → Int32} {d : Nat} (hd : 2 ≤ d) : ∀ (n : Nat) (v1 : Int32) (v2 : Int32) (v3 : Int32) (v4 : Int32) (v5 : Int32) (s : mS) (r : mQ), q59_25 n v1 v2 v3 v4 v5 s = some r → Ev L xs d 59 25 [(0, .ref 123), (1, .int v1), (2, .int v2), (3, .int v3), (4, .int v4), (5, .int v5)] [] (hp s) (hr r) := by
  intro n
  induction n with
  | zero => intro v1 v2 v3 v4 v5 s r h; rw [q59_25] at h; cases h
  | succ n ih =>
    intro v1 v2 v3 v4 v5 s r h
    rw [q59_25] at h
    refine Ev.iload H59 i59_25 rfl ?_
    refine Ev.iconst H59 i59_27 kI_2 ?_
    refine Rd.ic_ge H59 i59_28 (t := 152) (by decide) h (fun hc h => ?_) (fun hc h => ?_)
    · refine Ev.iload H59 i59_152 rfl ?_
      exact Rd.ireturn H59 i59_154 rfl h
    · refine Ev.iconst H59 i59_31 kI_0 ?_
      refine Ev.istore H59 i59_32 (Nat.le_of_ble_eq_true rfl) (lv2 := [(6, .int (0 : Int32)), (0, .ref 123), (1, .int v1), (2, .int v2), (3, .int v3), (4, .int v4), (5, .int v5)]) rfl ?_
      exact Ev.sub (l := [(0, .ref 123), (1, .int v1), (2, .int v2), (3, .int v3), (4, .int v4), (5, .int v5), (6, .int (0 : Int32))]) rfl rfl (mm_sub_c rfl (mm_sub_c rfl (mm_sub_c rfl (mm_sub_c rfl (mm_sub_c rfl (mm_sub_c rfl (mm_sub_c rfl mm_sub_n))))))) (t59_34 (k146 := (q59_146 (q59_25 n))) (fun _ _ _ _ _ _ _ h => t59_146 (k25 := (q59_25 n)) (fun _ _ _ _ _ _ _ h => ih _ _ _ _ _ _ _ h) hd h) hd 10000 _ _ _ _ _ _ _ _ h)
def q59_18 (v1 : Int32) (v2 : Int32) (y0 : Int32) (s : mS) : Option mQ := q59_25 10000 v1 v2 y0 (0 : Int32) (0 : Int32) s
theorem t59_18 {L : Nat} {xs : Nat → Int32} {d : Nat} (hd : 2 ≤ d) {v1 : Int32} {v2 : Int32} {y0 : Int32} {s : mS} {r : mQ} (h : q59_18 v1 v2 y0 s = some r) : Ev L xs d 59 18 [(0, .ref 123), (1, .int v1), (2, .int v2)] [.int y0] (hp s) (hr r) := by
  unfold q59_18 at h
  refine Ev.istore_n H59 i59_18 (Nat.le_of_ble_eq_true rfl) (lv2 := [(3, .int y0), (0, .ref 123), (1, .int v1), (2, .int v2)]) rfl ?_
  refine Ev.iconst H59 i59_19 kI_0 ?_
  refine Ev.istore H59 i59_20 (Nat.le_of_ble_eq_true rfl) (lv2 := [(4, .int (0 : Int32)), (3, .int y0), (0, .ref 123), (1, .int v1), (2, .int v2)]) rfl ?_
  refine Ev.iconst H59 i59_22 kI_0 ?_
  refine Ev.istore H59 i59_23 (Nat.le_of_ble_eq_true rfl) (lv2 := [(5, .int (0 : Int32)), (4, .int (0 : Int32)), (3, .int y0), (0, .ref 123), (1, .int v1), (2, .int v2)]) rfl ?_
  exact Ev.sub (l := [(0, .ref 123), (1, .int v1), (2, .int v2), (3, .int y0), (4, .int (0 : Int32)), (5, .int (0 : Int32))]) rfl rfl (mm_sub_c rfl (mm_sub_c rfl (mm_sub_c rfl (mm_sub_c rfl (mm_sub_c rfl (mm_sub_c rfl mm_sub_n)))))) (t59_25 hd 10000 _ _ _ _ _ _ _ h)
/-- SerialGate$Planner.restingChoices(II)I -/
def q59 (v1 : Int32) (v2 : Int32) (s : mS) : Option mQ := bN (q5 27 v1 v2 s) fun x13 s12 => if x13 = 0 then (q59_18 v1 v2 (2 : Int32) s12) else (q59_18 v1 v2 (-2 : Int32) s12)
theorem c59 {L : Nat} {xs : Nat → Int32} {v1 : Int32} {v2 : Int32} {s : mS} {r : mQ} (h : q59 v1 v2 s = some r) : ∀ d, 2 ≤ d → Cl L xs d 59 [.ref 123, .int v1, .int v2] (hp s) (hr r) := by
  intro d hd
  show Ev L xs d 59 0 [(0, .ref 123), (1, .int v1), (2, .int v2)] [] (hp s) (hr r)
  unfold q59 at h
  refine Ev.aload_n H59 i59_0 rfl ?_
  refine Rd.getR H59 i59_1 ob5 rfl ?_
  refine Ev.iload_n H59 i59_4 rfl ?_
  refine Ev.iload_n H59 i59_5 rfl ?_
  refine Rd.cV2vN H59 i59_6 cal5 (ob0 mA0_27) (Nat.le_of_ble_eq_true rfl) (Nat.le_of_ble_eq_true rfl) (Nat.lt_of_lt_of_le (by decide) hd) (fun q hq => c5 mA0_27 hq) h (fun x13 s12 h => ?_)
  refine Rd.if_eq H59 i59_9 (t := 17) (by decide) h (fun hc h => ?_) (fun hc h => ?_)
  · refine Ev.iconst H59 i59_17 kI_2 ?_
    exact Ev.sub (l := [(0, .ref 123), (1, .int v1), (2, .int v2)]) rfl rfl (mm_sub_c rfl (mm_sub_c rfl (mm_sub_c rfl mm_sub_n))) (t59_18 hd h)
  · refine Ev.bipush H59 i59_12 kB_m2 ?_
    refine Ev.goto H59 i59_14 (t := 18) (by decide) ?_
    exact Ev.sub (l := [(0, .ref 123), (1, .int v1), (2, .int v2)]) rfl rfl (mm_sub_c rfl (mm_sub_c rfl (mm_sub_c rfl mm_sub_n))) (t59_18 hd h)
theorem i61_0 : mm_cd 61 0 = some (.iconst 1, 1, 0, 0) := rfl
theorem i61_1 : mm_cd 61 1 = some (.istore_n 3, 1, 0, 0) := rfl
theorem i61_2 : mm_cd 61 2 = some (.iconst 0, 1, 0, 0) := rfl
theorem i61_3 : mm_cd 61 3 = some (.istore 4, 2, 0, 0) := rfl
theorem i61_5 : mm_cd 61 5 = some (.aload_n 0, 1, 0, 0) := rfl
theorem i61_6 : mm_cd 61 6 = some (.getfield 25, 3, ((5 : Nat) : Int), 0) := rfl
theorem i61_9 : mm_cd 61 9 = some (.getfield 29, 3, ((0 : Nat) : Int), 0) := rfl
theorem i61_12 : mm_cd 61 12 = some (.ifCond .ne 15, 3, 0, 0) := rfl
theorem i61_15 : mm_cd 61 15 = some (.iload_n 2, 1, 0, 0) := rfl
theorem i61_16 : mm_cd 61 16 = some (.ifCond .ne 9, 3, 0, 0) := rfl
theorem i61_19 : mm_cd 61 19 = some (.sipush 10000, 3, 0, 0) := rfl
theorem i61_22 : mm_cd 61 22 = some (.goto 4, 3, 0, 0) := rfl
theorem i61_25 : mm_cd 61 25 = some (.iconst 0, 1, 0, 0) := rfl
theorem i61_26 : mm_cd 61 26 = some (.ireturn, 1, 0, 0) := rfl
theorem i61_27 : mm_cd 61 27 = some (.iconst 0, 1, 0, 0) := rfl
theorem i61_28 : mm_cd 61 28 = some (.istore 5, 2, 0, 0) := rfl
theorem i61_30 : mm_cd 61 30 = some (.iload 5, 2, 0, 0) := rfl
theorem i61_32 : mm_cd 61 32 = some (.iload_n 1, 1, 0, 0) := rfl
theorem i61_33 : mm_cd 61 33 = some (.if_icmp .ge 19, 3, 0, 0) := rfl
theorem i61_36 : mm_cd 61 36 = some (.iload_n 3, 1, 0, 0) := rfl
theorem i61_37 : mm_cd 61 37 = some (.aload_n 0, 1, 0, 0) := rfl
theorem i61_38 : mm_cd 61 38 = some (.getfield 25, 3, ((5 : Nat) : Int), 0) := rfl
theorem i61_41 : mm_cd 61 41 = some (.getfield 29, 3, ((0 : Nat) : Int), 0) := rfl
theorem i61_44 : mm_cd 61 44 = some (.imul, 1, 0, 0) := rfl
theorem i61_45 : mm_cd 61 45 = some (.istore_n 3, 1, 0, 0) := rfl
theorem i61_46 : mm_cd 61 46 = some (.iinc 5 1, 3, 0, 0) := rfl
theorem i61_49 : mm_cd 61 49 = some (.goto (-19), 3, 0, 0) := rfl
theorem i61_52 : mm_cd 61 52 = some (.iload_n 2, 1, 0, 0) := rfl
theorem i61_53 : mm_cd 61 53 = some (.istore 5, 2, 0, 0) := rfl
theorem i61_55 : mm_cd 61 55 = some (.iload 5, 2, 0, 0) := rfl
theorem i61_57 : mm_cd 61 57 = some (.iload_n 1, 1, 0, 0) := rfl
theorem i61_58 : mm_cd 61 58 = some (.if_icmp .gt 79, 3, 0, 0) := rfl
theorem i61_61 : mm_cd 61 61 = some (.iconst 1, 1, 0, 0) := rfl
theorem i61_62 : mm_cd 61 62 = some (.istore 6, 2, 0, 0) := rfl
theorem i61_64 : mm_cd 61 64 = some (.iconst 0, 1, 0, 0) := rfl
theorem i61_65 : mm_cd 61 65 = some (.istore 7, 2, 0, 0) := rfl
theorem i61_67 : mm_cd 61 67 = some (.iload 7, 2, 0, 0) := rfl
theorem i61_69 : mm_cd 61 69 = some (.iload 5, 2, 0, 0) := rfl
theorem i61_71 : mm_cd 61 71 = some (.if_icmp .ge 23, 3, 0, 0) := rfl
theorem i61_74 : mm_cd 61 74 = some (.iload 6, 2, 0, 0) := rfl
theorem i61_76 : mm_cd 61 76 = some (.iload_n 1, 1, 0, 0) := rfl
theorem i61_77 : mm_cd 61 77 = some (.iload 7, 2, 0, 0) := rfl
theorem i61_79 : mm_cd 61 79 = some (.isub, 1, 0, 0) := rfl
theorem i61_80 : mm_cd 61 80 = some (.imul, 1, 0, 0) := rfl
theorem i61_81 : mm_cd 61 81 = some (.iload 7, 2, 0, 0) := rfl
theorem i61_83 : mm_cd 61 83 = some (.iconst 1, 1, 0, 0) := rfl
theorem i61_84 : mm_cd 61 84 = some (.iadd, 1, 0, 0) := rfl
theorem i61_85 : mm_cd 61 85 = some (.idiv, 1, 0, 0) := rfl
theorem i61_86 : mm_cd 61 86 = some (.istore 6, 2, 0, 0) := rfl
theorem i61_88 : mm_cd 61 88 = some (.iinc 7 1, 3, 0, 0) := rfl
theorem i61_91 : mm_cd 61 91 = some (.goto (-24), 3, 0, 0) := rfl
theorem i61_94 : mm_cd 61 94 = some (.iload 5, 2, 0, 0) := rfl
theorem i61_96 : mm_cd 61 96 = some (.istore 7, 2, 0, 0) := rfl
theorem i61_98 : mm_cd 61 98 = some (.iload 7, 2, 0, 0) := rfl
theorem i61_100 : mm_cd 61 100 = some (.iload_n 1, 1, 0, 0) := rfl
theorem i61_101 : mm_cd 61 101 = some (.if_icmp .ge 23, 3, 0, 0) := rfl
theorem i61_104 : mm_cd 61 104 = some (.iload 6, 2, 0, 0) := rfl
theorem i61_106 : mm_cd 61 106 = some (.aload_n 0, 1, 0, 0) := rfl
theorem i61_107 : mm_cd 61 107 = some (.getfield 25, 3, ((5 : Nat) : Int), 0) := rfl
theorem i61_110 : mm_cd 61 110 = some (.getfield 29, 3, ((0 : Nat) : Int), 0) := rfl
theorem i61_113 : mm_cd 61 113 = some (.iconst 1, 1, 0, 0) := rfl
theorem i61_114 : mm_cd 61 114 = some (.isub, 1, 0, 0) := rfl
theorem i61_115 : mm_cd 61 115 = some (.imul, 1, 0, 0) := rfl
theorem i61_116 : mm_cd 61 116 = some (.istore 6, 2, 0, 0) := rfl
theorem i61_118 : mm_cd 61 118 = some (.iinc 7 1, 3, 0, 0) := rfl
theorem i61_121 : mm_cd 61 121 = some (.goto (-23), 3, 0, 0) := rfl
theorem i61_124 : mm_cd 61 124 = some (.iload 4, 2, 0, 0) := rfl
theorem i61_126 : mm_cd 61 126 = some (.iload 6, 2, 0, 0) := rfl
theorem i61_128 : mm_cd 61 128 = some (.iadd, 1, 0, 0) := rfl
theorem i61_129 : mm_cd 61 129 = some (.istore 4, 2, 0, 0) := rfl
theorem i61_131 : mm_cd 61 131 = some (.iinc 5 1, 3, 0, 0) := rfl
theorem i61_134 : mm_cd 61 134 = some (.goto (-79), 3, 0, 0) := rfl
theorem i61_137 : mm_cd 61 137 = some (.iload_n 3, 1, 0, 0) := rfl
theorem i61_138 : mm_cd 61 138 = some (.ifCond .gt 7, 3, 0, 0) := rfl
theorem i61_141 : mm_cd 61 141 = some (.iconst 0, 1, 0, 0) := rfl
theorem i61_142 : mm_cd 61 142 = some (.goto 11, 3, 0, 0) := rfl
theorem i61_145 : mm_cd 61 145 = some (.iload 4, 2, 0, 0) := rfl
theorem i61_147 : mm_cd 61 147 = some (.sipush 10000, 3, 0, 0) := rfl
theorem i61_150 : mm_cd 61 150 = some (.imul, 1, 0, 0) := rfl
theorem i61_151 : mm_cd 61 151 = some (.iload_n 3, 1, 0, 0) := rfl
theorem i61_152 : mm_cd 61 152 = some (.idiv, 1, 0, 0) := rfl
theorem i61_153 : mm_cd 61 153 = some (.ireturn, 1, 0, 0) := rfl
def q61_30 (k52 : Int32 → Int32 → Int32 → Int32 → mS → Option mQ) : Nat → Int32 → Int32 → Int32 → Int32 → Int32 → mS → Option mQ
  | 0, _, _, _, _, _, _ => none
  | n + 1, v1, v2, v3, v4, v5, s => if v1 ≤ v5 then (k52 v1 v2 v3 v4 s) else (bx (v3 * (s.1 27 0)) fun x1 => bx (v5 + (1 : Int32)) fun x2 => q61_30 k52 n v1 v2 x1 v4 x2 s)
theorem t61_30 {L : Nat} {xs : Nat → Int32} {d : Nat} {k52 : Int32 → Int32 → Int32 → Int32 → mS → Option mQ} (hk52 : ∀ (v1 : Int32) (v2 : Int32) (v3 : Int32) (v4 : Int32) (s : mS) (r : mQ), k52 v1 v2 v3 v4 s = some r → Ev L xs d 61 52 [(0, .ref 123), (1, .int v1), (2, .int v2), (3, .int v3), (4, .int v4)] [] (hp s) (hr r)) (hd : 0 ≤ d) : ∀ (n : Nat) (v1 : Int32) (v2 : Int32) (v3 : Int32) (v4 : Int32) (v5 : Int32) (s : mS) (r : mQ), q61_30 k52 n v1 v2 v3 v4 v5 s = some r → Ev L xs d 61 30 [(0, .ref 123), (1, .int v1), (2, .int v2), (3, .int v3), (4, .int v4), (5, .int v5)] [] (hp s) (hr r) := by
  intro n
  induction n with
  | zero => intro v1 v2 v3 v4 v5 s r h; rw [q61_30] at h; cases h
  | succ n ih =>
    intro v1 v2 v3 v4 v5 s r h
    rw [q61_30] at h
    refine Ev.iload H61 i61_30 rfl ?_
    refine Ev.iload_n H61 i61_32 rfl ?_
    refine Rd.ic_ge H61 i61_33 (t := 52) (by decide) h (fun hc h => ?_) (fun hc h => ?_)
    · exact Ev.sub (l := [(0, .ref 123), (1, .int v1), (2, .int v2), (3, .int v3), (4, .int v4)]) rfl rfl (mm_sub_c rfl (mm_sub_c rfl (mm_sub_c rfl (mm_sub_c rfl (mm_sub_c rfl mm_sub_n))))) (hk52 _ _ _ _ _ _ h)
    · refine Ev.iload_n H61 i61_36 rfl ?_
      refine Ev.aload_n H61 i61_37 rfl ?_
      refine Rd.getR H61 i61_38 ob5 rfl ?_
      refine Rd.getI H61 i61_41 (ob0 mA0_27) rfl ?_
      refine Ev.imul H61 i61_44 ?_
      refine Rd.istore_n H61 i61_45 (Nat.le_of_ble_eq_true rfl) (lv2 := fun x1 => [(3, .int x1), (0, .ref 123), (1, .int v1), (2, .int v2), (4, .int v4), (5, .int v5)]) (fun _ => rfl) h (fun x1 h => ?_)
      refine Rd.iinc H61 i61_46 (Nat.le_of_ble_eq_true rfl) rfl kI_1 (lv2 := fun x2 => [(5, .int x2), (3, .int x1), (0, .ref 123), (1, .int v1), (2, .int v2), (4, .int v4)]) (fun _ => rfl) h (fun x2 h => ?_)
      refine Ev.goto H61 i61_49 (t := 30) (by decide) ?_
      exact Ev.sub (l := [(0, .ref 123), (1, .int v1), (2, .int v2), (3, .int x1), (4, .int v4), (5, .int x2)]) rfl rfl (mm_sub_c rfl (mm_sub_c rfl (mm_sub_c rfl (mm_sub_c rfl (mm_sub_c rfl (mm_sub_c rfl mm_sub_n)))))) (ih _ _ _ _ _ _ _ h)
def q61_67 (k94 : Int32 → Int32 → Int32 → Int32 → Int32 → mS → Option mQ) : Nat → Int32 → Int32 → Int32 → Int32 → Int32 → Int32 → mS → Option mQ
  | 0, _, _, _, _, _, _, _ => none
  | n + 1, v1, v3, v4, v5, v6, v7, s => if v5 ≤ v7 then (k94 v1 v3 v4 v5 v6 s) else (gZ (v7 + (1 : Int32)) <| bx ((v6 * (v1 - v7)) / (v7 + (1 : Int32))) fun x3 => bx (v7 + (1 : Int32)) fun x4 => q61_67 k94 n v1 v3 v4 v5 x3 x4 s)
theorem t61_67 {L : Nat} {xs : Nat → Int32} {d : Nat} {k94 : Int32 → Int32 → Int32 → Int32 → Int32 → mS → Option mQ} (hk94 : ∀ (v1 : Int32) (v3 : Int32) (v4 : Int32) (v5 : Int32) (v6 : Int32) (s : mS) (r : mQ), k94 v1 v3 v4 v5 v6 s = some r → Ev L xs d 61 94 [(0, .ref 123), (1, .int v1), (3, .int v3), (4, .int v4), (5, .int v5), (6, .int v6)] [] (hp s) (hr r)) (hd : 0 ≤ d) : ∀ (n : Nat) (v1 : Int32) (v3 : Int32) (v4 : Int32) (v5 : Int32) (v6 : Int32) (v7 : Int32) (s : mS) (r : mQ), q61_67 k94 n v1 v3 v4 v5 v6 v7 s = some r → Ev L xs d 61 67 [(0, .ref 123), (1, .int v1), (3, .int v3), (4, .int v4), (5, .int v5), (6, .int v6), (7, .int v7)] [] (hp s) (hr r) := by
  intro n
  induction n with
  | zero => intro v1 v3 v4 v5 v6 v7 s r h; rw [q61_67] at h; cases h
  | succ n ih =>
    intro v1 v3 v4 v5 v6 v7 s r h
    rw [q61_67] at h
    refine Ev.iload H61 i61_67 rfl ?_
    refine Ev.iload H61 i61_69 rfl ?_
    refine Rd.ic_ge H61 i61_71 (t := 94) (by decide) h (fun hc h => ?_) (fun hc h => ?_)
    · exact Ev.sub (l := [(0, .ref 123), (1, .int v1), (3, .int v3), (4, .int v4), (5, .int v5), (6, .int v6)]) rfl rfl (mm_sub_c rfl (mm_sub_c rfl (mm_sub_c rfl (mm_sub_c rfl (mm_sub_c rfl (mm_sub_c rfl mm_sub_n)))))) (hk94 _ _ _ _ _ _ _ h)
    · refine Ev.iload H61 i61_74 rfl ?_
      refine Ev.iload_n H61 i61_76 rfl ?_
      refine Ev.iload H61 i61_77 rfl ?_
      refine Ev.isub H61 i61_79 ?_
      refine Ev.imul H61 i61_80 ?_
      refine Ev.iload H61 i61_81 rfl ?_
      refine Ev.iconst H61 i61_83 kI_1 ?_
      refine Ev.iadd H61 i61_84 ?_
      refine Rd.idiv H61 i61_85 h (fun h => ?_)
      refine Rd.istore H61 i61_86 (Nat.le_of_ble_eq_true rfl) (lv2 := fun x3 => [(6, .int x3), (0, .ref 123), (1, .int v1), (3, .int v3), (4, .int v4), (5, .int v5), (7, .int v7)]) (fun _ => rfl) h (fun x3 h => ?_)
      refine Rd.iinc H61 i61_88 (Nat.le_of_ble_eq_true rfl) rfl kI_1 (lv2 := fun x4 => [(7, .int x4), (6, .int x3), (0, .ref 123), (1, .int v1), (3, .int v3), (4, .int v4), (5, .int v5)]) (fun _ => rfl) h (fun x4 h => ?_)
      refine Ev.goto H61 i61_91 (t := 67) (by decide) ?_
      exact Ev.sub (l := [(0, .ref 123), (1, .int v1), (3, .int v3), (4, .int v4), (5, .int v5), (6, .int x3), (7, .int x4)]) rfl rfl (mm_sub_c rfl (mm_sub_c rfl (mm_sub_c rfl (mm_sub_c rfl (mm_sub_c rfl (mm_sub_c rfl (mm_sub_c rfl mm_sub_n))))))) (ih _ _ _ _ _ _ _ _ h)
def q61_98 (k124 : Int32 → Int32 → Int32 → Int32 → Int32 → mS → Option mQ) : Nat → Int32 → Int32 → Int32 → Int32 → Int32 → Int32 → mS → Option mQ
  | 0, _, _, _, _, _, _, _ => none
  | n + 1, v1, v3, v4, v5, v6, v7, s => if v1 ≤ v7 then (k124 v1 v3 v4 v5 v6 s) else (bx (v6 * ((s.1 27 0) - (1 : Int32))) fun x5 => bx (v7 + (1 : Int32)) fun x6 => q61_98 k124 n v1 v3 v4 v5 x5 x6 s)
theorem t61_98 {L : Nat} {xs : Nat → Int32} {d : Nat} {k124 : Int32 → Int32 → Int32 → Int32 → Int32 → mS → Option mQ} (hk124 : ∀ (v1 : Int32) (v3 : Int32) (v4 : Int32) (v5 : Int32) (v6 : Int32) (s : mS) (r : mQ), k124 v1 v3 v4 v5 v6 s = some r → Ev L xs d 61 124 [(0, .ref 123), (1, .int v1), (3, .int v3), (4, .int v4), (5, .int v5), (6, .int v6)] [] (hp s) (hr r)) (hd : 0 ≤ d) : ∀ (n : Nat) (v1 : Int32) (v3 : Int32) (v4 : Int32) (v5 : Int32) (v6 : Int32) (v7 : Int32) (s : mS) (r : mQ), q61_98 k124 n v1 v3 v4 v5 v6 v7 s = some r → Ev L xs d 61 98 [(0, .ref 123), (1, .int v1), (3, .int v3), (4, .int v4), (5, .int v5), (6, .int v6), (7, .int v7)] [] (hp s) (hr r) := by
  intro n
  induction n with
  | zero => intro v1 v3 v4 v5 v6 v7 s r h; rw [q61_98] at h; cases h
  | succ n ih =>
    intro v1 v3 v4 v5 v6 v7 s r h
    rw [q61_98] at h
    refine Ev.iload H61 i61_98 rfl ?_
    refine Ev.iload_n H61 i61_100 rfl ?_
    refine Rd.ic_ge H61 i61_101 (t := 124) (by decide) h (fun hc h => ?_) (fun hc h => ?_)
    · exact Ev.sub (l := [(0, .ref 123), (1, .int v1), (3, .int v3), (4, .int v4), (5, .int v5), (6, .int v6)]) rfl rfl (mm_sub_c rfl (mm_sub_c rfl (mm_sub_c rfl (mm_sub_c rfl (mm_sub_c rfl (mm_sub_c rfl mm_sub_n)))))) (hk124 _ _ _ _ _ _ _ h)
    · refine Ev.iload H61 i61_104 rfl ?_
      refine Ev.aload_n H61 i61_106 rfl ?_
      refine Rd.getR H61 i61_107 ob5 rfl ?_
      refine Rd.getI H61 i61_110 (ob0 mA0_27) rfl ?_
      refine Ev.iconst H61 i61_113 kI_1 ?_
      refine Ev.isub H61 i61_114 ?_
      refine Ev.imul H61 i61_115 ?_
      refine Rd.istore H61 i61_116 (Nat.le_of_ble_eq_true rfl) (lv2 := fun x5 => [(6, .int x5), (0, .ref 123), (1, .int v1), (3, .int v3), (4, .int v4), (5, .int v5), (7, .int v7)]) (fun _ => rfl) h (fun x5 h => ?_)
      refine Rd.iinc H61 i61_118 (Nat.le_of_ble_eq_true rfl) rfl kI_1 (lv2 := fun x6 => [(7, .int x6), (6, .int x5), (0, .ref 123), (1, .int v1), (3, .int v3), (4, .int v4), (5, .int v5)]) (fun _ => rfl) h (fun x6 h => ?_)
      refine Ev.goto H61 i61_121 (t := 98) (by decide) ?_
      exact Ev.sub (l := [(0, .ref 123), (1, .int v1), (3, .int v3), (4, .int v4), (5, .int v5), (6, .int x5), (7, .int x6)]) rfl rfl (mm_sub_c rfl (mm_sub_c rfl (mm_sub_c rfl (mm_sub_c rfl (mm_sub_c rfl (mm_sub_c rfl (mm_sub_c rfl mm_sub_n))))))) (ih _ _ _ _ _ _ _ _ h)
def q61_124 (k55 : Int32 → Int32 → Int32 → Int32 → mS → Option mQ) (v1 : Int32) (v3 : Int32) (v4 : Int32) (v5 : Int32) (v6 : Int32) (s : mS) : Option mQ := bx (v4 + v6) fun x7 => bx (v5 + (1 : Int32)) fun x8 => k55 v1 v3 x7 x8 s
theorem t61_124 {L : Nat} {xs : Nat → Int32} {d : Nat} {k55 : Int32 → Int32 → Int32 → Int32 → mS → Option mQ} (hk55 : ∀ (v1 : Int32) (v3 : Int32) (v4 : Int32) (v5 : Int32) (s : mS) (r : mQ), k55 v1 v3 v4 v5 s = some r → Ev L xs d 61 55 [(0, .ref 123), (1, .int v1), (3, .int v3), (4, .int v4), (5, .int v5)] [] (hp s) (hr r)) (hd : 0 ≤ d) {v1 : Int32} {v3 : Int32} {v4 : Int32} {v5 : Int32} {v6 : Int32} {s : mS} {r : mQ} (h : q61_124 k55 v1 v3 v4 v5 v6 s = some r) : Ev L xs d 61 124 [(0, .ref 123), (1, .int v1), (3, .int v3), (4, .int v4), (5, .int v5), (6, .int v6)] [] (hp s) (hr r) := by
  unfold q61_124 at h
  refine Ev.iload H61 i61_124 rfl ?_
  refine Ev.iload H61 i61_126 rfl ?_
  refine Ev.iadd H61 i61_128 ?_
  refine Rd.istore H61 i61_129 (Nat.le_of_ble_eq_true rfl) (lv2 := fun x7 => [(4, .int x7), (0, .ref 123), (1, .int v1), (3, .int v3), (5, .int v5), (6, .int v6)]) (fun _ => rfl) h (fun x7 h => ?_)
  refine Rd.iinc H61 i61_131 (Nat.le_of_ble_eq_true rfl) rfl kI_1 (lv2 := fun x8 => [(5, .int x8), (4, .int x7), (0, .ref 123), (1, .int v1), (3, .int v3), (6, .int v6)]) (fun _ => rfl) h (fun x8 h => ?_)
  refine Ev.goto H61 i61_134 (t := 55) (by decide) ?_
  exact Ev.sub (l := [(0, .ref 123), (1, .int v1), (3, .int v3), (4, .int x7), (5, .int x8)]) rfl rfl (mm_sub_c rfl (mm_sub_c rfl (mm_sub_c rfl (mm_sub_c rfl (mm_sub_c rfl mm_sub_n))))) (hk55 _ _ _ _ _ _ h)
def q61_94 (k55 : Int32 → Int32 → Int32 → Int32 → mS → Option mQ) (v1 : Int32) (v3 : Int32) (v4 : Int32) (v5 : Int32) (v6 : Int32) (s : mS) : Option mQ := q61_98 (q61_124 k55) 10000 v1 v3 v4 v5 v6 v5 s
theorem t61_94 {L : Nat} {xs : Nat → Int32} {d : Nat} {k55 : Int32 → Int32 → Int32 → Int32 → mS → Option mQ} (hk55 : ∀ (v1 : Int32) (v3 : Int32) (v4 : Int32) (v5 : Int32) (s : mS) (r : mQ), k55 v1 v3 v4 v5 s = some r → Ev L xs d 61 55 [(0, .ref 123), (1, .int v1), (3, .int v3), (4, .int v4), (5, .int v5)] [] (hp s) (hr r)) (hd : 0 ≤ d) {v1 : Int32} {v3 : Int32} {v4 : Int32} {v5 : Int32} {v6 : Int32} {s : mS} {r : mQ} (h : q61_94 k55 v1 v3 v4 v5 v6 s = some r) : Ev L xs d 61 94 [(0, .ref 123), (1, .int v1), (3, .int v3), (4, .int v4), (5, .int v5), (6, .int v6)] [] (hp s) (hr r) := by
  unfold q61_94 at h
  refine Ev.iload H61 i61_94 rfl ?_
  refine Ev.istore H61 i61_96 (Nat.le_of_ble_eq_true rfl) (lv2 := [(7, .int v5), (0, .ref 123), (1, .int v1), (3, .int v3), (4, .int v4), (5, .int v5), (6, .int v6)]) rfl ?_
  exact Ev.sub (l := [(0, .ref 123), (1, .int v1), (3, .int v3), (4, .int v4), (5, .int v5), (6, .int v6), (7, .int v5)]) rfl rfl (mm_sub_c rfl (mm_sub_c rfl (mm_sub_c rfl (mm_sub_c rfl (mm_sub_c rfl (mm_sub_c rfl (mm_sub_c rfl mm_sub_n))))))) (t61_98 (k124 := (q61_124 k55)) (fun _ _ _ _ _ _ _ h => t61_124 (k55 := k55) hk55 hd h) hd 10000 _ _ _ _ _ _ _ _ h)
def q61_55 (k137 : Int32 → Int32 → mS → Option mQ) : Nat → Int32 → Int32 → Int32 → Int32 → mS → Option mQ
  | 0, _, _, _, _, _ => none
  | n + 1, v1, v3, v4, v5, s => if v1 < v5 then (k137 v3 v4 s) else (q61_67 (q61_94 (q61_55 k137 n)) 10000 v1 v3 v4 v5 (1 : Int32) (0 : Int32) s)
theorem t61_55 {L : Nat} {xs : Nat → Int32} {d : Nat} {k137 : Int32 → Int32 → mS → Option mQ} (hk137 : ∀ (v3 : Int32) (v4 : Int32) (s : mS) (r : mQ), k137 v3 v4 s = some r → Ev L xs d 61 137 [(3, .int v3), (4, .int v4)] [] (hp s) (hr r)) (hd : 0 ≤ d) : ∀ (n : Nat) (v1 : Int32) (v3 : Int32) (v4 : Int32) (v5 : Int32) (s : mS) (r : mQ), q61_55 k137 n v1 v3 v4 v5 s = some r → Ev L xs d 61 55 [(0, .ref 123), (1, .int v1), (3, .int v3), (4, .int v4), (5, .int v5)] [] (hp s) (hr r) := by
  intro n
  induction n with
  | zero => intro v1 v3 v4 v5 s r h; rw [q61_55] at h; cases h
  | succ n ih =>
    intro v1 v3 v4 v5 s r h
    rw [q61_55] at h
    refine Ev.iload H61 i61_55 rfl ?_
    refine Ev.iload_n H61 i61_57 rfl ?_
    refine Rd.ic_gt H61 i61_58 (t := 137) (by decide) h (fun hc h => ?_) (fun hc h => ?_)
    · exact Ev.sub (l := [(3, .int v3), (4, .int v4)]) rfl rfl (mm_sub_c rfl (mm_sub_c rfl mm_sub_n)) (hk137 _ _ _ _ h)
    · refine Ev.iconst H61 i61_61 kI_1 ?_
      refine Ev.istore H61 i61_62 (Nat.le_of_ble_eq_true rfl) (lv2 := [(6, .int (1 : Int32)), (0, .ref 123), (1, .int v1), (3, .int v3), (4, .int v4), (5, .int v5)]) rfl ?_
      refine Ev.iconst H61 i61_64 kI_0 ?_
      refine Ev.istore H61 i61_65 (Nat.le_of_ble_eq_true rfl) (lv2 := [(7, .int (0 : Int32)), (6, .int (1 : Int32)), (0, .ref 123), (1, .int v1), (3, .int v3), (4, .int v4), (5, .int v5)]) rfl ?_
      exact Ev.sub (l := [(0, .ref 123), (1, .int v1), (3, .int v3), (4, .int v4), (5, .int v5), (6, .int (1 : Int32)), (7, .int (0 : Int32))]) rfl rfl (mm_sub_c rfl (mm_sub_c rfl (mm_sub_c rfl (mm_sub_c rfl (mm_sub_c rfl (mm_sub_c rfl (mm_sub_c rfl mm_sub_n))))))) (t61_67 (k94 := (q61_94 (q61_55 k137 n))) (fun _ _ _ _ _ _ _ h => t61_94 (k55 := (q61_55 k137 n)) (fun _ _ _ _ _ _ h => ih _ _ _ _ _ _ h) hd h) hd 10000 _ _ _ _ _ _ _ _ h)
def q61_137 (v3 : Int32) (v4 : Int32) (s : mS) : Option mQ := if 0 < v3 then (gZ v3 <| rv ((v4 * (10000 : Int32)) / v3) s) else (rv (0 : Int32) s)
theorem t61_137 {L : Nat} {xs : Nat → Int32} {d : Nat} (hd : 0 ≤ d) {v3 : Int32} {v4 : Int32} {s : mS} {r : mQ} (h : q61_137 v3 v4 s = some r) : Ev L xs d 61 137 [(3, .int v3), (4, .int v4)] [] (hp s) (hr r) := by
  unfold q61_137 at h
  refine Ev.iload_n H61 i61_137 rfl ?_
  refine Rd.if_gt H61 i61_138 (t := 145) (by decide) h (fun hc h => ?_) (fun hc h => ?_)
  · refine Ev.iload H61 i61_145 rfl ?_
    refine Ev.sipush H61 i61_147 kS_10000 ?_
    refine Ev.imul H61 i61_150 ?_
    refine Ev.iload_n H61 i61_151 rfl ?_
    refine Rd.idiv H61 i61_152 h (fun h => ?_)
    exact Rd.ireturn H61 i61_153 rfl h
  · refine Ev.iconst H61 i61_141 kI_0 ?_
    refine Ev.goto H61 i61_142 (t := 153) (by decide) ?_
    exact Rd.ireturn H61 i61_153 rfl h
def q61_52 (v1 : Int32) (v2 : Int32) (v3 : Int32) (v4 : Int32) (s : mS) : Option mQ := q61_55 (q61_137) 10000 v1 v3 v4 v2 s
theorem t61_52 {L : Nat} {xs : Nat → Int32} {d : Nat} (hd : 0 ≤ d) {v1 : Int32} {v2 : Int32} {v3 : Int32} {v4 : Int32} {s : mS} {r : mQ} (h : q61_52 v1 v2 v3 v4 s = some r) : Ev L xs d 61 52 [(0, .ref 123), (1, .int v1), (2, .int v2), (3, .int v3), (4, .int v4)] [] (hp s) (hr r) := by
  unfold q61_52 at h
  refine Ev.iload_n H61 i61_52 rfl ?_
  refine Ev.istore H61 i61_53 (Nat.le_of_ble_eq_true rfl) (lv2 := [(5, .int v2), (0, .ref 123), (1, .int v1), (2, .int v2), (3, .int v3), (4, .int v4)]) rfl ?_
  exact Ev.sub (l := [(0, .ref 123), (1, .int v1), (3, .int v3), (4, .int v4), (5, .int v2)]) rfl rfl (mm_sub_c rfl (mm_sub_c rfl (mm_sub_c rfl (mm_sub_c rfl (mm_sub_c rfl mm_sub_n))))) (t61_55 (k137 := (q61_137)) (fun _ _ _ _ h => t61_137 hd h) hd 10000 _ _ _ _ _ _ h)
/-- SerialGate$Planner.oddsOf(II)I -/
def q61 (v1 : Int32) (v2 : Int32) (s : mS) : Option mQ := if ¬ (s.1 27 0) = 0 then (q61_30 (q61_52) 10000 v1 v2 (1 : Int32) (0 : Int32) (0 : Int32) s) else (if ¬ v2 = 0 then (rv (0 : Int32) s) else (rv (10000 : Int32) s))
theorem c61 {L : Nat} {xs : Nat → Int32} {v1 : Int32} {v2 : Int32} {s : mS} {r : mQ} (h : q61 v1 v2 s = some r) : ∀ d, 0 ≤ d → Cl L xs d 61 [.ref 123, .int v1, .int v2] (hp s) (hr r) := by
  intro d hd
  show Ev L xs d 61 0 [(0, .ref 123), (1, .int v1), (2, .int v2)] [] (hp s) (hr r)
  unfold q61 at h
  refine Ev.iconst H61 i61_0 kI_1 ?_
  refine Ev.istore_n H61 i61_1 (Nat.le_of_ble_eq_true rfl) (lv2 := [(3, .int (1 : Int32)), (0, .ref 123), (1, .int v1), (2, .int v2)]) rfl ?_
  refine Ev.iconst H61 i61_2 kI_0 ?_
  refine Ev.istore H61 i61_3 (Nat.le_of_ble_eq_true rfl) (lv2 := [(4, .int (0 : Int32)), (3, .int (1 : Int32)), (0, .ref 123), (1, .int v1), (2, .int v2)]) rfl ?_
  refine Ev.aload_n H61 i61_5 rfl ?_
  refine Rd.getR H61 i61_6 ob5 rfl ?_
  refine Rd.getI H61 i61_9 (ob0 mA0_27) rfl ?_
  refine Rd.if_ne H61 i61_12 (t := 27) (by decide) h (fun hc h => ?_) (fun hc h => ?_)
  · refine Ev.iconst H61 i61_27 kI_0 ?_
    refine Ev.istore H61 i61_28 (Nat.le_of_ble_eq_true rfl) (lv2 := [(5, .int (0 : Int32)), (4, .int (0 : Int32)), (3, .int (1 : Int32)), (0, .ref 123), (1, .int v1), (2, .int v2)]) rfl ?_
    exact Ev.sub (l := [(0, .ref 123), (1, .int v1), (2, .int v2), (3, .int (1 : Int32)), (4, .int (0 : Int32)), (5, .int (0 : Int32))]) rfl rfl (mm_sub_c rfl (mm_sub_c rfl (mm_sub_c rfl (mm_sub_c rfl (mm_sub_c rfl (mm_sub_c rfl mm_sub_n)))))) (t61_30 (k52 := (q61_52)) (fun _ _ _ _ _ _ h => t61_52 hd h) hd 10000 _ _ _ _ _ _ _ h)
  · refine Ev.iload_n H61 i61_15 rfl ?_
    refine Rd.if_ne H61 i61_16 (t := 25) (by decide) h (fun hc h => ?_) (fun hc h => ?_)
    · refine Ev.iconst H61 i61_25 kI_0 ?_
      exact Rd.ireturn H61 i61_26 rfl h
    · refine Ev.sipush H61 i61_19 kS_10000 ?_
      refine Ev.goto H61 i61_22 (t := 26) (by decide) ?_
      exact Rd.ireturn H61 i61_26 rfl h
theorem i63_0 : mm_cd 63 0 = some (.aload_n 0, 1, 0, 0) := rfl
theorem i63_1 : mm_cd 63 1 = some (.aload_n 1, 1, 0, 0) := rfl
theorem i63_2 : mm_cd 63 2 = some (.getfield 9, 3, ((6 : Nat) : Int), 0) := rfl
theorem i63_5 : mm_cd 63 5 = some (.putfield 9, 3, ((6 : Nat) : Int), 0) := rfl
theorem i63_8 : mm_cd 63 8 = some (.aload_n 0, 1, 0, 0) := rfl
theorem i63_9 : mm_cd 63 9 = some (.aload_n 1, 1, 0, 0) := rfl
theorem i63_10 : mm_cd 63 10 = some (.getfield 15, 3, ((6 : Nat) : Int), 1) := rfl
theorem i63_13 : mm_cd 63 13 = some (.putfield 15, 3, ((6 : Nat) : Int), 1) := rfl
theorem i63_16 : mm_cd 63 16 = some (.aload_n 0, 1, 0, 0) := rfl
theorem i63_17 : mm_cd 63 17 = some (.aload_n 1, 1, 0, 0) := rfl
theorem i63_18 : mm_cd 63 18 = some (.getfield 18, 3, ((6 : Nat) : Int), 2) := rfl
theorem i63_21 : mm_cd 63 21 = some (.putfield 18, 3, ((6 : Nat) : Int), 2) := rfl
theorem i63_24 : mm_cd 63 24 = some (.aload_n 0, 1, 0, 0) := rfl
theorem i63_25 : mm_cd 63 25 = some (.aload_n 1, 1, 0, 0) := rfl
theorem i63_26 : mm_cd 63 26 = some (.getfield 21, 3, ((6 : Nat) : Int), 3) := rfl
theorem i63_29 : mm_cd 63 29 = some (.putfield 21, 3, ((6 : Nat) : Int), 3) := rfl
theorem i63_32 : mm_cd 63 32 = some (.aload_n 1, 1, 0, 0) := rfl
theorem i63_33 : mm_cd 63 33 = some (.getfield 24, 3, ((6 : Nat) : Int), 4) := rfl
theorem i63_36 : mm_cd 63 36 = some (.iconst 0, 1, 0, 0) := rfl
theorem i63_37 : mm_cd 63 37 = some (.aload_n 0, 1, 0, 0) := rfl
theorem i63_38 : mm_cd 63 38 = some (.getfield 24, 3, ((6 : Nat) : Int), 4) := rfl
theorem i63_41 : mm_cd 63 41 = some (.iconst 0, 1, 0, 0) := rfl
theorem i63_42 : mm_cd 63 42 = some (.bipush 8, 2, 0, 0) := rfl
theorem i63_44 : mm_cd 63 44 = some (.invokestatic 58, 3, 1, 0) := rfl
theorem i63_47 : mm_cd 63 47 = some (.aload_n 1, 1, 0, 0) := rfl
theorem i63_48 : mm_cd 63 48 = some (.getfield 28, 3, ((6 : Nat) : Int), 5) := rfl
theorem i63_51 : mm_cd 63 51 = some (.iconst 0, 1, 0, 0) := rfl
theorem i63_52 : mm_cd 63 52 = some (.aload_n 0, 1, 0, 0) := rfl
theorem i63_53 : mm_cd 63 53 = some (.getfield 28, 3, ((6 : Nat) : Int), 5) := rfl
theorem i63_56 : mm_cd 63 56 = some (.iconst 0, 1, 0, 0) := rfl
theorem i63_57 : mm_cd 63 57 = some (.bipush 8, 2, 0, 0) := rfl
theorem i63_59 : mm_cd 63 59 = some (.invokestatic 58, 3, 1, 0) := rfl
theorem i63_62 : mm_cd 63 62 = some (.aload_n 1, 1, 0, 0) := rfl
theorem i63_63 : mm_cd 63 63 = some (.getfield 31, 3, ((6 : Nat) : Int), 6) := rfl
theorem i63_66 : mm_cd 63 66 = some (.iconst 0, 1, 0, 0) := rfl
theorem i63_67 : mm_cd 63 67 = some (.aload_n 0, 1, 0, 0) := rfl
theorem i63_68 : mm_cd 63 68 = some (.getfield 31, 3, ((6 : Nat) : Int), 6) := rfl
theorem i63_71 : mm_cd 63 71 = some (.iconst 0, 1, 0, 0) := rfl
theorem i63_72 : mm_cd 63 72 = some (.bipush 8, 2, 0, 0) := rfl
theorem i63_74 : mm_cd 63 74 = some (.invokestatic 58, 3, 1, 0) := rfl
theorem i63_77 : mm_cd 63 77 = some (.aload_n 1, 1, 0, 0) := rfl
theorem i63_78 : mm_cd 63 78 = some (.getfield 34, 3, ((6 : Nat) : Int), 7) := rfl
theorem i63_81 : mm_cd 63 81 = some (.iconst 0, 1, 0, 0) := rfl
theorem i63_82 : mm_cd 63 82 = some (.aload_n 0, 1, 0, 0) := rfl
theorem i63_83 : mm_cd 63 83 = some (.getfield 34, 3, ((6 : Nat) : Int), 7) := rfl
theorem i63_86 : mm_cd 63 86 = some (.iconst 0, 1, 0, 0) := rfl
theorem i63_87 : mm_cd 63 87 = some (.bipush 8, 2, 0, 0) := rfl
theorem i63_89 : mm_cd 63 89 = some (.invokestatic 58, 3, 1, 0) := rfl
theorem i63_92 : mm_cd 63 92 = some (.aload_n 1, 1, 0, 0) := rfl
theorem i63_93 : mm_cd 63 93 = some (.getfield 37, 3, ((6 : Nat) : Int), 8) := rfl
theorem i63_96 : mm_cd 63 96 = some (.iconst 0, 1, 0, 0) := rfl
theorem i63_97 : mm_cd 63 97 = some (.aload_n 0, 1, 0, 0) := rfl
theorem i63_98 : mm_cd 63 98 = some (.getfield 37, 3, ((6 : Nat) : Int), 8) := rfl
theorem i63_101 : mm_cd 63 101 = some (.iconst 0, 1, 0, 0) := rfl
theorem i63_102 : mm_cd 63 102 = some (.bipush 8, 2, 0, 0) := rfl
theorem i63_104 : mm_cd 63 104 = some (.invokestatic 58, 3, 1, 0) := rfl
theorem i63_107 : mm_cd 63 107 = some (.aload_n 1, 1, 0, 0) := rfl
theorem i63_108 : mm_cd 63 108 = some (.getfield 40, 3, ((6 : Nat) : Int), 9) := rfl
theorem i63_111 : mm_cd 63 111 = some (.iconst 0, 1, 0, 0) := rfl
theorem i63_112 : mm_cd 63 112 = some (.aload_n 0, 1, 0, 0) := rfl
theorem i63_113 : mm_cd 63 113 = some (.getfield 40, 3, ((6 : Nat) : Int), 9) := rfl
theorem i63_116 : mm_cd 63 116 = some (.iconst 0, 1, 0, 0) := rfl
theorem i63_117 : mm_cd 63 117 = some (.bipush 8, 2, 0, 0) := rfl
theorem i63_119 : mm_cd 63 119 = some (.invokestatic 58, 3, 1, 0) := rfl
theorem i63_122 : mm_cd 63 122 = some (.aload_n 1, 1, 0, 0) := rfl
theorem i63_123 : mm_cd 63 123 = some (.getfield 43, 3, ((6 : Nat) : Int), 10) := rfl
theorem i63_126 : mm_cd 63 126 = some (.iconst 0, 1, 0, 0) := rfl
theorem i63_127 : mm_cd 63 127 = some (.aload_n 0, 1, 0, 0) := rfl
theorem i63_128 : mm_cd 63 128 = some (.getfield 43, 3, ((6 : Nat) : Int), 10) := rfl
theorem i63_131 : mm_cd 63 131 = some (.iconst 0, 1, 0, 0) := rfl
theorem i63_132 : mm_cd 63 132 = some (.bipush 8, 2, 0, 0) := rfl
theorem i63_134 : mm_cd 63 134 = some (.invokestatic 58, 3, 1, 0) := rfl
theorem i63_137 : mm_cd 63 137 = some (.aload_n 1, 1, 0, 0) := rfl
theorem i63_138 : mm_cd 63 138 = some (.getfield 46, 3, ((6 : Nat) : Int), 11) := rfl
theorem i63_141 : mm_cd 63 141 = some (.iconst 0, 1, 0, 0) := rfl
theorem i63_142 : mm_cd 63 142 = some (.aload_n 0, 1, 0, 0) := rfl
theorem i63_143 : mm_cd 63 143 = some (.getfield 46, 3, ((6 : Nat) : Int), 11) := rfl
theorem i63_146 : mm_cd 63 146 = some (.iconst 0, 1, 0, 0) := rfl
theorem i63_147 : mm_cd 63 147 = some (.bipush 8, 2, 0, 0) := rfl
theorem i63_149 : mm_cd 63 149 = some (.invokestatic 58, 3, 1, 0) := rfl
theorem i63_152 : mm_cd 63 152 = some (.aload_n 1, 1, 0, 0) := rfl
theorem i63_153 : mm_cd 63 153 = some (.getfield 49, 3, ((6 : Nat) : Int), 12) := rfl
theorem i63_156 : mm_cd 63 156 = some (.iconst 0, 1, 0, 0) := rfl
theorem i63_157 : mm_cd 63 157 = some (.aload_n 0, 1, 0, 0) := rfl
theorem i63_158 : mm_cd 63 158 = some (.getfield 49, 3, ((6 : Nat) : Int), 12) := rfl
theorem i63_161 : mm_cd 63 161 = some (.iconst 0, 1, 0, 0) := rfl
theorem i63_162 : mm_cd 63 162 = some (.bipush 8, 2, 0, 0) := rfl
theorem i63_164 : mm_cd 63 164 = some (.invokestatic 58, 3, 1, 0) := rfl
theorem i63_167 : mm_cd 63 167 = some (.aload_n 1, 1, 0, 0) := rfl
theorem i63_168 : mm_cd 63 168 = some (.getfield 52, 3, ((6 : Nat) : Int), 13) := rfl
theorem i63_171 : mm_cd 63 171 = some (.iconst 0, 1, 0, 0) := rfl
theorem i63_172 : mm_cd 63 172 = some (.aload_n 0, 1, 0, 0) := rfl
theorem i63_173 : mm_cd 63 173 = some (.getfield 52, 3, ((6 : Nat) : Int), 13) := rfl
theorem i63_176 : mm_cd 63 176 = some (.iconst 0, 1, 0, 0) := rfl
theorem i63_177 : mm_cd 63 177 = some (.bipush 8, 2, 0, 0) := rfl
theorem i63_179 : mm_cd 63 179 = some (.invokestatic 58, 3, 1, 0) := rfl
theorem i63_182 : mm_cd 63 182 = some (.aload_n 1, 1, 0, 0) := rfl
theorem i63_183 : mm_cd 63 183 = some (.getfield 55, 3, ((6 : Nat) : Int), 14) := rfl
theorem i63_186 : mm_cd 63 186 = some (.iconst 0, 1, 0, 0) := rfl
theorem i63_187 : mm_cd 63 187 = some (.aload_n 0, 1, 0, 0) := rfl
theorem i63_188 : mm_cd 63 188 = some (.getfield 55, 3, ((6 : Nat) : Int), 14) := rfl
theorem i63_191 : mm_cd 63 191 = some (.iconst 0, 1, 0, 0) := rfl
theorem i63_192 : mm_cd 63 192 = some (.bipush 80, 2, 0, 0) := rfl
theorem i63_194 : mm_cd 63 194 = some (.invokestatic 58, 3, 1, 0) := rfl
theorem i63_197 : mm_cd 63 197 = some (.return_, 1, 0, 0) := rfl
/-- SerialGate$Slots.copyFrom(LSerialGate$Slots;)V -/
def q63 (a : Nat) (b : Nat) (s : mS) : Option mQ := sp (sI s a 0 (s.1 b 0)) fun s1 => sp (sI s1 a 1 (s1.1 b 1)) fun s2 => sp (sI s2 a 2 (s2.1 b 2)) fun s3 => sp (sI s3 a 3 (s3.1 b 3)) fun s4 => gC 8 8 (0 : Int32) (0 : Int32) (8 : Int32) <| sp (sC s4 (b + 1) (a + 1) (0 : Int32).toNatClampNeg (0 : Int32).toNatClampNeg (8 : Int32).toNatClampNeg) fun s5 => gC 8 8 (0 : Int32) (0 : Int32) (8 : Int32) <| sp (sC s5 (b + 2) (a + 2) (0 : Int32).toNatClampNeg (0 : Int32).toNatClampNeg (8 : Int32).toNatClampNeg) fun s6 => gC 8 8 (0 : Int32) (0 : Int32) (8 : Int32) <| sp (sC s6 (b + 3) (a + 3) (0 : Int32).toNatClampNeg (0 : Int32).toNatClampNeg (8 : Int32).toNatClampNeg) fun s7 => gC 8 8 (0 : Int32) (0 : Int32) (8 : Int32) <| sp (sC s7 (b + 4) (a + 4) (0 : Int32).toNatClampNeg (0 : Int32).toNatClampNeg (8 : Int32).toNatClampNeg) fun s8 => gC 8 8 (0 : Int32) (0 : Int32) (8 : Int32) <| sp (sC s8 (b + 5) (a + 5) (0 : Int32).toNatClampNeg (0 : Int32).toNatClampNeg (8 : Int32).toNatClampNeg) fun s9 => gC 8 8 (0 : Int32) (0 : Int32) (8 : Int32) <| sp (sC s9 (b + 6) (a + 6) (0 : Int32).toNatClampNeg (0 : Int32).toNatClampNeg (8 : Int32).toNatClampNeg) fun s10 => gC 8 8 (0 : Int32) (0 : Int32) (8 : Int32) <| sp (sC s10 (b + 7) (a + 7) (0 : Int32).toNatClampNeg (0 : Int32).toNatClampNeg (8 : Int32).toNatClampNeg) fun s11 => gC 8 8 (0 : Int32) (0 : Int32) (8 : Int32) <| sp (sC s11 (b + 8) (a + 8) (0 : Int32).toNatClampNeg (0 : Int32).toNatClampNeg (8 : Int32).toNatClampNeg) fun s12 => gC 8 8 (0 : Int32) (0 : Int32) (8 : Int32) <| sp (sC s12 (b + 9) (a + 9) (0 : Int32).toNatClampNeg (0 : Int32).toNatClampNeg (8 : Int32).toNatClampNeg) fun s13 => gC 8 8 (0 : Int32) (0 : Int32) (8 : Int32) <| sp (sC s13 (b + 10) (a + 10) (0 : Int32).toNatClampNeg (0 : Int32).toNatClampNeg (8 : Int32).toNatClampNeg) fun s14 => gC 80 80 (0 : Int32) (0 : Int32) (80 : Int32) <| sp (sC s14 (b + 11) (a + 11) (0 : Int32).toNatClampNeg (0 : Int32).toNatClampNeg (80 : Int32).toNatClampNeg) fun s15 => ru s15
theorem c63 {L : Nat} {xs : Nat → Int32} {a : Nat} {b : Nat} (ma : a ∈ A6) (mb : b ∈ A6) {s : mS} {r : mQ} (h : q63 a b s = some r) : ∀ d, 0 ≤ d → Cl L xs d 63 [.ref a, .ref b] (hp s) (hr r) := by
  intro d hd
  show Ev L xs d 63 0 [(0, .ref a), (1, .ref b)] [] (hp s) (hr r)
  unfold q63 at h
  refine Ev.aload_n H63 i63_0 rfl ?_
  refine Ev.aload_n H63 i63_1 rfl ?_
  refine Rd.getI H63 i63_2 (ob6 mb) rfl ?_
  refine Rd.putI H63 i63_5 (ob6 ma) rfl ty6_0.1 ty6_0.2 h (fun s1 h => ?_)
  refine Ev.aload_n H63 i63_8 rfl ?_
  refine Ev.aload_n H63 i63_9 rfl ?_
  refine Rd.getI H63 i63_10 (ob6 mb) rfl ?_
  refine Rd.putI H63 i63_13 (ob6 ma) rfl ty6_1.1 ty6_1.2 h (fun s2 h => ?_)
  refine Ev.aload_n H63 i63_16 rfl ?_
  refine Ev.aload_n H63 i63_17 rfl ?_
  refine Rd.getI H63 i63_18 (ob6 mb) rfl ?_
  refine Rd.putI H63 i63_21 (ob6 ma) rfl ty6_2.1 ty6_2.2 h (fun s3 h => ?_)
  refine Ev.aload_n H63 i63_24 rfl ?_
  refine Ev.aload_n H63 i63_25 rfl ?_
  refine Rd.getI H63 i63_26 (ob6 mb) rfl ?_
  refine Rd.putI H63 i63_29 (ob6 ma) rfl ty6_3.1 ty6_3.2 h (fun s4 h => ?_)
  refine Ev.aload_n H63 i63_32 rfl ?_
  refine Rd.getR H63 i63_33 (ob6 mb) rfl ?_
  refine Ev.iconst H63 i63_36 kI_0 ?_
  refine Ev.aload_n H63 i63_37 rfl ?_
  refine Rd.getR H63 i63_38 (ob6 ma) rfl ?_
  refine Ev.iconst H63 i63_41 kI_0 ?_
  refine Ev.bipush H63 i63_42 kB_8 ?_
  refine Rd.copy H63 i63_44 (ar6_1 mb) (ar6_1 ma) (Nat.le_of_ble_eq_true rfl) h (fun s5 h => ?_)
  refine Ev.aload_n H63 i63_47 rfl ?_
  refine Rd.getR H63 i63_48 (ob6 mb) rfl ?_
  refine Ev.iconst H63 i63_51 kI_0 ?_
  refine Ev.aload_n H63 i63_52 rfl ?_
  refine Rd.getR H63 i63_53 (ob6 ma) rfl ?_
  refine Ev.iconst H63 i63_56 kI_0 ?_
  refine Ev.bipush H63 i63_57 kB_8 ?_
  refine Rd.copy H63 i63_59 (ar6_2 mb) (ar6_2 ma) (Nat.le_of_ble_eq_true rfl) h (fun s6 h => ?_)
  refine Ev.aload_n H63 i63_62 rfl ?_
  refine Rd.getR H63 i63_63 (ob6 mb) rfl ?_
  refine Ev.iconst H63 i63_66 kI_0 ?_
  refine Ev.aload_n H63 i63_67 rfl ?_
  refine Rd.getR H63 i63_68 (ob6 ma) rfl ?_
  refine Ev.iconst H63 i63_71 kI_0 ?_
  refine Ev.bipush H63 i63_72 kB_8 ?_
  refine Rd.copy H63 i63_74 (ar6_3 mb) (ar6_3 ma) (Nat.le_of_ble_eq_true rfl) h (fun s7 h => ?_)
  refine Ev.aload_n H63 i63_77 rfl ?_
  refine Rd.getR H63 i63_78 (ob6 mb) rfl ?_
  refine Ev.iconst H63 i63_81 kI_0 ?_
  refine Ev.aload_n H63 i63_82 rfl ?_
  refine Rd.getR H63 i63_83 (ob6 ma) rfl ?_
  refine Ev.iconst H63 i63_86 kI_0 ?_
  refine Ev.bipush H63 i63_87 kB_8 ?_
  refine Rd.copy H63 i63_89 (ar6_4 mb) (ar6_4 ma) (Nat.le_of_ble_eq_true rfl) h (fun s8 h => ?_)
  refine Ev.aload_n H63 i63_92 rfl ?_
  refine Rd.getR H63 i63_93 (ob6 mb) rfl ?_
  refine Ev.iconst H63 i63_96 kI_0 ?_
  refine Ev.aload_n H63 i63_97 rfl ?_
  refine Rd.getR H63 i63_98 (ob6 ma) rfl ?_
  refine Ev.iconst H63 i63_101 kI_0 ?_
  refine Ev.bipush H63 i63_102 kB_8 ?_
  refine Rd.copy H63 i63_104 (ar6_5 mb) (ar6_5 ma) (Nat.le_of_ble_eq_true rfl) h (fun s9 h => ?_)
  refine Ev.aload_n H63 i63_107 rfl ?_
  refine Rd.getR H63 i63_108 (ob6 mb) rfl ?_
  refine Ev.iconst H63 i63_111 kI_0 ?_
  refine Ev.aload_n H63 i63_112 rfl ?_
  refine Rd.getR H63 i63_113 (ob6 ma) rfl ?_
  refine Ev.iconst H63 i63_116 kI_0 ?_
  refine Ev.bipush H63 i63_117 kB_8 ?_
  refine Rd.copy H63 i63_119 (ar6_6 mb) (ar6_6 ma) (Nat.le_of_ble_eq_true rfl) h (fun s10 h => ?_)
  refine Ev.aload_n H63 i63_122 rfl ?_
  refine Rd.getR H63 i63_123 (ob6 mb) rfl ?_
  refine Ev.iconst H63 i63_126 kI_0 ?_
  refine Ev.aload_n H63 i63_127 rfl ?_
  refine Rd.getR H63 i63_128 (ob6 ma) rfl ?_
  refine Ev.iconst H63 i63_131 kI_0 ?_
  refine Ev.bipush H63 i63_132 kB_8 ?_
  refine Rd.copy H63 i63_134 (ar6_7 mb) (ar6_7 ma) (Nat.le_of_ble_eq_true rfl) h (fun s11 h => ?_)
  refine Ev.aload_n H63 i63_137 rfl ?_
  refine Rd.getR H63 i63_138 (ob6 mb) rfl ?_
  refine Ev.iconst H63 i63_141 kI_0 ?_
  refine Ev.aload_n H63 i63_142 rfl ?_
  refine Rd.getR H63 i63_143 (ob6 ma) rfl ?_
  refine Ev.iconst H63 i63_146 kI_0 ?_
  refine Ev.bipush H63 i63_147 kB_8 ?_
  refine Rd.copy H63 i63_149 (ar6_8 mb) (ar6_8 ma) (Nat.le_of_ble_eq_true rfl) h (fun s12 h => ?_)
  refine Ev.aload_n H63 i63_152 rfl ?_
  refine Rd.getR H63 i63_153 (ob6 mb) rfl ?_
  refine Ev.iconst H63 i63_156 kI_0 ?_
  refine Ev.aload_n H63 i63_157 rfl ?_
  refine Rd.getR H63 i63_158 (ob6 ma) rfl ?_
  refine Ev.iconst H63 i63_161 kI_0 ?_
  refine Ev.bipush H63 i63_162 kB_8 ?_
  refine Rd.copy H63 i63_164 (ar6_9 mb) (ar6_9 ma) (Nat.le_of_ble_eq_true rfl) h (fun s13 h => ?_)
  refine Ev.aload_n H63 i63_167 rfl ?_
  refine Rd.getR H63 i63_168 (ob6 mb) rfl ?_
  refine Ev.iconst H63 i63_171 kI_0 ?_
  refine Ev.aload_n H63 i63_172 rfl ?_
  refine Rd.getR H63 i63_173 (ob6 ma) rfl ?_
  refine Ev.iconst H63 i63_176 kI_0 ?_
  refine Ev.bipush H63 i63_177 kB_8 ?_
  refine Rd.copy H63 i63_179 (ar6_10 mb) (ar6_10 ma) (Nat.le_of_ble_eq_true rfl) h (fun s14 h => ?_)
  refine Ev.aload_n H63 i63_182 rfl ?_
  refine Rd.getR H63 i63_183 (ob6 mb) rfl ?_
  refine Ev.iconst H63 i63_186 kI_0 ?_
  refine Ev.aload_n H63 i63_187 rfl ?_
  refine Rd.getR H63 i63_188 (ob6 ma) rfl ?_
  refine Ev.iconst H63 i63_191 kI_0 ?_
  refine Ev.bipush H63 i63_192 kB_80 ?_
  refine Rd.copy H63 i63_194 (ar6_11 mb) (ar6_11 ma) (Nat.le_of_ble_eq_true rfl) h (fun s15 h => ?_)
  exact Rd.return_ H63 i63_197 rfl h
theorem i64_0 : mm_cd 64 0 = some (.aload_n 0, 1, 0, 0) := rfl
theorem i64_1 : mm_cd 64 1 = some (.getfield 9, 3, ((6 : Nat) : Int), 0) := rfl
theorem i64_4 : mm_cd 64 4 = some (.iload_n 1, 1, 0, 0) := rfl
theorem i64_5 : mm_cd 64 5 = some (.ishr, 1, 0, 0) := rfl
theorem i64_6 : mm_cd 64 6 = some (.iconst 1, 1, 0, 0) := rfl
theorem i64_7 : mm_cd 64 7 = some (.iand, 1, 0, 0) := rfl
theorem i64_8 : mm_cd 64 8 = some (.ifCond .eq 7, 3, 0, 0) := rfl
theorem i64_11 : mm_cd 64 11 = some (.iconst 1, 1, 0, 0) := rfl
theorem i64_12 : mm_cd 64 12 = some (.goto 4, 3, 0, 0) := rfl
theorem i64_15 : mm_cd 64 15 = some (.iconst 0, 1, 0, 0) := rfl
theorem i64_16 : mm_cd 64 16 = some (.ireturn, 1, 0, 0) := rfl
/-- SerialGate$Slots.isRunning(I)Z -/
def q64 (a : Nat) (v1 : Int32) (s : mS) : Option mQ := if ((shrI (s.1 a 0) v1) &&& (1 : Int32)) = 0 then (rv (0 : Int32) s) else (rv (1 : Int32) s)
theorem c64 {L : Nat} {xs : Nat → Int32} {a : Nat} (ma : a ∈ A6) {v1 : Int32} {s : mS} {r : mQ} (h : q64 a v1 s = some r) : ∀ d, 0 ≤ d → Cl L xs d 64 [.ref a, .int v1] (hp s) (hr r) := by
  intro d hd
  show Ev L xs d 64 0 [(0, .ref a), (1, .int v1)] [] (hp s) (hr r)
  unfold q64 at h
  refine Ev.aload_n H64 i64_0 rfl ?_
  refine Rd.getI H64 i64_1 (ob6 ma) rfl ?_
  refine Ev.iload_n H64 i64_4 rfl ?_
  refine Rd.ishr H64 i64_5 ?_
  refine Ev.iconst H64 i64_6 kI_1 ?_
  refine Ev.iand H64 i64_7 ?_
  refine Rd.if_eq H64 i64_8 (t := 15) (by decide) h (fun hc h => ?_) (fun hc h => ?_)
  · refine Ev.iconst H64 i64_15 kI_0 ?_
    exact Rd.ireturnK H64 i64_16 rfl (Or.inl rfl) h
  · refine Ev.iconst H64 i64_11 kI_1 ?_
    refine Ev.goto H64 i64_12 (t := 16) (by decide) ?_
    exact Rd.ireturnK H64 i64_16 rfl (Or.inr rfl) h
theorem i65_0 : mm_cd 65 0 = some (.aload_n 0, 1, 0, 0) := rfl
theorem i65_1 : mm_cd 65 1 = some (.getfield 9, 3, ((6 : Nat) : Int), 0) := rfl
theorem i65_4 : mm_cd 65 4 = some (.aload_n 0, 1, 0, 0) := rfl
theorem i65_5 : mm_cd 65 5 = some (.getfield 15, 3, ((6 : Nat) : Int), 1) := rfl
theorem i65_8 : mm_cd 65 8 = some (.ior, 1, 0, 0) := rfl
theorem i65_9 : mm_cd 65 9 = some (.iload_n 1, 1, 0, 0) := rfl
theorem i65_10 : mm_cd 65 10 = some (.ishr, 1, 0, 0) := rfl
theorem i65_11 : mm_cd 65 11 = some (.iconst 1, 1, 0, 0) := rfl
theorem i65_12 : mm_cd 65 12 = some (.iand, 1, 0, 0) := rfl
theorem i65_13 : mm_cd 65 13 = some (.ifCond .eq 7, 3, 0, 0) := rfl
theorem i65_16 : mm_cd 65 16 = some (.iconst 1, 1, 0, 0) := rfl
theorem i65_17 : mm_cd 65 17 = some (.goto 4, 3, 0, 0) := rfl
theorem i65_20 : mm_cd 65 20 = some (.iconst 0, 1, 0, 0) := rfl
theorem i65_21 : mm_cd 65 21 = some (.ireturn, 1, 0, 0) := rfl
/-- SerialGate$Slots.isUsed(I)Z -/
def q65 (a : Nat) (v1 : Int32) (s : mS) : Option mQ := if ((shrI ((s.1 a 0) ||| (s.1 a 1)) v1) &&& (1 : Int32)) = 0 then (rv (0 : Int32) s) else (rv (1 : Int32) s)
theorem c65 {L : Nat} {xs : Nat → Int32} {a : Nat} (ma : a ∈ A6) {v1 : Int32} {s : mS} {r : mQ} (h : q65 a v1 s = some r) : ∀ d, 0 ≤ d → Cl L xs d 65 [.ref a, .int v1] (hp s) (hr r) := by
  intro d hd
  show Ev L xs d 65 0 [(0, .ref a), (1, .int v1)] [] (hp s) (hr r)
  unfold q65 at h
  refine Ev.aload_n H65 i65_0 rfl ?_
  refine Rd.getI H65 i65_1 (ob6 ma) rfl ?_
  refine Ev.aload_n H65 i65_4 rfl ?_
  refine Rd.getI H65 i65_5 (ob6 ma) rfl ?_
  refine Ev.ior H65 i65_8 ?_
  refine Ev.iload_n H65 i65_9 rfl ?_
  refine Rd.ishr H65 i65_10 ?_
  refine Ev.iconst H65 i65_11 kI_1 ?_
  refine Ev.iand H65 i65_12 ?_
  refine Rd.if_eq H65 i65_13 (t := 20) (by decide) h (fun hc h => ?_) (fun hc h => ?_)
  · refine Ev.iconst H65 i65_20 kI_0 ?_
    exact Rd.ireturnK H65 i65_21 rfl (Or.inl rfl) h
  · refine Ev.iconst H65 i65_16 kI_1 ?_
    refine Ev.goto H65 i65_17 (t := 21) (by decide) ?_
    exact Rd.ireturnK H65 i65_21 rfl (Or.inr rfl) h
theorem i66_0 : mm_cd 66 0 = some (.aload_n 0, 1, 0, 0) := rfl
theorem i66_1 : mm_cd 66 1 = some (.getfield 18, 3, ((6 : Nat) : Int), 2) := rfl
theorem i66_4 : mm_cd 66 4 = some (.iload_n 1, 1, 0, 0) := rfl
theorem i66_5 : mm_cd 66 5 = some (.ishr, 1, 0, 0) := rfl
theorem i66_6 : mm_cd 66 6 = some (.iconst 1, 1, 0, 0) := rfl
theorem i66_7 : mm_cd 66 7 = some (.iand, 1, 0, 0) := rfl
theorem i66_8 : mm_cd 66 8 = some (.ifCond .eq 7, 3, 0, 0) := rfl
theorem i66_11 : mm_cd 66 11 = some (.iconst 1, 1, 0, 0) := rfl
theorem i66_12 : mm_cd 66 12 = some (.goto 4, 3, 0, 0) := rfl
theorem i66_15 : mm_cd 66 15 = some (.iconst 0, 1, 0, 0) := rfl
theorem i66_16 : mm_cd 66 16 = some (.ireturn, 1, 0, 0) := rfl
/-- SerialGate$Slots.isOnly(I)Z -/
def q66 (a : Nat) (v1 : Int32) (s : mS) : Option mQ := if ((shrI (s.1 a 2) v1) &&& (1 : Int32)) = 0 then (rv (0 : Int32) s) else (rv (1 : Int32) s)
theorem c66 {L : Nat} {xs : Nat → Int32} {a : Nat} (ma : a ∈ A6) {v1 : Int32} {s : mS} {r : mQ} (h : q66 a v1 s = some r) : ∀ d, 0 ≤ d → Cl L xs d 66 [.ref a, .int v1] (hp s) (hr r) := by
  intro d hd
  show Ev L xs d 66 0 [(0, .ref a), (1, .int v1)] [] (hp s) (hr r)
  unfold q66 at h
  refine Ev.aload_n H66 i66_0 rfl ?_
  refine Rd.getI H66 i66_1 (ob6 ma) rfl ?_
  refine Ev.iload_n H66 i66_4 rfl ?_
  refine Rd.ishr H66 i66_5 ?_
  refine Ev.iconst H66 i66_6 kI_1 ?_
  refine Ev.iand H66 i66_7 ?_
  refine Rd.if_eq H66 i66_8 (t := 15) (by decide) h (fun hc h => ?_) (fun hc h => ?_)
  · refine Ev.iconst H66 i66_15 kI_0 ?_
    exact Rd.ireturnK H66 i66_16 rfl (Or.inl rfl) h
  · refine Ev.iconst H66 i66_11 kI_1 ?_
    refine Ev.goto H66 i66_12 (t := 16) (by decide) ?_
    exact Rd.ireturnK H66 i66_16 rfl (Or.inr rfl) h
theorem i67_0 : mm_cd 67 0 = some (.aload_n 0, 1, 0, 0) := rfl
theorem i67_1 : mm_cd 67 1 = some (.getfield 21, 3, ((6 : Nat) : Int), 3) := rfl
theorem i67_4 : mm_cd 67 4 = some (.iload_n 1, 1, 0, 0) := rfl
theorem i67_5 : mm_cd 67 5 = some (.ishr, 1, 0, 0) := rfl
theorem i67_6 : mm_cd 67 6 = some (.iconst 1, 1, 0, 0) := rfl
theorem i67_7 : mm_cd 67 7 = some (.iand, 1, 0, 0) := rfl
theorem i67_8 : mm_cd 67 8 = some (.ifCond .eq 7, 3, 0, 0) := rfl
theorem i67_11 : mm_cd 67 11 = some (.iconst 1, 1, 0, 0) := rfl
theorem i67_12 : mm_cd 67 12 = some (.goto 4, 3, 0, 0) := rfl
theorem i67_15 : mm_cd 67 15 = some (.iconst 0, 1, 0, 0) := rfl
theorem i67_16 : mm_cd 67 16 = some (.ireturn, 1, 0, 0) := rfl
/-- SerialGate$Slots.isSpoilt(I)Z -/
def q67 (a : Nat) (v1 : Int32) (s : mS) : Option mQ := if ((shrI (s.1 a 3) v1) &&& (1 : Int32)) = 0 then (rv (0 : Int32) s) else (rv (1 : Int32) s)
theorem c67 {L : Nat} {xs : Nat → Int32} {a : Nat} (ma : a ∈ A6) {v1 : Int32} {s : mS} {r : mQ} (h : q67 a v1 s = some r) : ∀ d, 0 ≤ d → Cl L xs d 67 [.ref a, .int v1] (hp s) (hr r) := by
  intro d hd
  show Ev L xs d 67 0 [(0, .ref a), (1, .int v1)] [] (hp s) (hr r)
  unfold q67 at h
  refine Ev.aload_n H67 i67_0 rfl ?_
  refine Rd.getI H67 i67_1 (ob6 ma) rfl ?_
  refine Ev.iload_n H67 i67_4 rfl ?_
  refine Rd.ishr H67 i67_5 ?_
  refine Ev.iconst H67 i67_6 kI_1 ?_
  refine Ev.iand H67 i67_7 ?_
  refine Rd.if_eq H67 i67_8 (t := 15) (by decide) h (fun hc h => ?_) (fun hc h => ?_)
  · refine Ev.iconst H67 i67_15 kI_0 ?_
    exact Rd.ireturnK H67 i67_16 rfl (Or.inl rfl) h
  · refine Ev.iconst H67 i67_11 kI_1 ?_
    refine Ev.goto H67 i67_12 (t := 16) (by decide) ?_
    exact Rd.ireturnK H67 i67_16 rfl (Or.inr rfl) h
theorem i68_0 : mm_cd 68 0 = some (.aload_n 0, 1, 0, 0) := rfl
theorem i68_1 : mm_cd 68 1 = some (.getfield 9, 3, ((6 : Nat) : Int), 0) := rfl
theorem i68_4 : mm_cd 68 4 = some (.aload_n 0, 1, 0, 0) := rfl
theorem i68_5 : mm_cd 68 5 = some (.getfield 18, 3, ((6 : Nat) : Int), 2) := rfl
theorem i68_8 : mm_cd 68 8 = some (.iand, 1, 0, 0) := rfl
theorem i68_9 : mm_cd 68 9 = some (.aload_n 0, 1, 0, 0) := rfl
theorem i68_10 : mm_cd 68 10 = some (.getfield 21, 3, ((6 : Nat) : Int), 3) := rfl
theorem i68_13 : mm_cd 68 13 = some (.iconst (-1), 1, 0, 0) := rfl
theorem i68_14 : mm_cd 68 14 = some (.ixor, 1, 0, 0) := rfl
theorem i68_15 : mm_cd 68 15 = some (.iand, 1, 0, 0) := rfl
theorem i68_16 : mm_cd 68 16 = some (.iconst 1, 1, 0, 0) := rfl
theorem i68_17 : mm_cd 68 17 = some (.iload_n 1, 1, 0, 0) := rfl
theorem i68_18 : mm_cd 68 18 = some (.ishl, 1, 0, 0) := rfl
theorem i68_19 : mm_cd 68 19 = some (.iand, 1, 0, 0) := rfl
theorem i68_20 : mm_cd 68 20 = some (.ifCond .ne 5, 3, 0, 0) := rfl
theorem i68_23 : mm_cd 68 23 = some (.iconst 0, 1, 0, 0) := rfl
theorem i68_24 : mm_cd 68 24 = some (.ireturn, 1, 0, 0) := rfl
theorem i68_25 : mm_cd 68 25 = some (.aload_n 0, 1, 0, 0) := rfl
theorem i68_26 : mm_cd 68 26 = some (.getfield 9, 3, ((6 : Nat) : Int), 0) := rfl
theorem i68_29 : mm_cd 68 29 = some (.aload_n 0, 1, 0, 0) := rfl
theorem i68_30 : mm_cd 68 30 = some (.getfield 18, 3, ((6 : Nat) : Int), 2) := rfl
theorem i68_33 : mm_cd 68 33 = some (.iconst (-1), 1, 0, 0) := rfl
theorem i68_34 : mm_cd 68 34 = some (.ixor, 1, 0, 0) := rfl
theorem i68_35 : mm_cd 68 35 = some (.iand, 1, 0, 0) := rfl
theorem i68_36 : mm_cd 68 36 = some (.istore_n 2, 1, 0, 0) := rfl
theorem i68_37 : mm_cd 68 37 = some (.iconst 0, 1, 0, 0) := rfl
theorem i68_38 : mm_cd 68 38 = some (.istore_n 3, 1, 0, 0) := rfl
theorem i68_39 : mm_cd 68 39 = some (.iload_n 3, 1, 0, 0) := rfl
theorem i68_40 : mm_cd 68 40 = some (.bipush 8, 2, 0, 0) := rfl
theorem i68_42 : mm_cd 68 42 = some (.if_icmp .ge 34, 3, 0, 0) := rfl
theorem i68_45 : mm_cd 68 45 = some (.iload_n 2, 1, 0, 0) := rfl
theorem i68_46 : mm_cd 68 46 = some (.iload_n 3, 1, 0, 0) := rfl
theorem i68_47 : mm_cd 68 47 = some (.ishr, 1, 0, 0) := rfl
theorem i68_48 : mm_cd 68 48 = some (.iconst 1, 1, 0, 0) := rfl
theorem i68_49 : mm_cd 68 49 = some (.iand, 1, 0, 0) := rfl
theorem i68_50 : mm_cd 68 50 = some (.ifCond .eq 20, 3, 0, 0) := rfl
theorem i68_53 : mm_cd 68 53 = some (.aload_n 0, 1, 0, 0) := rfl
theorem i68_54 : mm_cd 68 54 = some (.getfield 28, 3, ((6 : Nat) : Int), 5) := rfl
theorem i68_57 : mm_cd 68 57 = some (.iload_n 3, 1, 0, 0) := rfl
theorem i68_58 : mm_cd 68 58 = some (.iaload, 1, 0, 0) := rfl
theorem i68_59 : mm_cd 68 59 = some (.aload_n 0, 1, 0, 0) := rfl
theorem i68_60 : mm_cd 68 60 = some (.getfield 28, 3, ((6 : Nat) : Int), 5) := rfl
theorem i68_63 : mm_cd 68 63 = some (.iload_n 1, 1, 0, 0) := rfl
theorem i68_64 : mm_cd 68 64 = some (.iaload, 1, 0, 0) := rfl
theorem i68_65 : mm_cd 68 65 = some (.if_icmp .ge 5, 3, 0, 0) := rfl
theorem i68_68 : mm_cd 68 68 = some (.iconst 0, 1, 0, 0) := rfl
theorem i68_69 : mm_cd 68 69 = some (.ireturn, 1, 0, 0) := rfl
theorem i68_70 : mm_cd 68 70 = some (.iinc 3 1, 3, 0, 0) := rfl
theorem i68_73 : mm_cd 68 73 = some (.goto (-34), 3, 0, 0) := rfl
theorem i68_76 : mm_cd 68 76 = some (.iconst 1, 1, 0, 0) := rfl
theorem i68_77 : mm_cd 68 77 = some (.ireturn, 1, 0, 0) := rfl
def q68_70 (k39 : Int32 → Int32 → Int32 → mS → Option mQ) (a : Nat) (v1 : Int32) (v2 : Int32) (v3 : Int32) (s : mS) : Option mQ := bx (v3 + (1 : Int32)) fun x1 => k39 v1 v2 x1 s
theorem t68_70 {L : Nat} {xs : Nat → Int32} {d : Nat} {k39 : Int32 → Int32 → Int32 → mS → Option mQ} {a : Nat} (hk39 : ∀ (v1 : Int32) (v2 : Int32) (v3 : Int32) (s : mS) (r : mQ), k39 v1 v2 v3 s = some r → Ev L xs d 68 39 [(0, .ref a), (1, .int v1), (2, .int v2), (3, .int v3)] [] (hp s) (hr r)) (ma : a ∈ A6) (hd : 0 ≤ d) {v1 : Int32} {v2 : Int32} {v3 : Int32} {s : mS} {r : mQ} (h : q68_70 k39 a v1 v2 v3 s = some r) : Ev L xs d 68 70 [(0, .ref a), (1, .int v1), (2, .int v2), (3, .int v3)] [] (hp s) (hr r) := by
  unfold q68_70 at h
  refine Rd.iinc H68 i68_70 (Nat.le_of_ble_eq_true rfl) rfl kI_1 (lv2 := fun x1 => [(3, .int x1), (0, .ref a), (1, .int v1), (2, .int v2)]) (fun _ => rfl) h (fun x1 h => ?_)
  refine Ev.goto H68 i68_73 (t := 39) (by decide) ?_
  exact Ev.sub (l := [(0, .ref a), (1, .int v1), (2, .int v2), (3, .int x1)]) rfl rfl (mm_sub_c rfl (mm_sub_c rfl (mm_sub_c rfl (mm_sub_c rfl mm_sub_n)))) (hk39 _ _ _ _ _ h)
def q68_39 (a : Nat) : Nat → Int32 → Int32 → Int32 → mS → Option mQ
  | 0, _, _, _, _ => none
  | n + 1, v1, v2, v3, s => if (8 : Int32) ≤ v3 then (rv (1 : Int32) s) else (if ((shrI v2 v3) &&& (1 : Int32)) = 0 then (q68_70 (q68_39 a n) a v1 v2 v3 s) else (gA 8 v3 <| gA 8 v1 <| if (s.1 (a + 2) v1.toNatClampNeg) ≤ (s.1 (a + 2) v3.toNatClampNeg) then (q68_70 (q68_39 a n) a v1 v2 v3 s) else (rv (0 : Int32) s)))
theorem t68_39 {L : Nat} {xs : Nat → Int32} {d : Nat} {a : Nat} (ma : a ∈ A6) (hd : 0 ≤ d) : ∀ (n : Nat) (v1 : Int32) (v2 : Int32) (v3 : Int32) (s : mS) (r : mQ), q68_39 a n v1 v2 v3 s = some r → Ev L xs d 68 39 [(0, .ref a), (1, .int v1), (2, .int v2), (3, .int v3)] [] (hp s) (hr r) := by
  intro n
  induction n with
  | zero => intro v1 v2 v3 s r h; rw [q68_39] at h; cases h
  | succ n ih =>
    intro v1 v2 v3 s r h
    rw [q68_39] at h
    refine Ev.iload_n H68 i68_39 rfl ?_
    refine Ev.bipush H68 i68_40 kB_8 ?_
    refine Rd.ic_ge H68 i68_42 (t := 76) (by decide) h (fun hc h => ?_) (fun hc h => ?_)
    · refine Ev.iconst H68 i68_76 kI_1 ?_
      exact Rd.ireturnK H68 i68_77 rfl (Or.inr rfl) h
    · refine Ev.iload_n H68 i68_45 rfl ?_
      refine Ev.iload_n H68 i68_46 rfl ?_
      refine Rd.ishr H68 i68_47 ?_
      refine Ev.iconst H68 i68_48 kI_1 ?_
      refine Ev.iand H68 i68_49 ?_
      refine Rd.if_eq H68 i68_50 (t := 70) (by decide) h (fun hc h => ?_) (fun hc h => ?_)
      · exact Ev.sub (l := [(0, .ref a), (1, .int v1), (2, .int v2), (3, .int v3)]) rfl rfl (mm_sub_c rfl (mm_sub_c rfl (mm_sub_c rfl (mm_sub_c rfl mm_sub_n)))) (t68_70 (k39 := (q68_39 a n)) (fun _ _ _ _ _ h => ih _ _ _ _ _ h) ma hd h)
      · refine Ev.aload_n H68 i68_53 rfl ?_
        refine Rd.getR H68 i68_54 (ob6 ma) rfl ?_
        refine Ev.iload_n H68 i68_57 rfl ?_
        refine Rd.iaload H68 i68_58 (ar6_2 ma) h (fun h => ?_)
        refine Ev.aload_n H68 i68_59 rfl ?_
        refine Rd.getR H68 i68_60 (ob6 ma) rfl ?_
        refine Ev.iload_n H68 i68_63 rfl ?_
        refine Rd.iaload H68 i68_64 (ar6_2 ma) h (fun h => ?_)
        refine Rd.ic_ge H68 i68_65 (t := 70) (by decide) h (fun hc h => ?_) (fun hc h => ?_)
        · exact Ev.sub (l := [(0, .ref a), (1, .int v1), (2, .int v2), (3, .int v3)]) rfl rfl (mm_sub_c rfl (mm_sub_c rfl (mm_sub_c rfl (mm_sub_c rfl mm_sub_n)))) (t68_70 (k39 := (q68_39 a n)) (fun _ _ _ _ _ h => ih _ _ _ _ _ h) ma hd h)
        · refine Ev.iconst H68 i68_68 kI_0 ?_
          exact Rd.ireturnK H68 i68_69 rfl (Or.inl rfl) h
/-- SerialGate$Slots.isSafe(I)Z -/
def q68 (a : Nat) (v1 : Int32) (s : mS) : Option mQ := if ¬ ((((s.1 a 0) &&& (s.1 a 2)) &&& ((s.1 a 3) ^^^ (-1 : Int32))) &&& (shlI (1 : Int32) v1)) = 0 then (bx ((s.1 a 0) &&& ((s.1 a 2) ^^^ (-1 : Int32))) fun x2 => q68_39 a 10000 v1 x2 (0 : Int32) s) else (rv (0 : Int32) s)
theorem c68 {L : Nat} {xs : Nat → Int32} {a : Nat} (ma : a ∈ A6) {v1 : Int32} {s : mS} {r : mQ} (h : q68 a v1 s = some r) : ∀ d, 0 ≤ d → Cl L xs d 68 [.ref a, .int v1] (hp s) (hr r) := by
  intro d hd
  show Ev L xs d 68 0 [(0, .ref a), (1, .int v1)] [] (hp s) (hr r)
  unfold q68 at h
  refine Ev.aload_n H68 i68_0 rfl ?_
  refine Rd.getI H68 i68_1 (ob6 ma) rfl ?_
  refine Ev.aload_n H68 i68_4 rfl ?_
  refine Rd.getI H68 i68_5 (ob6 ma) rfl ?_
  refine Ev.iand H68 i68_8 ?_
  refine Ev.aload_n H68 i68_9 rfl ?_
  refine Rd.getI H68 i68_10 (ob6 ma) rfl ?_
  refine Ev.iconst H68 i68_13 kI_m1 ?_
  refine Ev.ixor H68 i68_14 ?_
  refine Ev.iand H68 i68_15 ?_
  refine Ev.iconst H68 i68_16 kI_1 ?_
  refine Ev.iload_n H68 i68_17 rfl ?_
  refine Rd.ishl H68 i68_18 ?_
  refine Ev.iand H68 i68_19 ?_
  refine Rd.if_ne H68 i68_20 (t := 25) (by decide) h (fun hc h => ?_) (fun hc h => ?_)
  · refine Ev.aload_n H68 i68_25 rfl ?_
    refine Rd.getI H68 i68_26 (ob6 ma) rfl ?_
    refine Ev.aload_n H68 i68_29 rfl ?_
    refine Rd.getI H68 i68_30 (ob6 ma) rfl ?_
    refine Ev.iconst H68 i68_33 kI_m1 ?_
    refine Ev.ixor H68 i68_34 ?_
    refine Ev.iand H68 i68_35 ?_
    refine Rd.istore_n H68 i68_36 (Nat.le_of_ble_eq_true rfl) (lv2 := fun x2 => [(2, .int x2), (0, .ref a), (1, .int v1)]) (fun _ => rfl) h (fun x2 h => ?_)
    refine Ev.iconst H68 i68_37 kI_0 ?_
    refine Ev.istore_n H68 i68_38 (Nat.le_of_ble_eq_true rfl) (lv2 := [(3, .int (0 : Int32)), (2, .int x2), (0, .ref a), (1, .int v1)]) rfl ?_
    exact Ev.sub (l := [(0, .ref a), (1, .int v1), (2, .int x2), (3, .int (0 : Int32))]) rfl rfl (mm_sub_c rfl (mm_sub_c rfl (mm_sub_c rfl (mm_sub_c rfl mm_sub_n)))) (t68_39 ma hd 10000 _ _ _ _ _ h)
  · refine Ev.iconst H68 i68_23 kI_0 ?_
    exact Rd.ireturnK H68 i68_24 rfl (Or.inl rfl) h
theorem i69_0 : mm_cd 69 0 = some (.aload_n 0, 1, 0, 0) := rfl
theorem i69_1 : mm_cd 69 1 = some (.getfield 52, 3, ((6 : Nat) : Int), 13) := rfl
theorem i69_4 : mm_cd 69 4 = some (.iload_n 1, 1, 0, 0) := rfl
theorem i69_5 : mm_cd 69 5 = some (.iaload, 1, 0, 0) := rfl
theorem i69_6 : mm_cd 69 6 = some (.ifCond .ne 12, 3, 0, 0) := rfl
theorem i69_9 : mm_cd 69 9 = some (.aload_n 0, 1, 0, 0) := rfl
theorem i69_10 : mm_cd 69 10 = some (.getfield 46, 3, ((6 : Nat) : Int), 11) := rfl
theorem i69_13 : mm_cd 69 13 = some (.iload_n 1, 1, 0, 0) := rfl
theorem i69_14 : mm_cd 69 14 = some (.iaload, 1, 0, 0) := rfl
theorem i69_15 : mm_cd 69 15 = some (.ifCond .le 25, 3, 0, 0) := rfl
theorem i69_18 : mm_cd 69 18 = some (.aload_n 0, 1, 0, 0) := rfl
theorem i69_19 : mm_cd 69 19 = some (.getfield 49, 3, ((6 : Nat) : Int), 12) := rfl
theorem i69_22 : mm_cd 69 22 = some (.iload_n 1, 1, 0, 0) := rfl
theorem i69_23 : mm_cd 69 23 = some (.iaload, 1, 0, 0) := rfl
theorem i69_24 : mm_cd 69 24 = some (.ifCond .ne 12, 3, 0, 0) := rfl
theorem i69_27 : mm_cd 69 27 = some (.aload_n 0, 1, 0, 0) := rfl
theorem i69_28 : mm_cd 69 28 = some (.getfield 43, 3, ((6 : Nat) : Int), 10) := rfl
theorem i69_31 : mm_cd 69 31 = some (.iload_n 1, 1, 0, 0) := rfl
theorem i69_32 : mm_cd 69 32 = some (.iaload, 1, 0, 0) := rfl
theorem i69_33 : mm_cd 69 33 = some (.ifCond .le 7, 3, 0, 0) := rfl
theorem i69_36 : mm_cd 69 36 = some (.iconst 1, 1, 0, 0) := rfl
theorem i69_37 : mm_cd 69 37 = some (.goto 4, 3, 0, 0) := rfl
theorem i69_40 : mm_cd 69 40 = some (.iconst 0, 1, 0, 0) := rfl
theorem i69_41 : mm_cd 69 41 = some (.ireturn, 1, 0, 0) := rfl
def q69_36 (a : Nat) (s : mS) : Option mQ := rv (1 : Int32) s
theorem t69_36 {L : Nat} {xs : Nat → Int32} {d : Nat} {a : Nat} (ma : a ∈ A6) (hd : 0 ≤ d) {s : mS} {r : mQ} (h : q69_36 a s = some r) : Ev L xs d 69 36 [] [] (hp s) (hr r) := by
  unfold q69_36 at h
  refine Ev.iconst H69 i69_36 kI_1 ?_
  refine Ev.goto H69 i69_37 (t := 41) (by decide) ?_
  exact Rd.ireturnK H69 i69_41 rfl (Or.inr rfl) h
def q69_18 (a : Nat) (v1 : Int32) (s : mS) : Option mQ := gA 8 v1 <| if ¬ (s.1 (a + 9) v1.toNatClampNeg) = 0 then (q69_36 a s) else (gA 8 v1 <| if (s.1 (a + 7) v1.toNatClampNeg) ≤ 0 then (rv (0 : Int32) s) else (q69_36 a s))
theorem t69_18 {L : Nat} {xs : Nat → Int32} {d : Nat} {a : Nat} (ma : a ∈ A6) (hd : 0 ≤ d) {v1 : Int32} {s : mS} {r : mQ} (h : q69_18 a v1 s = some r) : Ev L xs d 69 18 [(0, .ref a), (1, .int v1)] [] (hp s) (hr r) := by
  unfold q69_18 at h
  refine Ev.aload_n H69 i69_18 rfl ?_
  refine Rd.getR H69 i69_19 (ob6 ma) rfl ?_
  refine Ev.iload_n H69 i69_22 rfl ?_
  refine Rd.iaload H69 i69_23 (ar6_9 ma) h (fun h => ?_)
  refine Rd.if_ne H69 i69_24 (t := 36) (by decide) h (fun hc h => ?_) (fun hc h => ?_)
  · exact Ev.sub (l := []) rfl rfl mm_sub_n (t69_36 ma hd h)
  · refine Ev.aload_n H69 i69_27 rfl ?_
    refine Rd.getR H69 i69_28 (ob6 ma) rfl ?_
    refine Ev.iload_n H69 i69_31 rfl ?_
    refine Rd.iaload H69 i69_32 (ar6_7 ma) h (fun h => ?_)
    refine Rd.if_le H69 i69_33 (t := 40) (by decide) h (fun hc h => ?_) (fun hc h => ?_)
    · refine Ev.iconst H69 i69_40 kI_0 ?_
      exact Rd.ireturnK H69 i69_41 rfl (Or.inl rfl) h
    · exact Ev.sub (l := []) rfl rfl mm_sub_n (t69_36 ma hd h)
/-- SerialGate$Slots.isPivot(I)Z -/
def q69 (a : Nat) (v1 : Int32) (s : mS) : Option mQ := gA 8 v1 <| if ¬ (s.1 (a + 10) v1.toNatClampNeg) = 0 then (q69_18 a v1 s) else (gA 8 v1 <| if (s.1 (a + 8) v1.toNatClampNeg) ≤ 0 then (rv (0 : Int32) s) else (q69_18 a v1 s))
theorem c69 {L : Nat} {xs : Nat → Int32} {a : Nat} (ma : a ∈ A6) {v1 : Int32} {s : mS} {r : mQ} (h : q69 a v1 s = some r) : ∀ d, 0 ≤ d → Cl L xs d 69 [.ref a, .int v1] (hp s) (hr r) := by
  intro d hd
  show Ev L xs d 69 0 [(0, .ref a), (1, .int v1)] [] (hp s) (hr r)
  unfold q69 at h
  refine Ev.aload_n H69 i69_0 rfl ?_
  refine Rd.getR H69 i69_1 (ob6 ma) rfl ?_
  refine Ev.iload_n H69 i69_4 rfl ?_
  refine Rd.iaload H69 i69_5 (ar6_10 ma) h (fun h => ?_)
  refine Rd.if_ne H69 i69_6 (t := 18) (by decide) h (fun hc h => ?_) (fun hc h => ?_)
  · exact Ev.sub (l := [(0, .ref a), (1, .int v1)]) rfl rfl (mm_sub_c rfl (mm_sub_c rfl mm_sub_n)) (t69_18 ma hd h)
  · refine Ev.aload_n H69 i69_9 rfl ?_
    refine Rd.getR H69 i69_10 (ob6 ma) rfl ?_
    refine Ev.iload_n H69 i69_13 rfl ?_
    refine Rd.iaload H69 i69_14 (ar6_8 ma) h (fun h => ?_)
    refine Rd.if_le H69 i69_15 (t := 40) (by decide) h (fun hc h => ?_) (fun hc h => ?_)
    · refine Ev.iconst H69 i69_40 kI_0 ?_
      exact Rd.ireturnK H69 i69_41 rfl (Or.inl rfl) h
    · exact Ev.sub (l := [(0, .ref a), (1, .int v1)]) rfl rfl (mm_sub_c rfl (mm_sub_c rfl mm_sub_n)) (t69_18 ma hd h)
theorem i70_0 : mm_cd 70 0 = some (.iconst 0, 1, 0, 0) := rfl
theorem i70_1 : mm_cd 70 1 = some (.istore_n 1, 1, 0, 0) := rfl
theorem i70_2 : mm_cd 70 2 = some (.iload_n 1, 1, 0, 0) := rfl
theorem i70_3 : mm_cd 70 3 = some (.bipush 8, 2, 0, 0) := rfl
theorem i70_5 : mm_cd 70 5 = some (.if_icmp .ge 19, 3, 0, 0) := rfl
theorem i70_8 : mm_cd 70 8 = some (.aload_n 0, 1, 0, 0) := rfl
theorem i70_9 : mm_cd 70 9 = some (.iload_n 1, 1, 0, 0) := rfl
theorem i70_10 : mm_cd 70 10 = some (.invokevirtual 64, 3, 0, 65) := rfl
theorem i70_13 : mm_cd 70 13 = some (.ifCond .ne 5, 3, 0, 0) := rfl
theorem i70_16 : mm_cd 70 16 = some (.iload_n 1, 1, 0, 0) := rfl
theorem i70_17 : mm_cd 70 17 = some (.ireturn, 1, 0, 0) := rfl
theorem i70_18 : mm_cd 70 18 = some (.iinc 1 1, 3, 0, 0) := rfl
theorem i70_21 : mm_cd 70 21 = some (.goto (-19), 3, 0, 0) := rfl
theorem i70_24 : mm_cd 70 24 = some (.iconst (-1), 1, 0, 0) := rfl
theorem i70_25 : mm_cd 70 25 = some (.ireturn, 1, 0, 0) := rfl
def q70_2 (a : Nat) : Nat → Int32 → mS → Option mQ
  | 0, _, _ => none
  | n + 1, v1, s => if (8 : Int32) ≤ v1 then (rv (-1 : Int32) s) else (bN (q65 a v1 s) fun x2 s1 => if ¬ x2 = 0 then (bx (v1 + (1 : Int32)) fun x3 => q70_2 a n x3 s1) else (rv v1 s1))
theorem t70_2 {L : Nat} {xs : Nat → Int32} {d : Nat} {a : Nat} (ma : a ∈ A6) (hd : 1 ≤ d) : ∀ (n : Nat) (v1 : Int32) (s : mS) (r : mQ), q70_2 a n v1 s = some r → Ev L xs d 70 2 [(0, .ref a), (1, .int v1)] [] (hp s) (hr r) := by
  intro n
  induction n with
  | zero => intro v1 s r h; rw [q70_2] at h; cases h
  | succ n ih =>
    intro v1 s r h
    rw [q70_2] at h
    refine Ev.iload_n H70 i70_2 rfl ?_
    refine Ev.bipush H70 i70_3 kB_8 ?_
    refine Rd.ic_ge H70 i70_5 (t := 24) (by decide) h (fun hc h => ?_) (fun hc h => ?_)
    · refine Ev.iconst H70 i70_24 kI_m1 ?_
      exact Rd.ireturn H70 i70_25 rfl h
    · refine Ev.aload_n H70 i70_8 rfl ?_
      refine Ev.iload_n H70 i70_9 rfl ?_
      refine Rd.cV1vN H70 i70_10 cal65 (ob6 ma) (Nat.le_of_ble_eq_true rfl) (Nat.le_of_ble_eq_true rfl) (Nat.lt_of_lt_of_le (by decide) hd) (fun q hq => c65 ma hq) h (fun x2 s1 h => ?_)
      refine Rd.if_ne H70 i70_13 (t := 18) (by decide) h (fun hc h => ?_) (fun hc h => ?_)
      · refine Rd.iinc H70 i70_18 (Nat.le_of_ble_eq_true rfl) rfl kI_1 (lv2 := fun x3 => [(1, .int x3), (0, .ref a)]) (fun _ => rfl) h (fun x3 h => ?_)
        refine Ev.goto H70 i70_21 (t := 2) (by decide) ?_
        exact Ev.sub (l := [(0, .ref a), (1, .int x3)]) rfl rfl (mm_sub_c rfl (mm_sub_c rfl mm_sub_n)) (ih _ _ _ h)
      · refine Ev.iload_n H70 i70_16 rfl ?_
        exact Rd.ireturn H70 i70_17 rfl h
/-- SerialGate$Slots.leastFree()I -/
def q70 (a : Nat) (s : mS) : Option mQ := q70_2 a 10000 (0 : Int32) s
theorem c70 {L : Nat} {xs : Nat → Int32} {a : Nat} (ma : a ∈ A6) {s : mS} {r : mQ} (h : q70 a s = some r) : ∀ d, 1 ≤ d → Cl L xs d 70 [.ref a] (hp s) (hr r) := by
  intro d hd
  show Ev L xs d 70 0 [(0, .ref a)] [] (hp s) (hr r)
  unfold q70 at h
  refine Ev.iconst H70 i70_0 kI_0 ?_
  refine Ev.istore_n H70 i70_1 (Nat.le_of_ble_eq_true rfl) (lv2 := [(1, .int (0 : Int32)), (0, .ref a)]) rfl ?_
  exact Ev.sub (l := [(0, .ref a), (1, .int (0 : Int32))]) rfl rfl (mm_sub_c rfl (mm_sub_c rfl mm_sub_n)) (t70_2 ma hd 10000 _ _ _ h)
theorem i71_0 : mm_cd 71 0 = some (.iconst 0, 1, 0, 0) := rfl
theorem i71_1 : mm_cd 71 1 = some (.istore_n 2, 1, 0, 0) := rfl
theorem i71_2 : mm_cd 71 2 = some (.iload_n 2, 1, 0, 0) := rfl
theorem i71_3 : mm_cd 71 3 = some (.bipush 8, 2, 0, 0) := rfl
theorem i71_5 : mm_cd 71 5 = some (.if_icmp .ge 32, 3, 0, 0) := rfl
theorem i71_8 : mm_cd 71 8 = some (.aload_n 0, 1, 0, 0) := rfl
theorem i71_9 : mm_cd 71 9 = some (.getfield 9, 3, ((6 : Nat) : Int), 0) := rfl
theorem i71_12 : mm_cd 71 12 = some (.iload_n 2, 1, 0, 0) := rfl
theorem i71_13 : mm_cd 71 13 = some (.ishr, 1, 0, 0) := rfl
theorem i71_14 : mm_cd 71 14 = some (.iconst 1, 1, 0, 0) := rfl
theorem i71_15 : mm_cd 71 15 = some (.iand, 1, 0, 0) := rfl
theorem i71_16 : mm_cd 71 16 = some (.ifCond .eq 15, 3, 0, 0) := rfl
theorem i71_19 : mm_cd 71 19 = some (.aload_n 0, 1, 0, 0) := rfl
theorem i71_20 : mm_cd 71 20 = some (.getfield 24, 3, ((6 : Nat) : Int), 4) := rfl
theorem i71_23 : mm_cd 71 23 = some (.iload_n 2, 1, 0, 0) := rfl
theorem i71_24 : mm_cd 71 24 = some (.iaload, 1, 0, 0) := rfl
theorem i71_25 : mm_cd 71 25 = some (.iload_n 1, 1, 0, 0) := rfl
theorem i71_26 : mm_cd 71 26 = some (.if_icmp .ne 5, 3, 0, 0) := rfl
theorem i71_29 : mm_cd 71 29 = some (.iload_n 2, 1, 0, 0) := rfl
theorem i71_30 : mm_cd 71 30 = some (.ireturn, 1, 0, 0) := rfl
theorem i71_31 : mm_cd 71 31 = some (.iinc 2 1, 3, 0, 0) := rfl
theorem i71_34 : mm_cd 71 34 = some (.goto (-32), 3, 0, 0) := rfl
theorem i71_37 : mm_cd 71 37 = some (.iconst (-1), 1, 0, 0) := rfl
theorem i71_38 : mm_cd 71 38 = some (.ireturn, 1, 0, 0) := rfl
def q71_31 (k2 : Int32 → Int32 → mS → Option mQ) (a : Nat) (v1 : Int32) (v2 : Int32) (s : mS) : Option mQ := bx (v2 + (1 : Int32)) fun x1 => k2 v1 x1 s
theorem t71_31 {L : Nat} {xs : Nat → Int32} {d : Nat} {k2 : Int32 → Int32 → mS → Option mQ} {a : Nat} (hk2 : ∀ (v1 : Int32) (v2 : Int32) (s : mS) (r : mQ), k2 v1 v2 s = some r → Ev L xs d 71 2 [(0, .ref a), (1, .int v1), (2, .int v2)] [] (hp s) (hr r)) (ma : a ∈ A6) (hd : 0 ≤ d) {v1 : Int32} {v2 : Int32} {s : mS} {r : mQ} (h : q71_31 k2 a v1 v2 s = some r) : Ev L xs d 71 31 [(0, .ref a), (1, .int v1), (2, .int v2)] [] (hp s) (hr r) := by
  unfold q71_31 at h
  refine Rd.iinc H71 i71_31 (Nat.le_of_ble_eq_true rfl) rfl kI_1 (lv2 := fun x1 => [(2, .int x1), (0, .ref a), (1, .int v1)]) (fun _ => rfl) h (fun x1 h => ?_)
  refine Ev.goto H71 i71_34 (t := 2) (by decide) ?_
  exact Ev.sub (l := [(0, .ref a), (1, .int v1), (2, .int x1)]) rfl rfl (mm_sub_c rfl (mm_sub_c rfl (mm_sub_c rfl mm_sub_n))) (hk2 _ _ _ _ h)
def q71_2 (a : Nat) : Nat → Int32 → Int32 → mS → Option mQ
  | 0, _, _, _ => none
  | n + 1, v1, v2, s => if (8 : Int32) ≤ v2 then (rv (-1 : Int32) s) else (if ((shrI (s.1 a 0) v2) &&& (1 : Int32)) = 0 then (q71_31 (q71_2 a n) a v1 v2 s) else (gA 8 v2 <| if ¬ (s.1 (a + 1) v2.toNatClampNeg) = v1 then (q71_31 (q71_2 a n) a v1 v2 s) else (rv v2 s)))
theorem t71_2 {L : Nat} {xs : Nat → Int32} {d : Nat} {a : Nat} (ma : a ∈ A6) (hd : 0 ≤ d) : ∀ (n : Nat) (v1 : Int32) (v2 : Int32) (s : mS) (r : mQ), q71_2 a n v1 v2 s = some r → Ev L xs d 71 2 [(0, .ref a), (1, .int v1), (2, .int v2)] [] (hp s) (hr r) := by
  intro n
  induction n with
  | zero => intro v1 v2 s r h; rw [q71_2] at h; cases h
  | succ n ih =>
    intro v1 v2 s r h
    rw [q71_2] at h
    refine Ev.iload_n H71 i71_2 rfl ?_
    refine Ev.bipush H71 i71_3 kB_8 ?_
    refine Rd.ic_ge H71 i71_5 (t := 37) (by decide) h (fun hc h => ?_) (fun hc h => ?_)
    · refine Ev.iconst H71 i71_37 kI_m1 ?_
      exact Rd.ireturn H71 i71_38 rfl h
    · refine Ev.aload_n H71 i71_8 rfl ?_
      refine Rd.getI H71 i71_9 (ob6 ma) rfl ?_
      refine Ev.iload_n H71 i71_12 rfl ?_
      refine Rd.ishr H71 i71_13 ?_
      refine Ev.iconst H71 i71_14 kI_1 ?_
      refine Ev.iand H71 i71_15 ?_
      refine Rd.if_eq H71 i71_16 (t := 31) (by decide) h (fun hc h => ?_) (fun hc h => ?_)
      · exact Ev.sub (l := [(0, .ref a), (1, .int v1), (2, .int v2)]) rfl rfl (mm_sub_c rfl (mm_sub_c rfl (mm_sub_c rfl mm_sub_n))) (t71_31 (k2 := (q71_2 a n)) (fun _ _ _ _ h => ih _ _ _ _ h) ma hd h)
      · refine Ev.aload_n H71 i71_19 rfl ?_
        refine Rd.getR H71 i71_20 (ob6 ma) rfl ?_
        refine Ev.iload_n H71 i71_23 rfl ?_
        refine Rd.iaload H71 i71_24 (ar6_1 ma) h (fun h => ?_)
        refine Ev.iload_n H71 i71_25 rfl ?_
        refine Rd.ic_ne H71 i71_26 (t := 31) (by decide) h (fun hc h => ?_) (fun hc h => ?_)
        · exact Ev.sub (l := [(0, .ref a), (1, .int v1), (2, .int v2)]) rfl rfl (mm_sub_c rfl (mm_sub_c rfl (mm_sub_c rfl mm_sub_n))) (t71_31 (k2 := (q71_2 a n)) (fun _ _ _ _ h => ih _ _ _ _ h) ma hd h)
        · refine Ev.iload_n H71 i71_29 rfl ?_
          exact Rd.ireturn H71 i71_30 rfl h
/-- SerialGate$Slots.runningOf(I)I -/
def q71 (a : Nat) (v1 : Int32) (s : mS) : Option mQ := q71_2 a 10000 v1 (0 : Int32) s
theorem c71 {L : Nat} {xs : Nat → Int32} {a : Nat} (ma : a ∈ A6) {v1 : Int32} {s : mS} {r : mQ} (h : q71 a v1 s = some r) : ∀ d, 0 ≤ d → Cl L xs d 71 [.ref a, .int v1] (hp s) (hr r) := by
  intro d hd
  show Ev L xs d 71 0 [(0, .ref a), (1, .int v1)] [] (hp s) (hr r)
  unfold q71 at h
  refine Ev.iconst H71 i71_0 kI_0 ?_
  refine Ev.istore_n H71 i71_1 (Nat.le_of_ble_eq_true rfl) (lv2 := [(2, .int (0 : Int32)), (0, .ref a), (1, .int v1)]) rfl ?_
  exact Ev.sub (l := [(0, .ref a), (1, .int v1), (2, .int (0 : Int32))]) rfl rfl (mm_sub_c rfl (mm_sub_c rfl (mm_sub_c rfl mm_sub_n))) (t71_2 ma hd 10000 _ _ _ _ h)
theorem i72_0 : mm_cd 72 0 = some (.iconst 0, 1, 0, 0) := rfl
theorem i72_1 : mm_cd 72 1 = some (.istore_n 2, 1, 0, 0) := rfl
theorem i72_2 : mm_cd 72 2 = some (.iload_n 2, 1, 0, 0) := rfl
theorem i72_3 : mm_cd 72 3 = some (.bipush 8, 2, 0, 0) := rfl
theorem i72_5 : mm_cd 72 5 = some (.if_icmp .ge 35, 3, 0, 0) := rfl
theorem i72_8 : mm_cd 72 8 = some (.aload_n 0, 1, 0, 0) := rfl
theorem i72_9 : mm_cd 72 9 = some (.getfield 9, 3, ((6 : Nat) : Int), 0) := rfl
theorem i72_12 : mm_cd 72 12 = some (.iload_n 2, 1, 0, 0) := rfl
theorem i72_13 : mm_cd 72 13 = some (.ishr, 1, 0, 0) := rfl
theorem i72_14 : mm_cd 72 14 = some (.iconst 1, 1, 0, 0) := rfl
theorem i72_15 : mm_cd 72 15 = some (.iand, 1, 0, 0) := rfl
theorem i72_16 : mm_cd 72 16 = some (.ifCond .eq 18, 3, 0, 0) := rfl
theorem i72_19 : mm_cd 72 19 = some (.aload_n 0, 1, 0, 0) := rfl
theorem i72_20 : mm_cd 72 20 = some (.getfield 40, 3, ((6 : Nat) : Int), 9) := rfl
theorem i72_23 : mm_cd 72 23 = some (.iload_n 2, 1, 0, 0) := rfl
theorem i72_24 : mm_cd 72 24 = some (.iaload, 1, 0, 0) := rfl
theorem i72_25 : mm_cd 72 25 = some (.iload_n 1, 1, 0, 0) := rfl
theorem i72_26 : mm_cd 72 26 = some (.ishr, 1, 0, 0) := rfl
theorem i72_27 : mm_cd 72 27 = some (.iconst 1, 1, 0, 0) := rfl
theorem i72_28 : mm_cd 72 28 = some (.iand, 1, 0, 0) := rfl
theorem i72_29 : mm_cd 72 29 = some (.ifCond .eq 5, 3, 0, 0) := rfl
theorem i72_32 : mm_cd 72 32 = some (.iload_n 2, 1, 0, 0) := rfl
theorem i72_33 : mm_cd 72 33 = some (.ireturn, 1, 0, 0) := rfl
theorem i72_34 : mm_cd 72 34 = some (.iinc 2 1, 3, 0, 0) := rfl
theorem i72_37 : mm_cd 72 37 = some (.goto (-35), 3, 0, 0) := rfl
theorem i72_40 : mm_cd 72 40 = some (.iconst (-1), 1, 0, 0) := rfl
theorem i72_41 : mm_cd 72 41 = some (.ireturn, 1, 0, 0) := rfl
def q72_34 (k2 : Int32 → Int32 → mS → Option mQ) (a : Nat) (v1 : Int32) (v2 : Int32) (s : mS) : Option mQ := bx (v2 + (1 : Int32)) fun x1 => k2 v1 x1 s
theorem t72_34 {L : Nat} {xs : Nat → Int32} {d : Nat} {k2 : Int32 → Int32 → mS → Option mQ} {a : Nat} (hk2 : ∀ (v1 : Int32) (v2 : Int32) (s : mS) (r : mQ), k2 v1 v2 s = some r → Ev L xs d 72 2 [(0, .ref a), (1, .int v1), (2, .int v2)] [] (hp s) (hr r)) (ma : a ∈ A6) (hd : 0 ≤ d) {v1 : Int32} {v2 : Int32} {s : mS} {r : mQ} (h : q72_34 k2 a v1 v2 s = some r) : Ev L xs d 72 34 [(0, .ref a), (1, .int v1), (2, .int v2)] [] (hp s) (hr r) := by
  unfold q72_34 at h
  refine Rd.iinc H72 i72_34 (Nat.le_of_ble_eq_true rfl) rfl kI_1 (lv2 := fun x1 => [(2, .int x1), (0, .ref a), (1, .int v1)]) (fun _ => rfl) h (fun x1 h => ?_)
  refine Ev.goto H72 i72_37 (t := 2) (by decide) ?_
  exact Ev.sub (l := [(0, .ref a), (1, .int v1), (2, .int x1)]) rfl rfl (mm_sub_c rfl (mm_sub_c rfl (mm_sub_c rfl mm_sub_n))) (hk2 _ _ _ _ h)
def q72_2 (a : Nat) : Nat → Int32 → Int32 → mS → Option mQ
  | 0, _, _, _ => none
  | n + 1, v1, v2, s => if (8 : Int32) ≤ v2 then (rv (-1 : Int32) s) else (if ((shrI (s.1 a 0) v2) &&& (1 : Int32)) = 0 then (q72_34 (q72_2 a n) a v1 v2 s) else (gA 8 v2 <| if ((shrI (s.1 (a + 6) v2.toNatClampNeg) v1) &&& (1 : Int32)) = 0 then (q72_34 (q72_2 a n) a v1 v2 s) else (rv v2 s)))
theorem t72_2 {L : Nat} {xs : Nat → Int32} {d : Nat} {a : Nat} (ma : a ∈ A6) (hd : 0 ≤ d) : ∀ (n : Nat) (v1 : Int32) (v2 : Int32) (s : mS) (r : mQ), q72_2 a n v1 v2 s = some r → Ev L xs d 72 2 [(0, .ref a), (1, .int v1), (2, .int v2)] [] (hp s) (hr r) := by
  intro n
  induction n with
  | zero => intro v1 v2 s r h; rw [q72_2] at h; cases h
  | succ n ih =>
    intro v1 v2 s r h
    rw [q72_2] at h
    refine Ev.iload_n H72 i72_2 rfl ?_
    refine Ev.bipush H72 i72_3 kB_8 ?_
    refine Rd.ic_ge H72 i72_5 (t := 40) (by decide) h (fun hc h => ?_) (fun hc h => ?_)
    · refine Ev.iconst H72 i72_40 kI_m1 ?_
      exact Rd.ireturn H72 i72_41 rfl h
    · refine Ev.aload_n H72 i72_8 rfl ?_
      refine Rd.getI H72 i72_9 (ob6 ma) rfl ?_
      refine Ev.iload_n H72 i72_12 rfl ?_
      refine Rd.ishr H72 i72_13 ?_
      refine Ev.iconst H72 i72_14 kI_1 ?_
      refine Ev.iand H72 i72_15 ?_
      refine Rd.if_eq H72 i72_16 (t := 34) (by decide) h (fun hc h => ?_) (fun hc h => ?_)
      · exact Ev.sub (l := [(0, .ref a), (1, .int v1), (2, .int v2)]) rfl rfl (mm_sub_c rfl (mm_sub_c rfl (mm_sub_c rfl mm_sub_n))) (t72_34 (k2 := (q72_2 a n)) (fun _ _ _ _ h => ih _ _ _ _ h) ma hd h)
      · refine Ev.aload_n H72 i72_19 rfl ?_
        refine Rd.getR H72 i72_20 (ob6 ma) rfl ?_
        refine Ev.iload_n H72 i72_23 rfl ?_
        refine Rd.iaload H72 i72_24 (ar6_6 ma) h (fun h => ?_)
        refine Ev.iload_n H72 i72_25 rfl ?_
        refine Rd.ishr H72 i72_26 ?_
        refine Ev.iconst H72 i72_27 kI_1 ?_
        refine Ev.iand H72 i72_28 ?_
        refine Rd.if_eq H72 i72_29 (t := 34) (by decide) h (fun hc h => ?_) (fun hc h => ?_)
        · exact Ev.sub (l := [(0, .ref a), (1, .int v1), (2, .int v2)]) rfl rfl (mm_sub_c rfl (mm_sub_c rfl (mm_sub_c rfl mm_sub_n))) (t72_34 (k2 := (q72_2 a n)) (fun _ _ _ _ h => ih _ _ _ _ h) ma hd h)
        · refine Ev.iload_n H72 i72_32 rfl ?_
          exact Rd.ireturn H72 i72_33 rfl h
/-- SerialGate$Slots.writerOf(I)I -/
def q72 (a : Nat) (v1 : Int32) (s : mS) : Option mQ := q72_2 a 10000 v1 (0 : Int32) s
theorem c72 {L : Nat} {xs : Nat → Int32} {a : Nat} (ma : a ∈ A6) {v1 : Int32} {s : mS} {r : mQ} (h : q72 a v1 s = some r) : ∀ d, 0 ≤ d → Cl L xs d 72 [.ref a, .int v1] (hp s) (hr r) := by
  intro d hd
  show Ev L xs d 72 0 [(0, .ref a), (1, .int v1)] [] (hp s) (hr r)
  unfold q72 at h
  refine Ev.iconst H72 i72_0 kI_0 ?_
  refine Ev.istore_n H72 i72_1 (Nat.le_of_ble_eq_true rfl) (lv2 := [(2, .int (0 : Int32)), (0, .ref a), (1, .int v1)]) rfl ?_
  exact Ev.sub (l := [(0, .ref a), (1, .int v1), (2, .int (0 : Int32))]) rfl rfl (mm_sub_c rfl (mm_sub_c rfl (mm_sub_c rfl mm_sub_n))) (t72_2 ma hd 10000 _ _ _ _ h)
theorem i73_0 : mm_cd 73 0 = some (.aload_n 0, 1, 0, 0) := rfl
theorem i73_1 : mm_cd 73 1 = some (.iload_n 2, 1, 0, 0) := rfl
theorem i73_2 : mm_cd 73 2 = some (.invokevirtual 68, 3, 0, 72) := rfl
theorem i73_5 : mm_cd 73 5 = some (.istore_n 3, 1, 0, 0) := rfl
theorem i73_6 : mm_cd 73 6 = some (.iload_n 3, 1, 0, 0) := rfl
theorem i73_7 : mm_cd 73 7 = some (.iconst (-1), 1, 0, 0) := rfl
theorem i73_8 : mm_cd 73 8 = some (.if_icmp .eq 12, 3, 0, 0) := rfl
theorem i73_11 : mm_cd 73 11 = some (.iload_n 3, 1, 0, 0) := rfl
theorem i73_12 : mm_cd 73 12 = some (.iload_n 1, 1, 0, 0) := rfl
theorem i73_13 : mm_cd 73 13 = some (.if_icmp .eq 7, 3, 0, 0) := rfl
theorem i73_16 : mm_cd 73 16 = some (.iconst 1, 1, 0, 0) := rfl
theorem i73_17 : mm_cd 73 17 = some (.goto 4, 3, 0, 0) := rfl
theorem i73_20 : mm_cd 73 20 = some (.iconst 0, 1, 0, 0) := rfl
theorem i73_21 : mm_cd 73 21 = some (.ireturn, 1, 0, 0) := rfl
/-- SerialGate$Slots.waitsFor(II)Z -/
def q73 (a : Nat) (v1 : Int32) (v2 : Int32) (s : mS) : Option mQ := bN (q72 a v2 s) fun x2 s1 => if x2 = (-1 : Int32) then (rv (0 : Int32) s1) else (if x2 = v1 then (rv (0 : Int32) s1) else (rv (1 : Int32) s1))
theorem c73 {L : Nat} {xs : Nat → Int32} {a : Nat} (ma : a ∈ A6) {v1 : Int32} {v2 : Int32} {s : mS} {r : mQ} (h : q73 a v1 v2 s = some r) : ∀ d, 1 ≤ d → Cl L xs d 73 [.ref a, .int v1, .int v2] (hp s) (hr r) := by
  intro d hd
  show Ev L xs d 73 0 [(0, .ref a), (1, .int v1), (2, .int v2)] [] (hp s) (hr r)
  unfold q73 at h
  refine Ev.aload_n H73 i73_0 rfl ?_
  refine Ev.iload_n H73 i73_1 rfl ?_
  refine Rd.cV1vN H73 i73_2 cal72 (ob6 ma) (Nat.le_of_ble_eq_true rfl) (Nat.le_of_ble_eq_true rfl) (Nat.lt_of_lt_of_le (by decide) hd) (fun q hq => c72 ma hq) h (fun x2 s1 h => ?_)
  refine Ev.istore_n H73 i73_5 (Nat.le_of_ble_eq_true rfl) (lv2 := [(3, .int x2), (0, .ref a), (1, .int v1), (2, .int v2)]) rfl ?_
  refine Ev.iload_n H73 i73_6 rfl ?_
  refine Ev.iconst H73 i73_7 kI_m1 ?_
  refine Rd.ic_eq H73 i73_8 (t := 20) (by decide) h (fun hc h => ?_) (fun hc h => ?_)
  · refine Ev.iconst H73 i73_20 kI_0 ?_
    exact Rd.ireturnK H73 i73_21 rfl (Or.inl rfl) h
  · refine Ev.iload_n H73 i73_11 rfl ?_
    refine Ev.iload_n H73 i73_12 rfl ?_
    refine Rd.ic_eq H73 i73_13 (t := 20) (by decide) h (fun hc h => ?_) (fun hc h => ?_)
    · refine Ev.iconst H73 i73_20 kI_0 ?_
      exact Rd.ireturnK H73 i73_21 rfl (Or.inl rfl) h
    · refine Ev.iconst H73 i73_16 kI_1 ?_
      refine Ev.goto H73 i73_17 (t := 21) (by decide) ?_
      exact Rd.ireturnK H73 i73_21 rfl (Or.inr rfl) h
theorem i74_0 : mm_cd 74 0 = some (.ldc 72, 2, 2147483647, 0) := rfl
theorem i74_2 : mm_cd 74 2 = some (.istore_n 1, 1, 0, 0) := rfl
theorem i74_3 : mm_cd 74 3 = some (.iconst 0, 1, 0, 0) := rfl
theorem i74_4 : mm_cd 74 4 = some (.istore_n 2, 1, 0, 0) := rfl
theorem i74_5 : mm_cd 74 5 = some (.iload_n 2, 1, 0, 0) := rfl
theorem i74_6 : mm_cd 74 6 = some (.bipush 8, 2, 0, 0) := rfl
theorem i74_8 : mm_cd 74 8 = some (.if_icmp .ge 37, 3, 0, 0) := rfl
theorem i74_11 : mm_cd 74 11 = some (.aload_n 0, 1, 0, 0) := rfl
theorem i74_12 : mm_cd 74 12 = some (.getfield 9, 3, ((6 : Nat) : Int), 0) := rfl
theorem i74_15 : mm_cd 74 15 = some (.iload_n 2, 1, 0, 0) := rfl
theorem i74_16 : mm_cd 74 16 = some (.ishr, 1, 0, 0) := rfl
theorem i74_17 : mm_cd 74 17 = some (.iconst 1, 1, 0, 0) := rfl
theorem i74_18 : mm_cd 74 18 = some (.iand, 1, 0, 0) := rfl
theorem i74_19 : mm_cd 74 19 = some (.ifCond .eq 20, 3, 0, 0) := rfl
theorem i74_22 : mm_cd 74 22 = some (.aload_n 0, 1, 0, 0) := rfl
theorem i74_23 : mm_cd 74 23 = some (.getfield 28, 3, ((6 : Nat) : Int), 5) := rfl
theorem i74_26 : mm_cd 74 26 = some (.iload_n 2, 1, 0, 0) := rfl
theorem i74_27 : mm_cd 74 27 = some (.iaload, 1, 0, 0) := rfl
theorem i74_28 : mm_cd 74 28 = some (.iload_n 1, 1, 0, 0) := rfl
theorem i74_29 : mm_cd 74 29 = some (.if_icmp .ge 10, 3, 0, 0) := rfl
theorem i74_32 : mm_cd 74 32 = some (.aload_n 0, 1, 0, 0) := rfl
theorem i74_33 : mm_cd 74 33 = some (.getfield 28, 3, ((6 : Nat) : Int), 5) := rfl
theorem i74_36 : mm_cd 74 36 = some (.iload_n 2, 1, 0, 0) := rfl
theorem i74_37 : mm_cd 74 37 = some (.iaload, 1, 0, 0) := rfl
theorem i74_38 : mm_cd 74 38 = some (.istore_n 1, 1, 0, 0) := rfl
theorem i74_39 : mm_cd 74 39 = some (.iinc 2 1, 3, 0, 0) := rfl
theorem i74_42 : mm_cd 74 42 = some (.goto (-37), 3, 0, 0) := rfl
theorem i74_45 : mm_cd 74 45 = some (.iload_n 1, 1, 0, 0) := rfl
theorem i74_46 : mm_cd 74 46 = some (.ireturn, 1, 0, 0) := rfl
def q74_39 (k5 : Int32 → Int32 → mS → Option mQ) (a : Nat) (v1 : Int32) (v2 : Int32) (s : mS) : Option mQ := bx (v2 + (1 : Int32)) fun x1 => k5 v1 x1 s
theorem t74_39 {L : Nat} {xs : Nat → Int32} {d : Nat} {k5 : Int32 → Int32 → mS → Option mQ} {a : Nat} (hk5 : ∀ (v1 : Int32) (v2 : Int32) (s : mS) (r : mQ), k5 v1 v2 s = some r → Ev L xs d 74 5 [(0, .ref a), (1, .int v1), (2, .int v2)] [] (hp s) (hr r)) (ma : a ∈ A6) (hd : 0 ≤ d) {v1 : Int32} {v2 : Int32} {s : mS} {r : mQ} (h : q74_39 k5 a v1 v2 s = some r) : Ev L xs d 74 39 [(0, .ref a), (1, .int v1), (2, .int v2)] [] (hp s) (hr r) := by
  unfold q74_39 at h
  refine Rd.iinc H74 i74_39 (Nat.le_of_ble_eq_true rfl) rfl kI_1 (lv2 := fun x1 => [(2, .int x1), (0, .ref a), (1, .int v1)]) (fun _ => rfl) h (fun x1 h => ?_)
  refine Ev.goto H74 i74_42 (t := 5) (by decide) ?_
  exact Ev.sub (l := [(0, .ref a), (1, .int v1), (2, .int x1)]) rfl rfl (mm_sub_c rfl (mm_sub_c rfl (mm_sub_c rfl mm_sub_n))) (hk5 _ _ _ _ h)
def q74_5 (a : Nat) : Nat → Int32 → Int32 → mS → Option mQ
  | 0, _, _, _ => none
  | n + 1, v1, v2, s => if (8 : Int32) ≤ v2 then (rv v1 s) else (if ((shrI (s.1 a 0) v2) &&& (1 : Int32)) = 0 then (q74_39 (q74_5 a n) a v1 v2 s) else (gA 8 v2 <| if v1 ≤ (s.1 (a + 2) v2.toNatClampNeg) then (q74_39 (q74_5 a n) a v1 v2 s) else (gA 8 v2 <| bx (s.1 (a + 2) v2.toNatClampNeg) fun x2 => q74_39 (q74_5 a n) a x2 v2 s)))
theorem t74_5 {L : Nat} {xs : Nat → Int32} {d : Nat} {a : Nat} (ma : a ∈ A6) (hd : 0 ≤ d) : ∀ (n : Nat) (v1 : Int32) (v2 : Int32) (s : mS) (r : mQ), q74_5 a n v1 v2 s = some r → Ev L xs d 74 5 [(0, .ref a), (1, .int v1), (2, .int v2)] [] (hp s) (hr r) := by
  intro n
  induction n with
  | zero => intro v1 v2 s r h; rw [q74_5] at h; cases h
  | succ n ih =>
    intro v1 v2 s r h
    rw [q74_5] at h
    refine Ev.iload_n H74 i74_5 rfl ?_
    refine Ev.bipush H74 i74_6 kB_8 ?_
    refine Rd.ic_ge H74 i74_8 (t := 45) (by decide) h (fun hc h => ?_) (fun hc h => ?_)
    · refine Ev.iload_n H74 i74_45 rfl ?_
      exact Rd.ireturn H74 i74_46 rfl h
    · refine Ev.aload_n H74 i74_11 rfl ?_
      refine Rd.getI H74 i74_12 (ob6 ma) rfl ?_
      refine Ev.iload_n H74 i74_15 rfl ?_
      refine Rd.ishr H74 i74_16 ?_
      refine Ev.iconst H74 i74_17 kI_1 ?_
      refine Ev.iand H74 i74_18 ?_
      refine Rd.if_eq H74 i74_19 (t := 39) (by decide) h (fun hc h => ?_) (fun hc h => ?_)
      · exact Ev.sub (l := [(0, .ref a), (1, .int v1), (2, .int v2)]) rfl rfl (mm_sub_c rfl (mm_sub_c rfl (mm_sub_c rfl mm_sub_n))) (t74_39 (k5 := (q74_5 a n)) (fun _ _ _ _ h => ih _ _ _ _ h) ma hd h)
      · refine Ev.aload_n H74 i74_22 rfl ?_
        refine Rd.getR H74 i74_23 (ob6 ma) rfl ?_
        refine Ev.iload_n H74 i74_26 rfl ?_
        refine Rd.iaload H74 i74_27 (ar6_2 ma) h (fun h => ?_)
        refine Ev.iload_n H74 i74_28 rfl ?_
        refine Rd.ic_ge H74 i74_29 (t := 39) (by decide) h (fun hc h => ?_) (fun hc h => ?_)
        · exact Ev.sub (l := [(0, .ref a), (1, .int v1), (2, .int v2)]) rfl rfl (mm_sub_c rfl (mm_sub_c rfl (mm_sub_c rfl mm_sub_n))) (t74_39 (k5 := (q74_5 a n)) (fun _ _ _ _ h => ih _ _ _ _ h) ma hd h)
        · refine Ev.aload_n H74 i74_32 rfl ?_
          refine Rd.getR H74 i74_33 (ob6 ma) rfl ?_
          refine Ev.iload_n H74 i74_36 rfl ?_
          refine Rd.iaload H74 i74_37 (ar6_2 ma) h (fun h => ?_)
          refine Rd.istore_n H74 i74_38 (Nat.le_of_ble_eq_true rfl) (lv2 := fun x2 => [(1, .int x2), (0, .ref a), (2, .int v2)]) (fun _ => rfl) h (fun x2 h => ?_)
          exact Ev.sub (l := [(0, .ref a), (1, .int x2), (2, .int v2)]) rfl rfl (mm_sub_c rfl (mm_sub_c rfl (mm_sub_c rfl mm_sub_n))) (t74_39 (k5 := (q74_5 a n)) (fun _ _ _ _ h => ih _ _ _ _ h) ma hd h)
/-- SerialGate$Slots.leastBegan()I -/
def q74 (a : Nat) (s : mS) : Option mQ := q74_5 a 10000 (2147483647 : Int32) (0 : Int32) s
theorem c74 {L : Nat} {xs : Nat → Int32} {a : Nat} (ma : a ∈ A6) {s : mS} {r : mQ} (h : q74 a s = some r) : ∀ d, 0 ≤ d → Cl L xs d 74 [.ref a] (hp s) (hr r) := by
  intro d hd
  show Ev L xs d 74 0 [(0, .ref a)] [] (hp s) (hr r)
  unfold q74 at h
  refine Ev.ldc H74 i74_0 kI_2147483647 ?_
  refine Ev.istore_n H74 i74_2 (Nat.le_of_ble_eq_true rfl) (lv2 := [(1, .int (2147483647 : Int32)), (0, .ref a)]) rfl ?_
  refine Ev.iconst H74 i74_3 kI_0 ?_
  refine Ev.istore_n H74 i74_4 (Nat.le_of_ble_eq_true rfl) (lv2 := [(2, .int (0 : Int32)), (1, .int (2147483647 : Int32)), (0, .ref a)]) rfl ?_
  exact Ev.sub (l := [(0, .ref a), (1, .int (2147483647 : Int32)), (2, .int (0 : Int32))]) rfl rfl (mm_sub_c rfl (mm_sub_c rfl (mm_sub_c rfl mm_sub_n))) (t74_5 ma hd 10000 _ _ _ _ h)
theorem i75_0 : mm_cd 75 0 = some (.iconst (-1), 1, 0, 0) := rfl
theorem i75_1 : mm_cd 75 1 = some (.istore_n 1, 1, 0, 0) := rfl
theorem i75_2 : mm_cd 75 2 = some (.iconst 0, 1, 0, 0) := rfl
theorem i75_3 : mm_cd 75 3 = some (.istore_n 2, 1, 0, 0) := rfl
theorem i75_4 : mm_cd 75 4 = some (.iload_n 2, 1, 0, 0) := rfl
theorem i75_5 : mm_cd 75 5 = some (.bipush 8, 2, 0, 0) := rfl
theorem i75_7 : mm_cd 75 7 = some (.if_icmp .ge 42, 3, 0, 0) := rfl
theorem i75_10 : mm_cd 75 10 = some (.aload_n 0, 1, 0, 0) := rfl
theorem i75_11 : mm_cd 75 11 = some (.getfield 15, 3, ((6 : Nat) : Int), 1) := rfl
theorem i75_14 : mm_cd 75 14 = some (.iload_n 2, 1, 0, 0) := rfl
theorem i75_15 : mm_cd 75 15 = some (.ishr, 1, 0, 0) := rfl
theorem i75_16 : mm_cd 75 16 = some (.iconst 1, 1, 0, 0) := rfl
theorem i75_17 : mm_cd 75 17 = some (.iand, 1, 0, 0) := rfl
theorem i75_18 : mm_cd 75 18 = some (.ifCond .eq 25, 3, 0, 0) := rfl
theorem i75_21 : mm_cd 75 21 = some (.iload_n 1, 1, 0, 0) := rfl
theorem i75_22 : mm_cd 75 22 = some (.iconst (-1), 1, 0, 0) := rfl
theorem i75_23 : mm_cd 75 23 = some (.if_icmp .eq 18, 3, 0, 0) := rfl
theorem i75_26 : mm_cd 75 26 = some (.aload_n 0, 1, 0, 0) := rfl
theorem i75_27 : mm_cd 75 27 = some (.getfield 31, 3, ((6 : Nat) : Int), 6) := rfl
theorem i75_30 : mm_cd 75 30 = some (.iload_n 2, 1, 0, 0) := rfl
theorem i75_31 : mm_cd 75 31 = some (.iaload, 1, 0, 0) := rfl
theorem i75_32 : mm_cd 75 32 = some (.aload_n 0, 1, 0, 0) := rfl
theorem i75_33 : mm_cd 75 33 = some (.getfield 31, 3, ((6 : Nat) : Int), 6) := rfl
theorem i75_36 : mm_cd 75 36 = some (.iload_n 1, 1, 0, 0) := rfl
theorem i75_37 : mm_cd 75 37 = some (.iaload, 1, 0, 0) := rfl
theorem i75_38 : mm_cd 75 38 = some (.if_icmp .ge 5, 3, 0, 0) := rfl
theorem i75_41 : mm_cd 75 41 = some (.iload_n 2, 1, 0, 0) := rfl
theorem i75_42 : mm_cd 75 42 = some (.istore_n 1, 1, 0, 0) := rfl
theorem i75_43 : mm_cd 75 43 = some (.iinc 2 1, 3, 0, 0) := rfl
theorem i75_46 : mm_cd 75 46 = some (.goto (-42), 3, 0, 0) := rfl
theorem i75_49 : mm_cd 75 49 = some (.iload_n 1, 1, 0, 0) := rfl
theorem i75_50 : mm_cd 75 50 = some (.ireturn, 1, 0, 0) := rfl
def q75_43 (k4 : Int32 → Int32 → mS → Option mQ) (a : Nat) (v1 : Int32) (v2 : Int32) (s : mS) : Option mQ := bx (v2 + (1 : Int32)) fun x1 => k4 v1 x1 s
theorem t75_43 {L : Nat} {xs : Nat → Int32} {d : Nat} {k4 : Int32 → Int32 → mS → Option mQ} {a : Nat} (hk4 : ∀ (v1 : Int32) (v2 : Int32) (s : mS) (r : mQ), k4 v1 v2 s = some r → Ev L xs d 75 4 [(0, .ref a), (1, .int v1), (2, .int v2)] [] (hp s) (hr r)) (ma : a ∈ A6) (hd : 0 ≤ d) {v1 : Int32} {v2 : Int32} {s : mS} {r : mQ} (h : q75_43 k4 a v1 v2 s = some r) : Ev L xs d 75 43 [(0, .ref a), (1, .int v1), (2, .int v2)] [] (hp s) (hr r) := by
  unfold q75_43 at h
  refine Rd.iinc H75 i75_43 (Nat.le_of_ble_eq_true rfl) rfl kI_1 (lv2 := fun x1 => [(2, .int x1), (0, .ref a), (1, .int v1)]) (fun _ => rfl) h (fun x1 h => ?_)
  refine Ev.goto H75 i75_46 (t := 4) (by decide) ?_
  exact Ev.sub (l := [(0, .ref a), (1, .int v1), (2, .int x1)]) rfl rfl (mm_sub_c rfl (mm_sub_c rfl (mm_sub_c rfl mm_sub_n))) (hk4 _ _ _ _ h)
def q75_41 (k4 : Int32 → Int32 → mS → Option mQ) (a : Nat) (v2 : Int32) (s : mS) : Option mQ := q75_43 k4 a v2 v2 s
theorem t75_41 {L : Nat} {xs : Nat → Int32} {d : Nat} {k4 : Int32 → Int32 → mS → Option mQ} {a : Nat} (hk4 : ∀ (v1 : Int32) (v2 : Int32) (s : mS) (r : mQ), k4 v1 v2 s = some r → Ev L xs d 75 4 [(0, .ref a), (1, .int v1), (2, .int v2)] [] (hp s) (hr r)) (ma : a ∈ A6) (hd : 0 ≤ d) {v2 : Int32} {s : mS} {r : mQ} (h : q75_41 k4 a v2 s = some r) : Ev L xs d 75 41 [(0, .ref a), (2, .int v2)] [] (hp s) (hr r) := by
  unfold q75_41 at h
  refine Ev.iload_n H75 i75_41 rfl ?_
  refine Ev.istore_n H75 i75_42 (Nat.le_of_ble_eq_true rfl) (lv2 := [(1, .int v2), (0, .ref a), (2, .int v2)]) rfl ?_
  exact Ev.sub (l := [(0, .ref a), (1, .int v2), (2, .int v2)]) rfl rfl (mm_sub_c rfl (mm_sub_c rfl (mm_sub_c rfl mm_sub_n))) (t75_43 (k4 := k4) hk4 ma hd h)
def q75_4 (a : Nat) : Nat → Int32 → Int32 → mS → Option mQ
  | 0, _, _, _ => none
  | n + 1, v1, v2, s => if (8 : Int32) ≤ v2 then (rv v1 s) else (if ((shrI (s.1 a 1) v2) &&& (1 : Int32)) = 0 then (q75_43 (q75_4 a n) a v1 v2 s) else (if v1 = (-1 : Int32) then (q75_41 (q75_4 a n) a v2 s) else (gA 8 v2 <| gA 8 v1 <| if (s.1 (a + 3) v1.toNatClampNeg) ≤ (s.1 (a + 3) v2.toNatClampNeg) then (q75_43 (q75_4 a n) a v1 v2 s) else (q75_41 (q75_4 a n) a v2 s))))
theorem t75_4 {L : Nat} {xs : Nat → Int32} {d : Nat} {a : Nat} (ma : a ∈ A6) (hd : 0 ≤ d) : ∀ (n : Nat) (v1 : Int32) (v2 : Int32) (s : mS) (r : mQ), q75_4 a n v1 v2 s = some r → Ev L xs d 75 4 [(0, .ref a), (1, .int v1), (2, .int v2)] [] (hp s) (hr r) := by
  intro n
  induction n with
  | zero => intro v1 v2 s r h; rw [q75_4] at h; cases h
  | succ n ih =>
    intro v1 v2 s r h
    rw [q75_4] at h
    refine Ev.iload_n H75 i75_4 rfl ?_
    refine Ev.bipush H75 i75_5 kB_8 ?_
    refine Rd.ic_ge H75 i75_7 (t := 49) (by decide) h (fun hc h => ?_) (fun hc h => ?_)
    · refine Ev.iload_n H75 i75_49 rfl ?_
      exact Rd.ireturn H75 i75_50 rfl h
    · refine Ev.aload_n H75 i75_10 rfl ?_
      refine Rd.getI H75 i75_11 (ob6 ma) rfl ?_
      refine Ev.iload_n H75 i75_14 rfl ?_
      refine Rd.ishr H75 i75_15 ?_
      refine Ev.iconst H75 i75_16 kI_1 ?_
      refine Ev.iand H75 i75_17 ?_
      refine Rd.if_eq H75 i75_18 (t := 43) (by decide) h (fun hc h => ?_) (fun hc h => ?_)
      · exact Ev.sub (l := [(0, .ref a), (1, .int v1), (2, .int v2)]) rfl rfl (mm_sub_c rfl (mm_sub_c rfl (mm_sub_c rfl mm_sub_n))) (t75_43 (k4 := (q75_4 a n)) (fun _ _ _ _ h => ih _ _ _ _ h) ma hd h)
      · refine Ev.iload_n H75 i75_21 rfl ?_
        refine Ev.iconst H75 i75_22 kI_m1 ?_
        refine Rd.ic_eq H75 i75_23 (t := 41) (by decide) h (fun hc h => ?_) (fun hc h => ?_)
        · exact Ev.sub (l := [(0, .ref a), (2, .int v2)]) rfl rfl (mm_sub_c rfl (mm_sub_c rfl mm_sub_n)) (t75_41 (k4 := (q75_4 a n)) (fun _ _ _ _ h => ih _ _ _ _ h) ma hd h)
        · refine Ev.aload_n H75 i75_26 rfl ?_
          refine Rd.getR H75 i75_27 (ob6 ma) rfl ?_
          refine Ev.iload_n H75 i75_30 rfl ?_
          refine Rd.iaload H75 i75_31 (ar6_3 ma) h (fun h => ?_)
          refine Ev.aload_n H75 i75_32 rfl ?_
          refine Rd.getR H75 i75_33 (ob6 ma) rfl ?_
          refine Ev.iload_n H75 i75_36 rfl ?_
          refine Rd.iaload H75 i75_37 (ar6_3 ma) h (fun h => ?_)
          refine Rd.ic_ge H75 i75_38 (t := 43) (by decide) h (fun hc h => ?_) (fun hc h => ?_)
          · exact Ev.sub (l := [(0, .ref a), (1, .int v1), (2, .int v2)]) rfl rfl (mm_sub_c rfl (mm_sub_c rfl (mm_sub_c rfl mm_sub_n))) (t75_43 (k4 := (q75_4 a n)) (fun _ _ _ _ h => ih _ _ _ _ h) ma hd h)
          · exact Ev.sub (l := [(0, .ref a), (2, .int v2)]) rfl rfl (mm_sub_c rfl (mm_sub_c rfl mm_sub_n)) (t75_41 (k4 := (q75_4 a n)) (fun _ _ _ _ h => ih _ _ _ _ h) ma hd h)
/-- SerialGate$Slots.oldestFinished()I -/
def q75 (a : Nat) (s : mS) : Option mQ := q75_4 a 10000 (-1 : Int32) (0 : Int32) s
theorem c75 {L : Nat} {xs : Nat → Int32} {a : Nat} (ma : a ∈ A6) {s : mS} {r : mQ} (h : q75 a s = some r) : ∀ d, 0 ≤ d → Cl L xs d 75 [.ref a] (hp s) (hr r) := by
  intro d hd
  show Ev L xs d 75 0 [(0, .ref a)] [] (hp s) (hr r)
  unfold q75 at h
  refine Ev.iconst H75 i75_0 kI_m1 ?_
  refine Ev.istore_n H75 i75_1 (Nat.le_of_ble_eq_true rfl) (lv2 := [(1, .int (-1 : Int32)), (0, .ref a)]) rfl ?_
  refine Ev.iconst H75 i75_2 kI_0 ?_
  refine Ev.istore_n H75 i75_3 (Nat.le_of_ble_eq_true rfl) (lv2 := [(2, .int (0 : Int32)), (1, .int (-1 : Int32)), (0, .ref a)]) rfl ?_
  exact Ev.sub (l := [(0, .ref a), (1, .int (-1 : Int32)), (2, .int (0 : Int32))]) rfl rfl (mm_sub_c rfl (mm_sub_c rfl (mm_sub_c rfl mm_sub_n))) (t75_4 ma hd 10000 _ _ _ _ h)
theorem i76_0 : mm_cd 76 0 = some (.aload_n 0, 1, 0, 0) := rfl
theorem i76_1 : mm_cd 76 1 = some (.getfield 43, 3, ((6 : Nat) : Int), 10) := rfl
theorem i76_4 : mm_cd 76 4 = some (.iload_n 1, 1, 0, 0) := rfl
theorem i76_5 : mm_cd 76 5 = some (.iaload, 1, 0, 0) := rfl
theorem i76_6 : mm_cd 76 6 = some (.istore_n 2, 1, 0, 0) := rfl
theorem i76_7 : mm_cd 76 7 = some (.aload_n 0, 1, 0, 0) := rfl
theorem i76_8 : mm_cd 76 8 = some (.getfield 49, 3, ((6 : Nat) : Int), 12) := rfl
theorem i76_11 : mm_cd 76 11 = some (.iload_n 1, 1, 0, 0) := rfl
theorem i76_12 : mm_cd 76 12 = some (.iaload, 1, 0, 0) := rfl
theorem i76_13 : mm_cd 76 13 = some (.aload_n 0, 1, 0, 0) := rfl
theorem i76_14 : mm_cd 76 14 = some (.getfield 15, 3, ((6 : Nat) : Int), 1) := rfl
theorem i76_17 : mm_cd 76 17 = some (.iand, 1, 0, 0) := rfl
theorem i76_18 : mm_cd 76 18 = some (.istore_n 3, 1, 0, 0) := rfl
theorem i76_19 : mm_cd 76 19 = some (.iconst 0, 1, 0, 0) := rfl
theorem i76_20 : mm_cd 76 20 = some (.istore 4, 2, 0, 0) := rfl
theorem i76_22 : mm_cd 76 22 = some (.iload 4, 2, 0, 0) := rfl
theorem i76_24 : mm_cd 76 24 = some (.bipush 8, 2, 0, 0) := rfl
theorem i76_26 : mm_cd 76 26 = some (.if_icmp .ge 45, 3, 0, 0) := rfl
theorem i76_29 : mm_cd 76 29 = some (.iload_n 3, 1, 0, 0) := rfl
theorem i76_30 : mm_cd 76 30 = some (.ifCond .eq 41, 3, 0, 0) := rfl
theorem i76_33 : mm_cd 76 33 = some (.iload_n 3, 1, 0, 0) := rfl
theorem i76_34 : mm_cd 76 34 = some (.iload 4, 2, 0, 0) := rfl
theorem i76_36 : mm_cd 76 36 = some (.ishr, 1, 0, 0) := rfl
theorem i76_37 : mm_cd 76 37 = some (.iconst 1, 1, 0, 0) := rfl
theorem i76_38 : mm_cd 76 38 = some (.iand, 1, 0, 0) := rfl
theorem i76_39 : mm_cd 76 39 = some (.ifCond .eq 26, 3, 0, 0) := rfl
theorem i76_42 : mm_cd 76 42 = some (.iload_n 2, 1, 0, 0) := rfl
theorem i76_43 : mm_cd 76 43 = some (.ifCond .eq 14, 3, 0, 0) := rfl
theorem i76_46 : mm_cd 76 46 = some (.aload_n 0, 1, 0, 0) := rfl
theorem i76_47 : mm_cd 76 47 = some (.getfield 31, 3, ((6 : Nat) : Int), 6) := rfl
theorem i76_50 : mm_cd 76 50 = some (.iload 4, 2, 0, 0) := rfl
theorem i76_52 : mm_cd 76 52 = some (.iaload, 1, 0, 0) := rfl
theorem i76_53 : mm_cd 76 53 = some (.iload_n 2, 1, 0, 0) := rfl
theorem i76_54 : mm_cd 76 54 = some (.if_icmp .ge 11, 3, 0, 0) := rfl
theorem i76_57 : mm_cd 76 57 = some (.aload_n 0, 1, 0, 0) := rfl
theorem i76_58 : mm_cd 76 58 = some (.getfield 31, 3, ((6 : Nat) : Int), 6) := rfl
theorem i76_61 : mm_cd 76 61 = some (.iload 4, 2, 0, 0) := rfl
theorem i76_63 : mm_cd 76 63 = some (.iaload, 1, 0, 0) := rfl
theorem i76_64 : mm_cd 76 64 = some (.istore_n 2, 1, 0, 0) := rfl
theorem i76_65 : mm_cd 76 65 = some (.iinc 4 1, 3, 0, 0) := rfl
theorem i76_68 : mm_cd 76 68 = some (.goto (-46), 3, 0, 0) := rfl
theorem i76_71 : mm_cd 76 71 = some (.iload_n 2, 1, 0, 0) := rfl
theorem i76_72 : mm_cd 76 72 = some (.ireturn, 1, 0, 0) := rfl
def q76_65 (k22 : Int32 → Int32 → Int32 → mS → Option mQ) (a : Nat) (v2 : Int32) (v3 : Int32) (v4 : Int32) (s : mS) : Option mQ := bx (v4 + (1 : Int32)) fun x1 => k22 v2 v3 x1 s
theorem t76_65 {L : Nat} {xs : Nat → Int32} {d : Nat} {k22 : Int32 → Int32 → Int32 → mS → Option mQ} {a : Nat} (hk22 : ∀ (v2 : Int32) (v3 : Int32) (v4 : Int32) (s : mS) (r : mQ), k22 v2 v3 v4 s = some r → Ev L xs d 76 22 [(0, .ref a), (2, .int v2), (3, .int v3), (4, .int v4)] [] (hp s) (hr r)) (ma : a ∈ A6) (hd : 0 ≤ d) {v2 : Int32} {v3 : Int32} {v4 : Int32} {s : mS} {r : mQ} (h : q76_65 k22 a v2 v3 v4 s = some r) : Ev L xs d 76 65 [(0, .ref a), (2, .int v2), (3, .int v3), (4, .int v4)] [] (hp s) (hr r) := by
  unfold q76_65 at h
  refine Rd.iinc H76 i76_65 (Nat.le_of_ble_eq_true rfl) rfl kI_1 (lv2 := fun x1 => [(4, .int x1), (0, .ref a), (2, .int v2), (3, .int v3)]) (fun _ => rfl) h (fun x1 h => ?_)
  refine Ev.goto H76 i76_68 (t := 22) (by decide) ?_
  exact Ev.sub (l := [(0, .ref a), (2, .int v2), (3, .int v3), (4, .int x1)]) rfl rfl (mm_sub_c rfl (mm_sub_c rfl (mm_sub_c rfl (mm_sub_c rfl mm_sub_n)))) (hk22 _ _ _ _ _ h)
def q76_57 (k22 : Int32 → Int32 → Int32 → mS → Option mQ) (a : Nat) (v3 : Int32) (v4 : Int32) (s : mS) : Option mQ := gA 8 v4 <| bx (s.1 (a + 3) v4.toNatClampNeg) fun x2 => q76_65 k22 a x2 v3 v4 s
theorem t76_57 {L : Nat} {xs : Nat → Int32} {d : Nat} {k22 : Int32 → Int32 → Int32 → mS → Option mQ} {a : Nat} (hk22 : ∀ (v2 : Int32) (v3 : Int32) (v4 : Int32) (s : mS) (r : mQ), k22 v2 v3 v4 s = some r → Ev L xs d 76 22 [(0, .ref a), (2, .int v2), (3, .int v3), (4, .int v4)] [] (hp s) (hr r)) (ma : a ∈ A6) (hd : 0 ≤ d) {v3 : Int32} {v4 : Int32} {s : mS} {r : mQ} (h : q76_57 k22 a v3 v4 s = some r) : Ev L xs d 76 57 [(0, .ref a), (3, .int v3), (4, .int v4)] [] (hp s) (hr r) := by
  unfold q76_57 at h
  refine Ev.aload_n H76 i76_57 rfl ?_
  refine Rd.getR H76 i76_58 (ob6 ma) rfl ?_
  refine Ev.iload H76 i76_61 rfl ?_
  refine Rd.iaload H76 i76_63 (ar6_3 ma) h (fun h => ?_)
  refine Rd.istore_n H76 i76_64 (Nat.le_of_ble_eq_true rfl) (lv2 := fun x2 => [(2, .int x2), (0, .ref a), (3, .int v3), (4, .int v4)]) (fun _ => rfl) h (fun x2 h => ?_)
  exact Ev.sub (l := [(0, .ref a), (2, .int x2), (3, .int v3), (4, .int v4)]) rfl rfl (mm_sub_c rfl (mm_sub_c rfl (mm_sub_c rfl (mm_sub_c rfl mm_sub_n)))) (t76_65 (k22 := k22) hk22 ma hd h)
def q76_22 (a : Nat) : Nat → Int32 → Int32 → Int32 → mS → Option mQ
  | 0, _, _, _, _ => none
  | n + 1, v2, v3, v4, s => if (8 : Int32) ≤ v4 then (rv v2 s) else (if v3 = 0 then (rv v2 s) else (if ((shrI v3 v4) &&& (1 : Int32)) = 0 then (q76_65 (q76_22 a n) a v2 v3 v4 s) else (if v2 = 0 then (q76_57 (q76_22 a n) a v3 v4 s) else (gA 8 v4 <| if v2 ≤ (s.1 (a + 3) v4.toNatClampNeg) then (q76_65 (q76_22 a n) a v2 v3 v4 s) else (q76_57 (q76_22 a n) a v3 v4 s)))))
theorem t76_22 {L : Nat} {xs : Nat → Int32} {d : Nat} {a : Nat} (ma : a ∈ A6) (hd : 0 ≤ d) : ∀ (n : Nat) (v2 : Int32) (v3 : Int32) (v4 : Int32) (s : mS) (r : mQ), q76_22 a n v2 v3 v4 s = some r → Ev L xs d 76 22 [(0, .ref a), (2, .int v2), (3, .int v3), (4, .int v4)] [] (hp s) (hr r) := by
  intro n
  induction n with
  | zero => intro v2 v3 v4 s r h; rw [q76_22] at h; cases h
  | succ n ih =>
    intro v2 v3 v4 s r h
    rw [q76_22] at h
    refine Ev.iload H76 i76_22 rfl ?_
    refine Ev.bipush H76 i76_24 kB_8 ?_
    refine Rd.ic_ge H76 i76_26 (t := 71) (by decide) h (fun hc h => ?_) (fun hc h => ?_)
    · refine Ev.iload_n H76 i76_71 rfl ?_
      exact Rd.ireturn H76 i76_72 rfl h
    · refine Ev.iload_n H76 i76_29 rfl ?_
      refine Rd.if_eq H76 i76_30 (t := 71) (by decide) h (fun hc h => ?_) (fun hc h => ?_)
      · refine Ev.iload_n H76 i76_71 rfl ?_
        exact Rd.ireturn H76 i76_72 rfl h
      · refine Ev.iload_n H76 i76_33 rfl ?_
        refine Ev.iload H76 i76_34 rfl ?_
        refine Rd.ishr H76 i76_36 ?_
        refine Ev.iconst H76 i76_37 kI_1 ?_
        refine Ev.iand H76 i76_38 ?_
        refine Rd.if_eq H76 i76_39 (t := 65) (by decide) h (fun hc h => ?_) (fun hc h => ?_)
        · exact Ev.sub (l := [(0, .ref a), (2, .int v2), (3, .int v3), (4, .int v4)]) rfl rfl (mm_sub_c rfl (mm_sub_c rfl (mm_sub_c rfl (mm_sub_c rfl mm_sub_n)))) (t76_65 (k22 := (q76_22 a n)) (fun _ _ _ _ _ h => ih _ _ _ _ _ h) ma hd h)
        · refine Ev.iload_n H76 i76_42 rfl ?_
          refine Rd.if_eq H76 i76_43 (t := 57) (by decide) h (fun hc h => ?_) (fun hc h => ?_)
          · exact Ev.sub (l := [(0, .ref a), (3, .int v3), (4, .int v4)]) rfl rfl (mm_sub_c rfl (mm_sub_c rfl (mm_sub_c rfl mm_sub_n))) (t76_57 (k22 := (q76_22 a n)) (fun _ _ _ _ _ h => ih _ _ _ _ _ h) ma hd h)
          · refine Ev.aload_n H76 i76_46 rfl ?_
            refine Rd.getR H76 i76_47 (ob6 ma) rfl ?_
            refine Ev.iload H76 i76_50 rfl ?_
            refine Rd.iaload H76 i76_52 (ar6_3 ma) h (fun h => ?_)
            refine Ev.iload_n H76 i76_53 rfl ?_
            refine Rd.ic_ge H76 i76_54 (t := 65) (by decide) h (fun hc h => ?_) (fun hc h => ?_)
            · exact Ev.sub (l := [(0, .ref a), (2, .int v2), (3, .int v3), (4, .int v4)]) rfl rfl (mm_sub_c rfl (mm_sub_c rfl (mm_sub_c rfl (mm_sub_c rfl mm_sub_n)))) (t76_65 (k22 := (q76_22 a n)) (fun _ _ _ _ _ h => ih _ _ _ _ _ h) ma hd h)
            · exact Ev.sub (l := [(0, .ref a), (3, .int v3), (4, .int v4)]) rfl rfl (mm_sub_c rfl (mm_sub_c rfl (mm_sub_c rfl mm_sub_n))) (t76_57 (k22 := (q76_22 a n)) (fun _ _ _ _ _ h => ih _ _ _ _ _ h) ma hd h)
/-- SerialGate$Slots.firstOf(I)I -/
def q76 (a : Nat) (v1 : Int32) (s : mS) : Option mQ := gA 8 v1 <| bx (s.1 (a + 7) v1.toNatClampNeg) fun x3 => gA 8 v1 <| bx ((s.1 (a + 9) v1.toNatClampNeg) &&& (s.1 a 1)) fun x4 => q76_22 a 10000 x3 x4 (0 : Int32) s
theorem c76 {L : Nat} {xs : Nat → Int32} {a : Nat} (ma : a ∈ A6) {v1 : Int32} {s : mS} {r : mQ} (h : q76 a v1 s = some r) : ∀ d, 0 ≤ d → Cl L xs d 76 [.ref a, .int v1] (hp s) (hr r) := by
  intro d hd
  show Ev L xs d 76 0 [(0, .ref a), (1, .int v1)] [] (hp s) (hr r)
  unfold q76 at h
  refine Ev.aload_n H76 i76_0 rfl ?_
  refine Rd.getR H76 i76_1 (ob6 ma) rfl ?_
  refine Ev.iload_n H76 i76_4 rfl ?_
  refine Rd.iaload H76 i76_5 (ar6_7 ma) h (fun h => ?_)
  refine Rd.istore_n H76 i76_6 (Nat.le_of_ble_eq_true rfl) (lv2 := fun x3 => [(2, .int x3), (0, .ref a), (1, .int v1)]) (fun _ => rfl) h (fun x3 h => ?_)
  refine Ev.aload_n H76 i76_7 rfl ?_
  refine Rd.getR H76 i76_8 (ob6 ma) rfl ?_
  refine Ev.iload_n H76 i76_11 rfl ?_
  refine Rd.iaload H76 i76_12 (ar6_9 ma) h (fun h => ?_)
  refine Ev.aload_n H76 i76_13 rfl ?_
  refine Rd.getI H76 i76_14 (ob6 ma) rfl ?_
  refine Ev.iand H76 i76_17 ?_
  refine Rd.istore_n H76 i76_18 (Nat.le_of_ble_eq_true rfl) (lv2 := fun x4 => [(3, .int x4), (2, .int x3), (0, .ref a), (1, .int v1)]) (fun _ => rfl) h (fun x4 h => ?_)
  refine Ev.iconst H76 i76_19 kI_0 ?_
  refine Ev.istore H76 i76_20 (Nat.le_of_ble_eq_true rfl) (lv2 := [(4, .int (0 : Int32)), (3, .int x4), (2, .int x3), (0, .ref a), (1, .int v1)]) rfl ?_
  exact Ev.sub (l := [(0, .ref a), (2, .int x3), (3, .int x4), (4, .int (0 : Int32))]) rfl rfl (mm_sub_c rfl (mm_sub_c rfl (mm_sub_c rfl (mm_sub_c rfl mm_sub_n)))) (t76_22 ma hd 10000 _ _ _ _ _ h)
