theorem i25_0 : mm_cd 25 0 = some (.iconst 0, 1, 0, 0) := rfl
theorem i25_1 : mm_cd 25 1 = some (.istore_n 2, 1, 0, 0) := rfl
theorem i25_2 : mm_cd 25 2 = some (.iconst 0, 1, 0, 0) := rfl
theorem i25_3 : mm_cd 25 3 = some (.istore_n 3, 1, 0, 0) := rfl
theorem i25_4 : mm_cd 25 4 = some (.iload_n 3, 1, 0, 0) := rfl
theorem i25_5 : mm_cd 25 5 = some (.aload_n 0, 1, 0, 0) := rfl
theorem i25_6 : mm_cd 25 6 = some (.getfield 9, 3, ((2 : Nat) : Int), 0) := rfl
theorem i25_9 : mm_cd 25 9 = some (.if_icmp .ge 36, 3, 0, 0) := rfl
theorem i25_12 : mm_cd 25 12 = some (.aload_n 0, 1, 0, 0) := rfl
theorem i25_13 : mm_cd 25 13 = some (.getfield 18, 3, ((2 : Nat) : Int), 2) := rfl
theorem i25_16 : mm_cd 25 16 = some (.iload_n 3, 1, 0, 0) := rfl
theorem i25_17 : mm_cd 25 17 = some (.iaload, 1, 0, 0) := rfl
theorem i25_18 : mm_cd 25 18 = some (.iload_n 1, 1, 0, 0) := rfl
theorem i25_19 : mm_cd 25 19 = some (.if_icmp .ne 20, 3, 0, 0) := rfl
theorem i25_22 : mm_cd 25 22 = some (.aload_n 0, 1, 0, 0) := rfl
theorem i25_23 : mm_cd 25 23 = some (.iload_n 3, 1, 0, 0) := rfl
theorem i25_24 : mm_cd 25 24 = some (.invokevirtual 45, 3, 0, 26) := rfl
theorem i25_27 : mm_cd 25 27 = some (.ifCond .eq 12, 3, 0, 0) := rfl
theorem i25_30 : mm_cd 25 30 = some (.iload_n 2, 1, 0, 0) := rfl
theorem i25_31 : mm_cd 25 31 = some (.aload_n 0, 1, 0, 0) := rfl
theorem i25_32 : mm_cd 25 32 = some (.getfield 22, 3, ((2 : Nat) : Int), 3) := rfl
theorem i25_35 : mm_cd 25 35 = some (.iload_n 3, 1, 0, 0) := rfl
theorem i25_36 : mm_cd 25 36 = some (.iaload, 1, 0, 0) := rfl
theorem i25_37 : mm_cd 25 37 = some (.iadd, 1, 0, 0) := rfl
theorem i25_38 : mm_cd 25 38 = some (.istore_n 2, 1, 0, 0) := rfl
theorem i25_39 : mm_cd 25 39 = some (.iinc 3 1, 3, 0, 0) := rfl
theorem i25_42 : mm_cd 25 42 = some (.goto (-38), 3, 0, 0) := rfl
theorem i25_45 : mm_cd 25 45 = some (.iload_n 2, 1, 0, 0) := rfl
theorem i25_46 : mm_cd 25 46 = some (.ireturn, 1, 0, 0) := rfl
def q25_39 (k4 : Int32 → Int32 → Int32 → mS → Option mQ) (a : Nat) (v1 : Int32) (v2 : Int32) (v3 : Int32) (s : mS) : Option mQ := bx (v3 + (1 : Int32)) fun x1 => k4 v1 v2 x1 s
theorem t25_39 {L : Nat} {xs : Nat → Int32} {d : Nat} {k4 : Int32 → Int32 → Int32 → mS → Option mQ} {a : Nat} (hk4 : ∀ (v1 : Int32) (v2 : Int32) (v3 : Int32) (s : mS) (r : mQ), k4 v1 v2 v3 s = some r → Ev L xs d 25 4 [(0, .ref a), (1, .int v1), (2, .int v2), (3, .int v3)] [] (hp s) (hr r)) (ma : a ∈ A2) (hd : 1 ≤ d) {v1 : Int32} {v2 : Int32} {v3 : Int32} {s : mS} {r : mQ} (h : q25_39 k4 a v1 v2 v3 s = some r) : Ev L xs d 25 39 [(0, .ref a), (1, .int v1), (2, .int v2), (3, .int v3)] [] (hp s) (hr r) := by
  unfold q25_39 at h
  refine Rd.iinc H25 i25_39 (Nat.le_of_ble_eq_true rfl) rfl kI_1 (lv2 := fun x1 => [(3, .int x1), (0, .ref a), (1, .int v1), (2, .int v2)]) (fun _ => rfl) h (fun x1 h => ?_)
  refine Ev.goto H25 i25_42 (t := 4) (by decide) ?_
  exact Ev.sub (l := [(0, .ref a), (1, .int v1), (2, .int v2), (3, .int x1)]) rfl rfl (mm_sub_c rfl (mm_sub_c rfl (mm_sub_c rfl (mm_sub_c rfl mm_sub_n)))) (hk4 _ _ _ _ _ h)
def q25_4 (a : Nat) : Nat → Int32 → Int32 → Int32 → mS → Option mQ
  | 0, _, _, _, _ => none
  | n + 1, v1, v2, v3, s => if (s.1 a 0) ≤ v3 then (rv v2 s) else (gA 12 v3 <| if ¬ (s.1 (a + 1) v3.toNatClampNeg) = v1 then (q25_39 (q25_4 a n) a v1 v2 v3 s) else (bN (q26 a v3 s) fun x3 s2 => if x3 = 0 then (q25_39 (q25_4 a n) a v1 v2 v3 s2) else (gA 12 v3 <| bx (v2 + (s2.1 (a + 2) v3.toNatClampNeg)) fun x4 => q25_39 (q25_4 a n) a v1 x4 v3 s2)))
theorem t25_4 {L : Nat} {xs : Nat → Int32} {d : Nat} {a : Nat} (ma : a ∈ A2) (hd : 1 ≤ d) : ∀ (n : Nat) (v1 : Int32) (v2 : Int32) (v3 : Int32) (s : mS) (r : mQ), q25_4 a n v1 v2 v3 s = some r → Ev L xs d 25 4 [(0, .ref a), (1, .int v1), (2, .int v2), (3, .int v3)] [] (hp s) (hr r) := by
  intro n
  induction n with
  | zero => intro v1 v2 v3 s r h; rw [q25_4] at h; cases h
  | succ n ih =>
    intro v1 v2 v3 s r h
    rw [q25_4] at h
    refine Ev.iload_n H25 i25_4 rfl ?_
    refine Ev.aload_n H25 i25_5 rfl ?_
    refine Rd.getI H25 i25_6 (ob2 ma) rfl ?_
    refine Rd.ic_ge H25 i25_9 (t := 45) (by decide) h (fun hc h => ?_) (fun hc h => ?_)
    · refine Ev.iload_n H25 i25_45 rfl ?_
      exact Rd.ireturn H25 i25_46 rfl h
    · refine Ev.aload_n H25 i25_12 rfl ?_
      refine Rd.getR H25 i25_13 (ob2 ma) rfl ?_
      refine Ev.iload_n H25 i25_16 rfl ?_
      refine Rd.iaload H25 i25_17 (ar2_1 ma) h (fun h => ?_)
      refine Ev.iload_n H25 i25_18 rfl ?_
      refine Rd.ic_ne H25 i25_19 (t := 39) (by decide) h (fun hc h => ?_) (fun hc h => ?_)
      · exact Ev.sub (l := [(0, .ref a), (1, .int v1), (2, .int v2), (3, .int v3)]) rfl rfl (mm_sub_c rfl (mm_sub_c rfl (mm_sub_c rfl (mm_sub_c rfl mm_sub_n)))) (t25_39 (k4 := (q25_4 a n)) (fun _ _ _ _ _ h => ih _ _ _ _ _ h) ma hd h)
      · refine Ev.aload_n H25 i25_22 rfl ?_
        refine Ev.iload_n H25 i25_23 rfl ?_
        refine Rd.cV1vN H25 i25_24 cal26 (ob2 ma) (Nat.le_of_ble_eq_true rfl) (Nat.le_of_ble_eq_true rfl) (Nat.lt_of_lt_of_le (by decide) hd) (fun q hq => c26 ma hq) h (fun x3 s2 h => ?_)
        refine Rd.if_eq H25 i25_27 (t := 39) (by decide) h (fun hc h => ?_) (fun hc h => ?_)
        · exact Ev.sub (l := [(0, .ref a), (1, .int v1), (2, .int v2), (3, .int v3)]) rfl rfl (mm_sub_c rfl (mm_sub_c rfl (mm_sub_c rfl (mm_sub_c rfl mm_sub_n)))) (t25_39 (k4 := (q25_4 a n)) (fun _ _ _ _ _ h => ih _ _ _ _ _ h) ma hd h)
        · refine Ev.iload_n H25 i25_30 rfl ?_
          refine Ev.aload_n H25 i25_31 rfl ?_
          refine Rd.getR H25 i25_32 (ob2 ma) rfl ?_
          refine Ev.iload_n H25 i25_35 rfl ?_
          refine Rd.iaload H25 i25_36 (ar2_2 ma) h (fun h => ?_)
          refine Ev.iadd H25 i25_37 ?_
          refine Rd.istore_n H25 i25_38 (Nat.le_of_ble_eq_true rfl) (lv2 := fun x4 => [(2, .int x4), (0, .ref a), (1, .int v1), (3, .int v3)]) (fun _ => rfl) h (fun x4 h => ?_)
          exact Ev.sub (l := [(0, .ref a), (1, .int v1), (2, .int x4), (3, .int v3)]) rfl rfl (mm_sub_c rfl (mm_sub_c rfl (mm_sub_c rfl (mm_sub_c rfl mm_sub_n)))) (t25_39 (k4 := (q25_4 a n)) (fun _ _ _ _ _ h => ih _ _ _ _ _ h) ma hd h)
/-- SerialGate$Law.sumOf(I)I -/
def q25 (a : Nat) (v1 : Int32) (s : mS) : Option mQ := q25_4 a 10000 v1 (0 : Int32) (0 : Int32) s
theorem c25 {L : Nat} {xs : Nat → Int32} {a : Nat} (ma : a ∈ A2) {v1 : Int32} {s : mS} {r : mQ} (h : q25 a v1 s = some r) : ∀ d, 1 ≤ d → Cl L xs d 25 [.ref a, .int v1] (hp s) (hr r) := by
  intro d hd
  show Ev L xs d 25 0 [(0, .ref a), (1, .int v1)] [] (hp s) (hr r)
  unfold q25 at h
  refine Ev.iconst H25 i25_0 kI_0 ?_
  refine Ev.istore_n H25 i25_1 (Nat.le_of_ble_eq_true rfl) (lv2 := [(2, .int (0 : Int32)), (0, .ref a), (1, .int v1)]) rfl ?_
  refine Ev.iconst H25 i25_2 kI_0 ?_
  refine Ev.istore_n H25 i25_3 (Nat.le_of_ble_eq_true rfl) (lv2 := [(3, .int (0 : Int32)), (2, .int (0 : Int32)), (0, .ref a), (1, .int v1)]) rfl ?_
  exact Ev.sub (l := [(0, .ref a), (1, .int v1), (2, .int (0 : Int32)), (3, .int (0 : Int32))]) rfl rfl (mm_sub_c rfl (mm_sub_c rfl (mm_sub_c rfl (mm_sub_c rfl mm_sub_n)))) (t25_4 ma hd 10000 _ _ _ _ _ h)
theorem i102_0 : mm_cd 102 0 = some (.aload_n 0, 1, 0, 0) := rfl
theorem i102_1 : mm_cd 102 1 = some (.dup, 1, 0, 0) := rfl
theorem i102_2 : mm_cd 102 2 = some (.getfield 19, 3, ((8 : Nat) : Int), 2) := rfl
theorem i102_5 : mm_cd 102 5 = some (.iload_n 1, 1, 0, 0) := rfl
theorem i102_6 : mm_cd 102 6 = some (.iadd, 1, 0, 0) := rfl
theorem i102_7 : mm_cd 102 7 = some (.putfield 19, 3, ((8 : Nat) : Int), 2) := rfl
theorem i102_10 : mm_cd 102 10 = some (.aload_n 0, 1, 0, 0) := rfl
theorem i102_11 : mm_cd 102 11 = some (.getfield 19, 3, ((8 : Nat) : Int), 2) := rfl
theorem i102_14 : mm_cd 102 14 = some (.aload_n 0, 1, 0, 0) := rfl
theorem i102_15 : mm_cd 102 15 = some (.getfield 15, 3, ((8 : Nat) : Int), 1) := rfl
theorem i102_18 : mm_cd 102 18 = some (.if_icmp .ge 30, 3, 0, 0) := rfl
theorem i102_21 : mm_cd 102 21 = some (.aload_n 0, 1, 0, 0) := rfl
theorem i102_22 : mm_cd 102 22 = some (.getfield 11, 3, ((8 : Nat) : Int), 0) := rfl
theorem i102_25 : mm_cd 102 25 = some (.aload_n 0, 1, 0, 0) := rfl
theorem i102_26 : mm_cd 102 26 = some (.getfield 19, 3, ((8 : Nat) : Int), 2) := rfl
theorem i102_29 : mm_cd 102 29 = some (.iaload, 1, 0, 0) := rfl
theorem i102_30 : mm_cd 102 30 = some (.bipush 32, 2, 0, 0) := rfl
theorem i102_32 : mm_cd 102 32 = some (.if_icmp .ne 16, 3, 0, 0) := rfl
theorem i102_35 : mm_cd 102 35 = some (.aload_n 0, 1, 0, 0) := rfl
theorem i102_36 : mm_cd 102 36 = some (.dup, 1, 0, 0) := rfl
theorem i102_37 : mm_cd 102 37 = some (.getfield 19, 3, ((8 : Nat) : Int), 2) := rfl
theorem i102_40 : mm_cd 102 40 = some (.iconst 1, 1, 0, 0) := rfl
theorem i102_41 : mm_cd 102 41 = some (.iadd, 1, 0, 0) := rfl
theorem i102_42 : mm_cd 102 42 = some (.putfield 19, 3, ((8 : Nat) : Int), 2) := rfl
theorem i102_45 : mm_cd 102 45 = some (.goto (-35), 3, 0, 0) := rfl
theorem i102_48 : mm_cd 102 48 = some (.return_, 1, 0, 0) := rfl
def q102_10 : Nat → mS → Option mQ
  | 0, _ => none
  | n + 1, s => if (s.1 1 1) ≤ (s.1 1 2) then (ru s) else (gA 400 (s.1 1 2) <| if ¬ (s.1 2 (s.1 1 2).toNatClampNeg) = (32 : Int32) then (ru s) else (sp (sI s 1 2 ((s.1 1 2) + (1 : Int32))) fun s1 => q102_10 n s1))
theorem t102_10 {L : Nat} {xs : Nat → Int32} {d : Nat} (hd : 0 ≤ d) : ∀ (n : Nat) (s : mS) (r : mQ), q102_10 n s = some r → Ev L xs d 102 10 [(0, .ref 1)] [] (hp s) (hr r) := by
  intro n
  induction n with
  | zero => intro s r h; rw [q102_10] at h; cases h
  | succ n ih =>
    intro s r h
    rw [q102_10] at h
    refine Ev.aload_n H102 i102_10 rfl ?_
    refine Rd.getI H102 i102_11 ob8 rfl ?_
    refine Ev.aload_n H102 i102_14 rfl ?_
    refine Rd.getI H102 i102_15 ob8 rfl ?_
    refine Rd.ic_ge H102 i102_18 (t := 48) (by decide) h (fun hc h => ?_) (fun hc h => ?_)
    · exact Rd.return_ H102 i102_48 rfl h
    · refine Ev.aload_n H102 i102_21 rfl ?_
      refine Rd.getR H102 i102_22 ob8 rfl ?_
      refine Ev.aload_n H102 i102_25 rfl ?_
      refine Rd.getI H102 i102_26 ob8 rfl ?_
      refine Rd.iaload H102 i102_29 ar_2 h (fun h => ?_)
      refine Ev.bipush H102 i102_30 kB_32 ?_
      refine Rd.ic_ne H102 i102_32 (t := 48) (by decide) h (fun hc h => ?_) (fun hc h => ?_)
      · exact Rd.return_ H102 i102_48 rfl h
      · refine Ev.aload_n H102 i102_35 rfl ?_
        refine Ev.dup H102 i102_36 rfl ?_
        refine Rd.getI H102 i102_37 ob8 rfl ?_
        refine Ev.iconst H102 i102_40 kI_1 ?_
        refine Ev.iadd H102 i102_41 ?_
        refine Rd.putI H102 i102_42 ob8 rfl ty8_2.1 ty8_2.2 h (fun s1 h => ?_)
        refine Ev.goto H102 i102_45 (t := 10) (by decide) ?_
        exact Ev.sub (l := [(0, .ref 1)]) rfl rfl (mm_sub_c rfl mm_sub_n) (ih _ _ h)
/-- SerialGate$Tape.pass(I)V -/
def q102 (v1 : Int32) (s : mS) : Option mQ := sp (sI s 1 2 ((s.1 1 2) + v1)) fun s2 => q102_10 10000 s2
theorem c102 {L : Nat} {xs : Nat → Int32} {v1 : Int32} {s : mS} {r : mQ} (h : q102 v1 s = some r) : ∀ d, 0 ≤ d → Cl L xs d 102 [.ref 1, .int v1] (hp s) (hr r) := by
  intro d hd
  show Ev L xs d 102 0 [(0, .ref 1), (1, .int v1)] [] (hp s) (hr r)
  unfold q102 at h
  refine Ev.aload_n H102 i102_0 rfl ?_
  refine Ev.dup H102 i102_1 rfl ?_
  refine Rd.getI H102 i102_2 ob8 rfl ?_
  refine Ev.iload_n H102 i102_5 rfl ?_
  refine Ev.iadd H102 i102_6 ?_
  refine Rd.putI H102 i102_7 ob8 rfl ty8_2.1 ty8_2.2 h (fun s2 h => ?_)
  exact Ev.sub (l := [(0, .ref 1)]) rfl rfl (mm_sub_c rfl mm_sub_n) (t102_10 hd 10000 _ _ h)
theorem i100_0 : mm_cd 100 0 = some (.aload_n 0, 1, 0, 0) := rfl
theorem i100_1 : mm_cd 100 1 = some (.iconst 0, 1, 0, 0) := rfl
theorem i100_2 : mm_cd 100 2 = some (.putfield 19, 3, ((8 : Nat) : Int), 2) := rfl
theorem i100_5 : mm_cd 100 5 = some (.aload_n 0, 1, 0, 0) := rfl
theorem i100_6 : mm_cd 100 6 = some (.iconst 0, 1, 0, 0) := rfl
theorem i100_7 : mm_cd 100 7 = some (.invokevirtual 22, 3, 0, 102) := rfl
theorem i100_10 : mm_cd 100 10 = some (.return_, 1, 0, 0) := rfl
/-- SerialGate$Tape.rewind()V -/
def q100 (s : mS) : Option mQ := sp (sI s 1 2 (0 : Int32)) fun s1 => bM (q102 (0 : Int32) s1) fun s2 => ru s2
theorem c100 {L : Nat} {xs : Nat → Int32} {s : mS} {r : mQ} (h : q100 s = some r) : ∀ d, 1 ≤ d → Cl L xs d 100 [.ref 1] (hp s) (hr r) := by
  intro d hd
  show Ev L xs d 100 0 [(0, .ref 1)] [] (hp s) (hr r)
  unfold q100 at h
  refine Ev.aload_n H100 i100_0 rfl ?_
  refine Ev.iconst H100 i100_1 kI_0 ?_
  refine Rd.putI H100 i100_2 ob8 rfl ty8_2.1 ty8_2.2 h (fun s1 h => ?_)
  refine Ev.aload_n H100 i100_5 rfl ?_
  refine Ev.iconst H100 i100_6 kI_0 ?_
  refine Rd.cV1uN H100 i100_7 cal102 ob8 (Nat.le_of_ble_eq_true rfl) (Nat.le_of_ble_eq_true rfl) (Nat.lt_of_lt_of_le (by decide) hd) (fun q hq => c102 hq) h (fun s2 h => ?_)
  exact Rd.return_ H100 i100_10 rfl h
theorem i101_0 : mm_cd 101 0 = some (.aload_n 0, 1, 0, 0) := rfl
theorem i101_1 : mm_cd 101 1 = some (.getfield 19, 3, ((8 : Nat) : Int), 2) := rfl
theorem i101_4 : mm_cd 101 4 = some (.aload_n 0, 1, 0, 0) := rfl
theorem i101_5 : mm_cd 101 5 = some (.getfield 15, 3, ((8 : Nat) : Int), 1) := rfl
theorem i101_8 : mm_cd 101 8 = some (.if_icmp .lt 7, 3, 0, 0) := rfl
theorem i101_11 : mm_cd 101 11 = some (.iconst 1, 1, 0, 0) := rfl
theorem i101_12 : mm_cd 101 12 = some (.goto 4, 3, 0, 0) := rfl
theorem i101_15 : mm_cd 101 15 = some (.iconst 0, 1, 0, 0) := rfl
theorem i101_16 : mm_cd 101 16 = some (.ireturn, 1, 0, 0) := rfl
/-- SerialGate$Tape.hasEnded()Z -/
def q101 (s : mS) : Option mQ := if (s.1 1 2) < (s.1 1 1) then (rv (0 : Int32) s) else (rv (1 : Int32) s)
theorem c101 {L : Nat} {xs : Nat → Int32} {s : mS} {r : mQ} (h : q101 s = some r) : ∀ d, 0 ≤ d → Cl L xs d 101 [.ref 1] (hp s) (hr r) := by
  intro d hd
  show Ev L xs d 101 0 [(0, .ref 1)] [] (hp s) (hr r)
  unfold q101 at h
  refine Ev.aload_n H101 i101_0 rfl ?_
  refine Rd.getI H101 i101_1 ob8 rfl ?_
  refine Ev.aload_n H101 i101_4 rfl ?_
  refine Rd.getI H101 i101_5 ob8 rfl ?_
  refine Rd.ic_lt H101 i101_8 (t := 15) (by decide) h (fun hc h => ?_) (fun hc h => ?_)
  · refine Ev.iconst H101 i101_15 kI_0 ?_
    exact Rd.ireturnK H101 i101_16 rfl (Or.inl rfl) h
  · refine Ev.iconst H101 i101_11 kI_1 ?_
    refine Ev.goto H101 i101_12 (t := 16) (by decide) ?_
    exact Rd.ireturnK H101 i101_16 rfl (Or.inr rfl) h
theorem i103_0 : mm_cd 103 0 = some (.iload_n 1, 1, 0, 0) := rfl
theorem i103_1 : mm_cd 103 1 = some (.aload_n 0, 1, 0, 0) := rfl
theorem i103_2 : mm_cd 103 2 = some (.getfield 15, 3, ((8 : Nat) : Int), 1) := rfl
theorem i103_5 : mm_cd 103 5 = some (.if_icmp .ge 27, 3, 0, 0) := rfl
theorem i103_8 : mm_cd 103 8 = some (.aload_n 0, 1, 0, 0) := rfl
theorem i103_9 : mm_cd 103 9 = some (.getfield 11, 3, ((8 : Nat) : Int), 0) := rfl
theorem i103_12 : mm_cd 103 12 = some (.iload_n 1, 1, 0, 0) := rfl
theorem i103_13 : mm_cd 103 13 = some (.iaload, 1, 0, 0) := rfl
theorem i103_14 : mm_cd 103 14 = some (.iload_n 2, 1, 0, 0) := rfl
theorem i103_15 : mm_cd 103 15 = some (.if_icmp .lt 17, 3, 0, 0) := rfl
theorem i103_18 : mm_cd 103 18 = some (.aload_n 0, 1, 0, 0) := rfl
theorem i103_19 : mm_cd 103 19 = some (.getfield 11, 3, ((8 : Nat) : Int), 0) := rfl
theorem i103_22 : mm_cd 103 22 = some (.iload_n 1, 1, 0, 0) := rfl
theorem i103_23 : mm_cd 103 23 = some (.iaload, 1, 0, 0) := rfl
theorem i103_24 : mm_cd 103 24 = some (.iload_n 3, 1, 0, 0) := rfl
theorem i103_25 : mm_cd 103 25 = some (.if_icmp .gt 7, 3, 0, 0) := rfl
theorem i103_28 : mm_cd 103 28 = some (.iconst 1, 1, 0, 0) := rfl
theorem i103_29 : mm_cd 103 29 = some (.goto 4, 3, 0, 0) := rfl
theorem i103_32 : mm_cd 103 32 = some (.iconst 0, 1, 0, 0) := rfl
theorem i103_33 : mm_cd 103 33 = some (.ireturn, 1, 0, 0) := rfl
/-- SerialGate$Tape.isWithin(ICC)Z -/
def q103 (v1 : Int32) (v2 : Int32) (v3 : Int32) (s : mS) : Option mQ := if (s.1 1 1) ≤ v1 then (rv (0 : Int32) s) else (gA 400 v1 <| if (s.1 2 v1.toNatClampNeg) < v2 then (rv (0 : Int32) s) else (gA 400 v1 <| if v3 < (s.1 2 v1.toNatClampNeg) then (rv (0 : Int32) s) else (rv (1 : Int32) s)))
theorem c103 {L : Nat} {xs : Nat → Int32} {v1 : Int32} {v2 : Int32} {v3 : Int32} {s : mS} {r : mQ} (h : q103 v1 v2 v3 s = some r) : ∀ d, 0 ≤ d → Cl L xs d 103 [.ref 1, .int v1, .int v2, .int v3] (hp s) (hr r) := by
  intro d hd
  show Ev L xs d 103 0 [(0, .ref 1), (1, .int v1), (2, .int v2), (3, .int v3)] [] (hp s) (hr r)
  unfold q103 at h
  refine Ev.iload_n H103 i103_0 rfl ?_
  refine Ev.aload_n H103 i103_1 rfl ?_
  refine Rd.getI H103 i103_2 ob8 rfl ?_
  refine Rd.ic_ge H103 i103_5 (t := 32) (by decide) h (fun hc h => ?_) (fun hc h => ?_)
  · refine Ev.iconst H103 i103_32 kI_0 ?_
    exact Rd.ireturnK H103 i103_33 rfl (Or.inl rfl) h
  · refine Ev.aload_n H103 i103_8 rfl ?_
    refine Rd.getR H103 i103_9 ob8 rfl ?_
    refine Ev.iload_n H103 i103_12 rfl ?_
    refine Rd.iaload H103 i103_13 ar_2 h (fun h => ?_)
    refine Ev.iload_n H103 i103_14 rfl ?_
    refine Rd.ic_lt H103 i103_15 (t := 32) (by decide) h (fun hc h => ?_) (fun hc h => ?_)
    · refine Ev.iconst H103 i103_32 kI_0 ?_
      exact Rd.ireturnK H103 i103_33 rfl (Or.inl rfl) h
    · refine Ev.aload_n H103 i103_18 rfl ?_
      refine Rd.getR H103 i103_19 ob8 rfl ?_
      refine Ev.iload_n H103 i103_22 rfl ?_
      refine Rd.iaload H103 i103_23 ar_2 h (fun h => ?_)
      refine Ev.iload_n H103 i103_24 rfl ?_
      refine Rd.ic_gt H103 i103_25 (t := 32) (by decide) h (fun hc h => ?_) (fun hc h => ?_)
      · refine Ev.iconst H103 i103_32 kI_0 ?_
        exact Rd.ireturnK H103 i103_33 rfl (Or.inl rfl) h
      · refine Ev.iconst H103 i103_28 kI_1 ?_
        refine Ev.goto H103 i103_29 (t := 33) (by decide) ?_
        exact Rd.ireturnK H103 i103_33 rfl (Or.inr rfl) h
theorem i105_0 : mm_cd 105 0 = some (.aload_n 1, 1, 0, 0) := rfl
theorem i105_1 : mm_cd 105 1 = some (.invokevirtual 30, 3, 1, 0) := rfl
theorem i105_4 : mm_cd 105 4 = some (.istore_n 2, 1, 0, 0) := rfl
theorem i105_5 : mm_cd 105 5 = some (.iconst 0, 1, 0, 0) := rfl
theorem i105_6 : mm_cd 105 6 = some (.istore_n 3, 1, 0, 0) := rfl
theorem i105_7 : mm_cd 105 7 = some (.iload_n 3, 1, 0, 0) := rfl
theorem i105_8 : mm_cd 105 8 = some (.iload_n 2, 1, 0, 0) := rfl
theorem i105_9 : mm_cd 105 9 = some (.if_icmp .ge 43, 3, 0, 0) := rfl
theorem i105_12 : mm_cd 105 12 = some (.aload_n 0, 1, 0, 0) := rfl
theorem i105_13 : mm_cd 105 13 = some (.getfield 19, 3, ((8 : Nat) : Int), 2) := rfl
theorem i105_16 : mm_cd 105 16 = some (.iload_n 3, 1, 0, 0) := rfl
theorem i105_17 : mm_cd 105 17 = some (.iadd, 1, 0, 0) := rfl
theorem i105_18 : mm_cd 105 18 = some (.aload_n 0, 1, 0, 0) := rfl
theorem i105_19 : mm_cd 105 19 = some (.getfield 15, 3, ((8 : Nat) : Int), 1) := rfl
theorem i105_22 : mm_cd 105 22 = some (.if_icmp .ge 22, 3, 0, 0) := rfl
theorem i105_25 : mm_cd 105 25 = some (.aload_n 0, 1, 0, 0) := rfl
theorem i105_26 : mm_cd 105 26 = some (.getfield 11, 3, ((8 : Nat) : Int), 0) := rfl
theorem i105_29 : mm_cd 105 29 = some (.aload_n 0, 1, 0, 0) := rfl
theorem i105_30 : mm_cd 105 30 = some (.getfield 19, 3, ((8 : Nat) : Int), 2) := rfl
theorem i105_33 : mm_cd 105 33 = some (.iload_n 3, 1, 0, 0) := rfl
theorem i105_34 : mm_cd 105 34 = some (.iadd, 1, 0, 0) := rfl
theorem i105_35 : mm_cd 105 35 = some (.iaload, 1, 0, 0) := rfl
theorem i105_36 : mm_cd 105 36 = some (.aload_n 1, 1, 0, 0) := rfl
theorem i105_37 : mm_cd 105 37 = some (.iload_n 3, 1, 0, 0) := rfl
theorem i105_38 : mm_cd 105 38 = some (.invokevirtual 35, 3, 2, 0) := rfl
theorem i105_41 : mm_cd 105 41 = some (.if_icmp .eq 5, 3, 0, 0) := rfl
theorem i105_44 : mm_cd 105 44 = some (.iconst 0, 1, 0, 0) := rfl
theorem i105_45 : mm_cd 105 45 = some (.ireturn, 1, 0, 0) := rfl
theorem i105_46 : mm_cd 105 46 = some (.iinc 3 1, 3, 0, 0) := rfl
theorem i105_49 : mm_cd 105 49 = some (.goto (-42), 3, 0, 0) := rfl
theorem i105_52 : mm_cd 105 52 = some (.aload_n 0, 1, 0, 0) := rfl
theorem i105_53 : mm_cd 105 53 = some (.aload_n 0, 1, 0, 0) := rfl
theorem i105_54 : mm_cd 105 54 = some (.getfield 19, 3, ((8 : Nat) : Int), 2) := rfl
theorem i105_57 : mm_cd 105 57 = some (.iload_n 2, 1, 0, 0) := rfl
theorem i105_58 : mm_cd 105 58 = some (.iadd, 1, 0, 0) := rfl
theorem i105_59 : mm_cd 105 59 = some (.bipush 97, 2, 0, 0) := rfl
theorem i105_61 : mm_cd 105 61 = some (.bipush 122, 2, 0, 0) := rfl
theorem i105_63 : mm_cd 105 63 = some (.invokevirtual 26, 3, 0, 103) := rfl
theorem i105_66 : mm_cd 105 66 = some (.ifCond .eq 5, 3, 0, 0) := rfl
theorem i105_69 : mm_cd 105 69 = some (.iconst 0, 1, 0, 0) := rfl
theorem i105_70 : mm_cd 105 70 = some (.ireturn, 1, 0, 0) := rfl
theorem i105_71 : mm_cd 105 71 = some (.aload_n 0, 1, 0, 0) := rfl
theorem i105_72 : mm_cd 105 72 = some (.iload_n 2, 1, 0, 0) := rfl
theorem i105_73 : mm_cd 105 73 = some (.invokevirtual 22, 3, 0, 102) := rfl
theorem i105_76 : mm_cd 105 76 = some (.iconst 1, 1, 0, 0) := rfl
theorem i105_77 : mm_cd 105 77 = some (.ireturn, 1, 0, 0) := rfl
def q105_7 (k52 : Int32 → mS → Option mQ) (tx : Nat) : Nat → Int32 → Int32 → mS → Option mQ
  | 0, _, _, _ => none
  | n + 1, v2, v3, s => if v2 ≤ v3 then (k52 v2 s) else (if (s.1 1 1) ≤ ((s.1 1 2) + v3) then (rv (0 : Int32) s) else (gA 400 ((s.1 1 2) + v3) <| gA (mm_txt tx).length v3 <| if (s.1 2 ((s.1 1 2) + v3).toNatClampNeg) = ((mm_txt tx).getD v3.toNatClampNeg 0) then (bx (v3 + (1 : Int32)) fun x1 => q105_7 k52 tx n v2 x1 s) else (rv (0 : Int32) s)))
theorem t105_7 {L : Nat} {xs : Nat → Int32} {d : Nat} {k52 : Int32 → mS → Option mQ} {tx : Nat} (hk52 : ∀ (v2 : Int32) (s : mS) (r : mQ), k52 v2 s = some r → Ev L xs d 105 52 [(0, .ref 1), (2, .int v2)] [] (hp s) (hr r)) (mtx : tx < 36) (hd : 1 ≤ d) : ∀ (n : Nat) (v2 : Int32) (v3 : Int32) (s : mS) (r : mQ), q105_7 k52 tx n v2 v3 s = some r → Ev L xs d 105 7 [(0, .ref 1), (1, .retAddr tx), (2, .int v2), (3, .int v3)] [] (hp s) (hr r) := by
  intro n
  induction n with
  | zero => intro v2 v3 s r h; rw [q105_7] at h; cases h
  | succ n ih =>
    intro v2 v3 s r h
    rw [q105_7] at h
    refine Ev.iload_n H105 i105_7 rfl ?_
    refine Ev.iload_n H105 i105_8 rfl ?_
    refine Rd.ic_ge H105 i105_9 (t := 52) (by decide) h (fun hc h => ?_) (fun hc h => ?_)
    · exact Ev.sub (l := [(0, .ref 1), (2, .int v2)]) rfl rfl (mm_sub_c rfl (mm_sub_c rfl mm_sub_n)) (hk52 _ _ _ h)
    · refine Ev.aload_n H105 i105_12 rfl ?_
      refine Rd.getI H105 i105_13 ob8 rfl ?_
      refine Ev.iload_n H105 i105_16 rfl ?_
      refine Ev.iadd H105 i105_17 ?_
      refine Ev.aload_n H105 i105_18 rfl ?_
      refine Rd.getI H105 i105_19 ob8 rfl ?_
      refine Rd.ic_ge H105 i105_22 (t := 44) (by decide) h (fun hc h => ?_) (fun hc h => ?_)
      · refine Ev.iconst H105 i105_44 kI_0 ?_
        exact Rd.ireturnK H105 i105_45 rfl (Or.inl rfl) h
      · refine Ev.aload_n H105 i105_25 rfl ?_
        refine Rd.getR H105 i105_26 ob8 rfl ?_
        refine Ev.aload_n H105 i105_29 rfl ?_
        refine Rd.getI H105 i105_30 ob8 rfl ?_
        refine Ev.iload_n H105 i105_33 rfl ?_
        refine Ev.iadd H105 i105_34 ?_
        refine Rd.iaload H105 i105_35 ar_2 h (fun h => ?_)
        refine Ev.aload_nT H105 i105_36 rfl ?_
        refine Ev.iload_n H105 i105_37 rfl ?_
        refine Rd.schr H105 i105_38 (Nat.le_of_ble_eq_true rfl) mtx h (fun h => ?_)
        refine Rd.ic_eq H105 i105_41 (t := 46) (by decide) h (fun hc h => ?_) (fun hc h => ?_)
        · refine Rd.iinc H105 i105_46 (Nat.le_of_ble_eq_true rfl) rfl kI_1 (lv2 := fun x1 => [(3, .int x1), (0, .ref 1), (1, .retAddr tx), (2, .int v2)]) (fun _ => rfl) h (fun x1 h => ?_)
          refine Ev.goto H105 i105_49 (t := 7) (by decide) ?_
          exact Ev.sub (l := [(0, .ref 1), (1, .retAddr tx), (2, .int v2), (3, .int x1)]) rfl rfl (mm_sub_c rfl (mm_sub_c rfl (mm_sub_c rfl (mm_sub_c rfl mm_sub_n)))) (ih _ _ _ _ h)
        · refine Ev.iconst H105 i105_44 kI_0 ?_
          exact Rd.ireturnK H105 i105_45 rfl (Or.inl rfl) h
def q105_52 (tx : Nat) (v2 : Int32) (s : mS) : Option mQ := bN (q103 ((s.1 1 2) + v2) (97 : Int32) (122 : Int32) s) fun x3 s2 => if x3 = 0 then (bM (q102 v2 s2) fun s4 => rv (1 : Int32) s4) else (rv (0 : Int32) s2)
theorem t105_52 {L : Nat} {xs : Nat → Int32} {d : Nat} {tx : Nat} (mtx : tx < 36) (hd : 1 ≤ d) {v2 : Int32} {s : mS} {r : mQ} (h : q105_52 tx v2 s = some r) : Ev L xs d 105 52 [(0, .ref 1), (2, .int v2)] [] (hp s) (hr r) := by
  unfold q105_52 at h
  refine Ev.aload_n H105 i105_52 rfl ?_
  refine Ev.aload_n H105 i105_53 rfl ?_
  refine Rd.getI H105 i105_54 ob8 rfl ?_
  refine Ev.iload_n H105 i105_57 rfl ?_
  refine Ev.iadd H105 i105_58 ?_
  refine Ev.bipush H105 i105_59 kB_97 ?_
  refine Ev.bipush H105 i105_61 kB_122 ?_
  refine Rd.cV3vN H105 i105_63 cal103 ob8 (Nat.le_of_ble_eq_true rfl) (Nat.le_of_ble_eq_true rfl) (Nat.lt_of_lt_of_le (by decide) hd) (fun q hq => c103 hq) h (fun x3 s2 h => ?_)
  refine Rd.if_eq H105 i105_66 (t := 71) (by decide) h (fun hc h => ?_) (fun hc h => ?_)
  · refine Ev.aload_n H105 i105_71 rfl ?_
    refine Ev.iload_n H105 i105_72 rfl ?_
    refine Rd.cV1uN H105 i105_73 cal102 ob8 (Nat.le_of_ble_eq_true rfl) (Nat.le_of_ble_eq_true rfl) (Nat.lt_of_lt_of_le (by decide) hd) (fun q hq => c102 hq) h (fun s4 h => ?_)
    refine Ev.iconst H105 i105_76 kI_1 ?_
    exact Rd.ireturnK H105 i105_77 rfl (Or.inr rfl) h
  · refine Ev.iconst H105 i105_69 kI_0 ?_
    exact Rd.ireturnK H105 i105_70 rfl (Or.inl rfl) h
/-- SerialGate$Tape.takesWord(Ljava/lang/String;)Z -/
def q105 (tx : Nat) (s : mS) : Option mQ := bx (Int32.ofNat (mm_txt tx).length) fun x5 => q105_7 (q105_52 tx) tx 10000 x5 (0 : Int32) s
theorem c105 {L : Nat} {xs : Nat → Int32} {tx : Nat} (mtx : tx < 36) {s : mS} {r : mQ} (h : q105 tx s = some r) : ∀ d, 1 ≤ d → Cl L xs d 105 [.ref 1, .retAddr tx] (hp s) (hr r) := by
  intro d hd
  show Ev L xs d 105 0 [(0, .ref 1), (1, .retAddr tx)] [] (hp s) (hr r)
  unfold q105 at h
  refine Ev.aload_nT H105 i105_0 rfl ?_
  refine Rd.slen H105 i105_1 (Nat.le_of_ble_eq_true rfl) mtx ?_
  refine Rd.istore_n H105 i105_4 (Nat.le_of_ble_eq_true rfl) (lv2 := fun x5 => [(2, .int x5), (0, .ref 1), (1, .retAddr tx)]) (fun _ => rfl) h (fun x5 h => ?_)
  refine Ev.iconst H105 i105_5 kI_0 ?_
  refine Ev.istore_n H105 i105_6 (Nat.le_of_ble_eq_true rfl) (lv2 := [(3, .int (0 : Int32)), (2, .int x5), (0, .ref 1), (1, .retAddr tx)]) rfl ?_
  exact Ev.sub (l := [(0, .ref 1), (1, .retAddr tx), (2, .int x5), (3, .int (0 : Int32))]) rfl rfl (mm_sub_c rfl (mm_sub_c rfl (mm_sub_c rfl (mm_sub_c rfl mm_sub_n)))) (t105_7 (k52 := (q105_52 tx)) (fun _ _ _ h => t105_52 mtx hd h) mtx hd 10000 _ _ _ _ h)
theorem i29_0 : mm_cd 29 0 = some (.aload_n 0, 1, 0, 0) := rfl
theorem i29_1 : mm_cd 29 1 = some (.getfield 29, 3, ((3 : Nat) : Int), 1) := rfl
theorem i29_4 : mm_cd 29 4 = some (.ldc 70, 2, 0, 10) := rfl
theorem i29_6 : mm_cd 29 6 = some (.invokevirtual 55, 3, 0, 105) := rfl
theorem i29_9 : mm_cd 29 9 = some (.ifCond .eq 5, 3, 0, 0) := rfl
theorem i29_12 : mm_cd 29 12 = some (.iconst 0, 1, 0, 0) := rfl
theorem i29_13 : mm_cd 29 13 = some (.ireturn, 1, 0, 0) := rfl
theorem i29_14 : mm_cd 29 14 = some (.aload_n 0, 1, 0, 0) := rfl
theorem i29_15 : mm_cd 29 15 = some (.getfield 29, 3, ((3 : Nat) : Int), 1) := rfl
theorem i29_18 : mm_cd 29 18 = some (.ldc 72, 2, 0, 11) := rfl
theorem i29_20 : mm_cd 29 20 = some (.invokevirtual 55, 3, 0, 105) := rfl
theorem i29_23 : mm_cd 29 23 = some (.ifCond .eq 5, 3, 0, 0) := rfl
theorem i29_26 : mm_cd 29 26 = some (.iconst 1, 1, 0, 0) := rfl
theorem i29_27 : mm_cd 29 27 = some (.ireturn, 1, 0, 0) := rfl
theorem i29_28 : mm_cd 29 28 = some (.aload_n 0, 1, 0, 0) := rfl
theorem i29_29 : mm_cd 29 29 = some (.getfield 29, 3, ((3 : Nat) : Int), 1) := rfl
theorem i29_32 : mm_cd 29 32 = some (.ldc 74, 2, 0, 12) := rfl
theorem i29_34 : mm_cd 29 34 = some (.invokevirtual 55, 3, 0, 105) := rfl
theorem i29_37 : mm_cd 29 37 = some (.ifCond .eq 7, 3, 0, 0) := rfl
theorem i29_40 : mm_cd 29 40 = some (.iconst 2, 1, 0, 0) := rfl
theorem i29_41 : mm_cd 29 41 = some (.goto 4, 3, 0, 0) := rfl
theorem i29_44 : mm_cd 29 44 = some (.iconst (-1), 1, 0, 0) := rfl
theorem i29_45 : mm_cd 29 45 = some (.ireturn, 1, 0, 0) := rfl
/-- SerialGate$LawReader.takenKind()I -/
def q29 (s : mS) : Option mQ := bN (q105 9 s) fun x2 s1 => if x2 = 0 then (bN (q105 10 s1) fun x4 s3 => if x4 = 0 then (bN (q105 11 s3) fun x6 s5 => if x6 = 0 then (rv (-1 : Int32) s5) else (rv (2 : Int32) s5)) else (rv (1 : Int32) s3)) else (rv (0 : Int32) s1)
theorem c29 {L : Nat} {xs : Nat → Int32} {s : mS} {r : mQ} (h : q29 s = some r) : ∀ d, 2 ≤ d → Cl L xs d 29 [.ref 17] (hp s) (hr r) := by
  intro d hd
  show Ev L xs d 29 0 [(0, .ref 17)] [] (hp s) (hr r)
  unfold q29 at h
  refine Ev.aload_n H29 i29_0 rfl ?_
  refine Rd.getR H29 i29_1 ob3 rfl ?_
  refine Ev.ldcT H29 i29_4 ?_
  refine Rd.cV1vN H29 i29_6 cal105 ob8 (Nat.le_of_ble_eq_true rfl) (Nat.le_of_ble_eq_true rfl) (Nat.lt_of_lt_of_le (by decide) hd) (fun q hq => c105 (by decide) hq) h (fun x2 s1 h => ?_)
  refine Rd.if_eq H29 i29_9 (t := 14) (by decide) h (fun hc h => ?_) (fun hc h => ?_)
  · refine Ev.aload_n H29 i29_14 rfl ?_
    refine Rd.getR H29 i29_15 ob3 rfl ?_
    refine Ev.ldcT H29 i29_18 ?_
    refine Rd.cV1vN H29 i29_20 cal105 ob8 (Nat.le_of_ble_eq_true rfl) (Nat.le_of_ble_eq_true rfl) (Nat.lt_of_lt_of_le (by decide) hd) (fun q hq => c105 (by decide) hq) h (fun x4 s3 h => ?_)
    refine Rd.if_eq H29 i29_23 (t := 28) (by decide) h (fun hc h => ?_) (fun hc h => ?_)
    · refine Ev.aload_n H29 i29_28 rfl ?_
      refine Rd.getR H29 i29_29 ob3 rfl ?_
      refine Ev.ldcT H29 i29_32 ?_
      refine Rd.cV1vN H29 i29_34 cal105 ob8 (Nat.le_of_ble_eq_true rfl) (Nat.le_of_ble_eq_true rfl) (Nat.lt_of_lt_of_le (by decide) hd) (fun q hq => c105 (by decide) hq) h (fun x6 s5 h => ?_)
      refine Rd.if_eq H29 i29_37 (t := 44) (by decide) h (fun hc h => ?_) (fun hc h => ?_)
      · refine Ev.iconst H29 i29_44 kI_m1 ?_
        exact Rd.ireturn H29 i29_45 rfl h
      · refine Ev.iconst H29 i29_40 kI_2 ?_
        refine Ev.goto H29 i29_41 (t := 45) (by decide) ?_
        exact Rd.ireturn H29 i29_45 rfl h
    · refine Ev.iconst H29 i29_26 kI_1 ?_
      exact Rd.ireturn H29 i29_27 rfl h
  · refine Ev.iconst H29 i29_12 kI_0 ?_
    exact Rd.ireturn H29 i29_13 rfl h
theorem i107_0 : mm_cd 107 0 = some (.iconst 0, 1, 0, 0) := rfl
theorem i107_1 : mm_cd 107 1 = some (.istore_n 2, 1, 0, 0) := rfl
theorem i107_2 : mm_cd 107 2 = some (.iconst 0, 1, 0, 0) := rfl
theorem i107_3 : mm_cd 107 3 = some (.istore_n 3, 1, 0, 0) := rfl
theorem i107_4 : mm_cd 107 4 = some (.iload_n 3, 1, 0, 0) := rfl
theorem i107_5 : mm_cd 107 5 = some (.iconst 3, 1, 0, 0) := rfl
theorem i107_6 : mm_cd 107 6 = some (.if_icmp .gt 46, 3, 0, 0) := rfl
theorem i107_9 : mm_cd 107 9 = some (.aload_n 0, 1, 0, 0) := rfl
theorem i107_10 : mm_cd 107 10 = some (.aload_n 0, 1, 0, 0) := rfl
theorem i107_11 : mm_cd 107 11 = some (.getfield 19, 3, ((8 : Nat) : Int), 2) := rfl
theorem i107_14 : mm_cd 107 14 = some (.iload_n 3, 1, 0, 0) := rfl
theorem i107_15 : mm_cd 107 15 = some (.iadd, 1, 0, 0) := rfl
theorem i107_16 : mm_cd 107 16 = some (.bipush 48, 2, 0, 0) := rfl
theorem i107_18 : mm_cd 107 18 = some (.bipush 57, 2, 0, 0) := rfl
theorem i107_20 : mm_cd 107 20 = some (.invokevirtual 26, 3, 0, 103) := rfl
theorem i107_23 : mm_cd 107 23 = some (.ifCond .eq 29, 3, 0, 0) := rfl
theorem i107_26 : mm_cd 107 26 = some (.iload_n 2, 1, 0, 0) := rfl
theorem i107_27 : mm_cd 107 27 = some (.bipush 10, 2, 0, 0) := rfl
theorem i107_29 : mm_cd 107 29 = some (.imul, 1, 0, 0) := rfl
theorem i107_30 : mm_cd 107 30 = some (.aload_n 0, 1, 0, 0) := rfl
theorem i107_31 : mm_cd 107 31 = some (.getfield 11, 3, ((8 : Nat) : Int), 0) := rfl
theorem i107_34 : mm_cd 107 34 = some (.aload_n 0, 1, 0, 0) := rfl
theorem i107_35 : mm_cd 107 35 = some (.getfield 19, 3, ((8 : Nat) : Int), 2) := rfl
theorem i107_38 : mm_cd 107 38 = some (.iload_n 3, 1, 0, 0) := rfl
theorem i107_39 : mm_cd 107 39 = some (.iadd, 1, 0, 0) := rfl
theorem i107_40 : mm_cd 107 40 = some (.iaload, 1, 0, 0) := rfl
theorem i107_41 : mm_cd 107 41 = some (.iadd, 1, 0, 0) := rfl
theorem i107_42 : mm_cd 107 42 = some (.bipush 48, 2, 0, 0) := rfl
theorem i107_44 : mm_cd 107 44 = some (.isub, 1, 0, 0) := rfl
theorem i107_45 : mm_cd 107 45 = some (.istore_n 2, 1, 0, 0) := rfl
theorem i107_46 : mm_cd 107 46 = some (.iinc 3 1, 3, 0, 0) := rfl
theorem i107_49 : mm_cd 107 49 = some (.goto (-45), 3, 0, 0) := rfl
theorem i107_52 : mm_cd 107 52 = some (.iload_n 3, 1, 0, 0) := rfl
theorem i107_53 : mm_cd 107 53 = some (.ifCond .eq 13, 3, 0, 0) := rfl
theorem i107_56 : mm_cd 107 56 = some (.iload_n 3, 1, 0, 0) := rfl
theorem i107_57 : mm_cd 107 57 = some (.iconst 3, 1, 0, 0) := rfl
theorem i107_58 : mm_cd 107 58 = some (.if_icmp .gt 8, 3, 0, 0) := rfl
theorem i107_61 : mm_cd 107 61 = some (.iload_n 2, 1, 0, 0) := rfl
theorem i107_62 : mm_cd 107 62 = some (.iload_n 1, 1, 0, 0) := rfl
theorem i107_63 : mm_cd 107 63 = some (.if_icmp .le 7, 3, 0, 0) := rfl
theorem i107_66 : mm_cd 107 66 = some (.iconst (-1), 1, 0, 0) := rfl
theorem i107_67 : mm_cd 107 67 = some (.goto 4, 3, 0, 0) := rfl
theorem i107_70 : mm_cd 107 70 = some (.iload_n 2, 1, 0, 0) := rfl
theorem i107_71 : mm_cd 107 71 = some (.ireturn, 1, 0, 0) := rfl
def q107_4 (k52 : Int32 → Int32 → Int32 → mS → Option mQ) : Nat → Int32 → Int32 → Int32 → mS → Option mQ
  | 0, _, _, _, _ => none
  | n + 1, v1, v2, v3, s => if (3 : Int32) < v3 then (k52 v1 v2 v3 s) else (bN (q103 ((s.1 1 2) + v3) (48 : Int32) (57 : Int32) s) fun x2 s1 => if x2 = 0 then (k52 v1 v2 v3 s1) else (gA 400 ((s1.1 1 2) + v3) <| bx (((v2 * (10 : Int32)) + (s1.1 2 ((s1.1 1 2) + v3).toNatClampNeg)) - (48 : Int32)) fun x3 => bx (v3 + (1 : Int32)) fun x4 => q107_4 k52 n v1 x3 x4 s1))
theorem t107_4 {L : Nat} {xs : Nat → Int32} {d : Nat} {k52 : Int32 → Int32 → Int32 → mS → Option mQ} (hk52 : ∀ (v1 : Int32) (v2 : Int32) (v3 : Int32) (s : mS) (r : mQ), k52 v1 v2 v3 s = some r → Ev L xs d 107 52 [(1, .int v1), (2, .int v2), (3, .int v3)] [] (hp s) (hr r)) (hd : 1 ≤ d) : ∀ (n : Nat) (v1 : Int32) (v2 : Int32) (v3 : Int32) (s : mS) (r : mQ), q107_4 k52 n v1 v2 v3 s = some r → Ev L xs d 107 4 [(0, .ref 1), (1, .int v1), (2, .int v2), (3, .int v3)] [] (hp s) (hr r) := by
  intro n
  induction n with
  | zero => intro v1 v2 v3 s r h; rw [q107_4] at h; cases h
  | succ n ih =>
    intro v1 v2 v3 s r h
    rw [q107_4] at h
    refine Ev.iload_n H107 i107_4 rfl ?_
    refine Ev.iconst H107 i107_5 kI_3 ?_
    refine Rd.ic_gt H107 i107_6 (t := 52) (by decide) h (fun hc h => ?_) (fun hc h => ?_)
    · exact Ev.sub (l := [(1, .int v1), (2, .int v2), (3, .int v3)]) rfl rfl (mm_sub_c rfl (mm_sub_c rfl (mm_sub_c rfl mm_sub_n))) (hk52 _ _ _ _ _ h)
    · refine Ev.aload_n H107 i107_9 rfl ?_
      refine Ev.aload_n H107 i107_10 rfl ?_
      refine Rd.getI H107 i107_11 ob8 rfl ?_
      refine Ev.iload_n H107 i107_14 rfl ?_
      refine Ev.iadd H107 i107_15 ?_
      refine Ev.bipush H107 i107_16 kB_48 ?_
      refine Ev.bipush H107 i107_18 kB_57 ?_
      refine Rd.cV3vN H107 i107_20 cal103 ob8 (Nat.le_of_ble_eq_true rfl) (Nat.le_of_ble_eq_true rfl) (Nat.lt_of_lt_of_le (by decide) hd) (fun q hq => c103 hq) h (fun x2 s1 h => ?_)
      refine Rd.if_eq H107 i107_23 (t := 52) (by decide) h (fun hc h => ?_) (fun hc h => ?_)
      · exact Ev.sub (l := [(1, .int v1), (2, .int v2), (3, .int v3)]) rfl rfl (mm_sub_c rfl (mm_sub_c rfl (mm_sub_c rfl mm_sub_n))) (hk52 _ _ _ _ _ h)
      · refine Ev.iload_n H107 i107_26 rfl ?_
        refine Ev.bipush H107 i107_27 kB_10 ?_
        refine Ev.imul H107 i107_29 ?_
        refine Ev.aload_n H107 i107_30 rfl ?_
        refine Rd.getR H107 i107_31 ob8 rfl ?_
        refine Ev.aload_n H107 i107_34 rfl ?_
        refine Rd.getI H107 i107_35 ob8 rfl ?_
        refine Ev.iload_n H107 i107_38 rfl ?_
        refine Ev.iadd H107 i107_39 ?_
        refine Rd.iaload H107 i107_40 ar_2 h (fun h => ?_)
        refine Ev.iadd H107 i107_41 ?_
        refine Ev.bipush H107 i107_42 kB_48 ?_
        refine Ev.isub H107 i107_44 ?_
        refine Rd.istore_n H107 i107_45 (Nat.le_of_ble_eq_true rfl) (lv2 := fun x3 => [(2, .int x3), (0, .ref 1), (1, .int v1), (3, .int v3)]) (fun _ => rfl) h (fun x3 h => ?_)
        refine Rd.iinc H107 i107_46 (Nat.le_of_ble_eq_true rfl) rfl kI_1 (lv2 := fun x4 => [(3, .int x4), (2, .int x3), (0, .ref 1), (1, .int v1)]) (fun _ => rfl) h (fun x4 h => ?_)
        refine Ev.goto H107 i107_49 (t := 4) (by decide) ?_
        exact Ev.sub (l := [(0, .ref 1), (1, .int v1), (2, .int x3), (3, .int x4)]) rfl rfl (mm_sub_c rfl (mm_sub_c rfl (mm_sub_c rfl (mm_sub_c rfl mm_sub_n)))) (ih _ _ _ _ _ h)
def q107_66 (s : mS) : Option mQ := rv (-1 : Int32) s
theorem t107_66 {L : Nat} {xs : Nat → Int32} {d : Nat} (hd : 1 ≤ d) {s : mS} {r : mQ} (h : q107_66 s = some r) : Ev L xs d 107 66 [] [] (hp s) (hr r) := by
  unfold q107_66 at h
  refine Ev.iconst H107 i107_66 kI_m1 ?_
  refine Ev.goto H107 i107_67 (t := 71) (by decide) ?_
  exact Rd.ireturn H107 i107_71 rfl h
def q107_52 (v1 : Int32) (v2 : Int32) (v3 : Int32) (s : mS) : Option mQ := if v3 = 0 then (q107_66 s) else (if (3 : Int32) < v3 then (q107_66 s) else (if v2 ≤ v1 then (rv v2 s) else (q107_66 s)))
theorem t107_52 {L : Nat} {xs : Nat → Int32} {d : Nat} (hd : 1 ≤ d) {v1 : Int32} {v2 : Int32} {v3 : Int32} {s : mS} {r : mQ} (h : q107_52 v1 v2 v3 s = some r) : Ev L xs d 107 52 [(1, .int v1), (2, .int v2), (3, .int v3)] [] (hp s) (hr r) := by
  unfold q107_52 at h
  refine Ev.iload_n H107 i107_52 rfl ?_
  refine Rd.if_eq H107 i107_53 (t := 66) (by decide) h (fun hc h => ?_) (fun hc h => ?_)
  · exact Ev.sub (l := []) rfl rfl mm_sub_n (t107_66 hd h)
  · refine Ev.iload_n H107 i107_56 rfl ?_
    refine Ev.iconst H107 i107_57 kI_3 ?_
    refine Rd.ic_gt H107 i107_58 (t := 66) (by decide) h (fun hc h => ?_) (fun hc h => ?_)
    · exact Ev.sub (l := []) rfl rfl mm_sub_n (t107_66 hd h)
    · refine Ev.iload_n H107 i107_61 rfl ?_
      refine Ev.iload_n H107 i107_62 rfl ?_
      refine Rd.ic_le H107 i107_63 (t := 70) (by decide) h (fun hc h => ?_) (fun hc h => ?_)
      · refine Ev.iload_n H107 i107_70 rfl ?_
        exact Rd.ireturn H107 i107_71 rfl h
      · exact Ev.sub (l := []) rfl rfl mm_sub_n (t107_66 hd h)
/-- SerialGate$Tape.nextNumber(I)I -/
def q107 (v1 : Int32) (s : mS) : Option mQ := q107_4 (q107_52) 10000 v1 (0 : Int32) (0 : Int32) s
theorem c107 {L : Nat} {xs : Nat → Int32} {v1 : Int32} {s : mS} {r : mQ} (h : q107 v1 s = some r) : ∀ d, 1 ≤ d → Cl L xs d 107 [.ref 1, .int v1] (hp s) (hr r) := by
  intro d hd
  show Ev L xs d 107 0 [(0, .ref 1), (1, .int v1)] [] (hp s) (hr r)
  unfold q107 at h
  refine Ev.iconst H107 i107_0 kI_0 ?_
  refine Ev.istore_n H107 i107_1 (Nat.le_of_ble_eq_true rfl) (lv2 := [(2, .int (0 : Int32)), (0, .ref 1), (1, .int v1)]) rfl ?_
  refine Ev.iconst H107 i107_2 kI_0 ?_
  refine Ev.istore_n H107 i107_3 (Nat.le_of_ble_eq_true rfl) (lv2 := [(3, .int (0 : Int32)), (2, .int (0 : Int32)), (0, .ref 1), (1, .int v1)]) rfl ?_
  exact Ev.sub (l := [(0, .ref 1), (1, .int v1), (2, .int (0 : Int32)), (3, .int (0 : Int32))]) rfl rfl (mm_sub_c rfl (mm_sub_c rfl (mm_sub_c rfl (mm_sub_c rfl mm_sub_n)))) (t107_4 (k52 := (q107_52)) (fun _ _ _ _ _ h => t107_52 hd h) hd 10000 _ _ _ _ _ h)
theorem i108_0 : mm_cd 108 0 = some (.aload_n 0, 1, 0, 0) := rfl
theorem i108_1 : mm_cd 108 1 = some (.iload_n 1, 1, 0, 0) := rfl
theorem i108_2 : mm_cd 108 2 = some (.invokevirtual 39, 3, 0, 107) := rfl
theorem i108_5 : mm_cd 108 5 = some (.istore_n 2, 1, 0, 0) := rfl
theorem i108_6 : mm_cd 108 6 = some (.iload_n 2, 1, 0, 0) := rfl
theorem i108_7 : mm_cd 108 7 = some (.iconst (-1), 1, 0, 0) := rfl
theorem i108_8 : mm_cd 108 8 = some (.if_icmp .ne 5, 3, 0, 0) := rfl
theorem i108_11 : mm_cd 108 11 = some (.iconst (-1), 1, 0, 0) := rfl
theorem i108_12 : mm_cd 108 12 = some (.ireturn, 1, 0, 0) := rfl
theorem i108_13 : mm_cd 108 13 = some (.iconst 1, 1, 0, 0) := rfl
theorem i108_14 : mm_cd 108 14 = some (.istore_n 3, 1, 0, 0) := rfl
theorem i108_15 : mm_cd 108 15 = some (.iload_n 3, 1, 0, 0) := rfl
theorem i108_16 : mm_cd 108 16 = some (.iconst 3, 1, 0, 0) := rfl
theorem i108_17 : mm_cd 108 17 = some (.if_icmp .ge 26, 3, 0, 0) := rfl
theorem i108_20 : mm_cd 108 20 = some (.aload_n 0, 1, 0, 0) := rfl
theorem i108_21 : mm_cd 108 21 = some (.aload_n 0, 1, 0, 0) := rfl
theorem i108_22 : mm_cd 108 22 = some (.getfield 19, 3, ((8 : Nat) : Int), 2) := rfl
theorem i108_25 : mm_cd 108 25 = some (.iload_n 3, 1, 0, 0) := rfl
theorem i108_26 : mm_cd 108 26 = some (.iadd, 1, 0, 0) := rfl
theorem i108_27 : mm_cd 108 27 = some (.bipush 48, 2, 0, 0) := rfl
theorem i108_29 : mm_cd 108 29 = some (.bipush 57, 2, 0, 0) := rfl
theorem i108_31 : mm_cd 108 31 = some (.invokevirtual 26, 3, 0, 103) := rfl
theorem i108_34 : mm_cd 108 34 = some (.ifCond .eq 9, 3, 0, 0) := rfl
theorem i108_37 : mm_cd 108 37 = some (.iinc 3 1, 3, 0, 0) := rfl
theorem i108_40 : mm_cd 108 40 = some (.goto (-25), 3, 0, 0) := rfl
theorem i108_43 : mm_cd 108 43 = some (.aload_n 0, 1, 0, 0) := rfl
theorem i108_44 : mm_cd 108 44 = some (.iload_n 3, 1, 0, 0) := rfl
theorem i108_45 : mm_cd 108 45 = some (.invokevirtual 22, 3, 0, 102) := rfl
theorem i108_48 : mm_cd 108 48 = some (.iload_n 2, 1, 0, 0) := rfl
theorem i108_49 : mm_cd 108 49 = some (.ireturn, 1, 0, 0) := rfl
def q108_15 (k43 : Int32 → Int32 → mS → Option mQ) : Nat → Int32 → Int32 → mS → Option mQ
  | 0, _, _, _ => none
  | n + 1, v2, v3, s => if (3 : Int32) ≤ v3 then (k43 v2 v3 s) else (bN (q103 ((s.1 1 2) + v3) (48 : Int32) (57 : Int32) s) fun x2 s1 => if x2 = 0 then (k43 v2 v3 s1) else (bx (v3 + (1 : Int32)) fun x3 => q108_15 k43 n v2 x3 s1))
theorem t108_15 {L : Nat} {xs : Nat → Int32} {d : Nat} {k43 : Int32 → Int32 → mS → Option mQ} (hk43 : ∀ (v2 : Int32) (v3 : Int32) (s : mS) (r : mQ), k43 v2 v3 s = some r → Ev L xs d 108 43 [(0, .ref 1), (2, .int v2), (3, .int v3)] [] (hp s) (hr r)) (hd : 2 ≤ d) : ∀ (n : Nat) (v2 : Int32) (v3 : Int32) (s : mS) (r : mQ), q108_15 k43 n v2 v3 s = some r → Ev L xs d 108 15 [(0, .ref 1), (2, .int v2), (3, .int v3)] [] (hp s) (hr r) := by
  intro n
  induction n with
  | zero => intro v2 v3 s r h; rw [q108_15] at h; cases h
  | succ n ih =>
    intro v2 v3 s r h
    rw [q108_15] at h
    refine Ev.iload_n H108 i108_15 rfl ?_
    refine Ev.iconst H108 i108_16 kI_3 ?_
    refine Rd.ic_ge H108 i108_17 (t := 43) (by decide) h (fun hc h => ?_) (fun hc h => ?_)
    · exact Ev.sub (l := [(0, .ref 1), (2, .int v2), (3, .int v3)]) rfl rfl (mm_sub_c rfl (mm_sub_c rfl (mm_sub_c rfl mm_sub_n))) (hk43 _ _ _ _ h)
    · refine Ev.aload_n H108 i108_20 rfl ?_
      refine Ev.aload_n H108 i108_21 rfl ?_
      refine Rd.getI H108 i108_22 ob8 rfl ?_
      refine Ev.iload_n H108 i108_25 rfl ?_
      refine Ev.iadd H108 i108_26 ?_
      refine Ev.bipush H108 i108_27 kB_48 ?_
      refine Ev.bipush H108 i108_29 kB_57 ?_
      refine Rd.cV3vN H108 i108_31 cal103 ob8 (Nat.le_of_ble_eq_true rfl) (Nat.le_of_ble_eq_true rfl) (Nat.lt_of_lt_of_le (by decide) hd) (fun q hq => c103 hq) h (fun x2 s1 h => ?_)
      refine Rd.if_eq H108 i108_34 (t := 43) (by decide) h (fun hc h => ?_) (fun hc h => ?_)
      · exact Ev.sub (l := [(0, .ref 1), (2, .int v2), (3, .int v3)]) rfl rfl (mm_sub_c rfl (mm_sub_c rfl (mm_sub_c rfl mm_sub_n))) (hk43 _ _ _ _ h)
      · refine Rd.iinc H108 i108_37 (Nat.le_of_ble_eq_true rfl) rfl kI_1 (lv2 := fun x3 => [(3, .int x3), (0, .ref 1), (2, .int v2)]) (fun _ => rfl) h (fun x3 h => ?_)
        refine Ev.goto H108 i108_40 (t := 15) (by decide) ?_
        exact Ev.sub (l := [(0, .ref 1), (2, .int v2), (3, .int x3)]) rfl rfl (mm_sub_c rfl (mm_sub_c rfl (mm_sub_c rfl mm_sub_n))) (ih _ _ _ _ h)
def q108_43 (v2 : Int32) (v3 : Int32) (s : mS) : Option mQ := bM (q102 v3 s) fun s4 => rv v2 s4
theorem t108_43 {L : Nat} {xs : Nat → Int32} {d : Nat} (hd : 2 ≤ d) {v2 : Int32} {v3 : Int32} {s : mS} {r : mQ} (h : q108_43 v2 v3 s = some r) : Ev L xs d 108 43 [(0, .ref 1), (2, .int v2), (3, .int v3)] [] (hp s) (hr r) := by
  unfold q108_43 at h
  refine Ev.aload_n H108 i108_43 rfl ?_
  refine Ev.iload_n H108 i108_44 rfl ?_
  refine Rd.cV1uN H108 i108_45 cal102 ob8 (Nat.le_of_ble_eq_true rfl) (Nat.le_of_ble_eq_true rfl) (Nat.lt_of_lt_of_le (by decide) hd) (fun q hq => c102 hq) h (fun s4 h => ?_)
  refine Ev.iload_n H108 i108_48 rfl ?_
  exact Rd.ireturn H108 i108_49 rfl h
/-- SerialGate$Tape.takenNumber(I)I -/
def q108 (v1 : Int32) (s : mS) : Option mQ := bN (q107 v1 s) fun x6 s5 => if ¬ x6 = (-1 : Int32) then (q108_15 (q108_43) 10000 x6 (1 : Int32) s5) else (rv (-1 : Int32) s5)
theorem c108 {L : Nat} {xs : Nat → Int32} {v1 : Int32} {s : mS} {r : mQ} (h : q108 v1 s = some r) : ∀ d, 2 ≤ d → Cl L xs d 108 [.ref 1, .int v1] (hp s) (hr r) := by
  intro d hd
  show Ev L xs d 108 0 [(0, .ref 1), (1, .int v1)] [] (hp s) (hr r)
  unfold q108 at h
  refine Ev.aload_n H108 i108_0 rfl ?_
  refine Ev.iload_n H108 i108_1 rfl ?_
  refine Rd.cV1vN H108 i108_2 cal107 ob8 (Nat.le_of_ble_eq_true rfl) (Nat.le_of_ble_eq_true rfl) (Nat.lt_of_lt_of_le (by decide) hd) (fun q hq => c107 hq) h (fun x6 s5 h => ?_)
  refine Ev.istore_n H108 i108_5 (Nat.le_of_ble_eq_true rfl) (lv2 := [(2, .int x6), (0, .ref 1), (1, .int v1)]) rfl ?_
  refine Ev.iload_n H108 i108_6 rfl ?_
  refine Ev.iconst H108 i108_7 kI_m1 ?_
  refine Rd.ic_ne H108 i108_8 (t := 13) (by decide) h (fun hc h => ?_) (fun hc h => ?_)
  · refine Ev.iconst H108 i108_13 kI_1 ?_
    refine Ev.istore_n H108 i108_14 (Nat.le_of_ble_eq_true rfl) (lv2 := [(3, .int (1 : Int32)), (2, .int x6), (0, .ref 1), (1, .int v1)]) rfl ?_
    exact Ev.sub (l := [(0, .ref 1), (2, .int x6), (3, .int (1 : Int32))]) rfl rfl (mm_sub_c rfl (mm_sub_c rfl (mm_sub_c rfl mm_sub_n))) (t108_15 (k43 := (q108_43)) (fun _ _ _ _ h => t108_43 hd h) hd 10000 _ _ _ _ h)
  · refine Ev.iconst H108 i108_11 kI_m1 ?_
    exact Rd.ireturn H108 i108_12 rfl h
theorem i32_0 : mm_cd 32 0 = some (.aload_n 0, 1, 0, 0) := rfl
theorem i32_1 : mm_cd 32 1 = some (.getfield 22, 3, ((3 : Nat) : Int), 3) := rfl
theorem i32_4 : mm_cd 32 4 = some (.bipush 24, 2, 0, 0) := rfl
theorem i32_6 : mm_cd 32 6 = some (.if_icmp .ge 23, 3, 0, 0) := rfl
theorem i32_9 : mm_cd 32 9 = some (.aload_n 0, 1, 0, 0) := rfl
theorem i32_10 : mm_cd 32 10 = some (.getfield 18, 3, ((3 : Nat) : Int), 2) := rfl
theorem i32_13 : mm_cd 32 13 = some (.aload_n 0, 1, 0, 0) := rfl
theorem i32_14 : mm_cd 32 14 = some (.getfield 22, 3, ((3 : Nat) : Int), 3) := rfl
theorem i32_17 : mm_cd 32 17 = some (.iload_n 1, 1, 0, 0) := rfl
theorem i32_18 : mm_cd 32 18 = some (.iastore, 1, 0, 0) := rfl
theorem i32_19 : mm_cd 32 19 = some (.aload_n 0, 1, 0, 0) := rfl
theorem i32_20 : mm_cd 32 20 = some (.dup, 1, 0, 0) := rfl
theorem i32_21 : mm_cd 32 21 = some (.getfield 22, 3, ((3 : Nat) : Int), 3) := rfl
theorem i32_24 : mm_cd 32 24 = some (.iconst 1, 1, 0, 0) := rfl
theorem i32_25 : mm_cd 32 25 = some (.iadd, 1, 0, 0) := rfl
theorem i32_26 : mm_cd 32 26 = some (.putfield 22, 3, ((3 : Nat) : Int), 3) := rfl
theorem i32_29 : mm_cd 32 29 = some (.return_, 1, 0, 0) := rfl
/-- SerialGate$LawReader.push(I)V -/
def q32 (v1 : Int32) (s : mS) : Option mQ := if (24 : Int32) ≤ (s.1 17 3) then (ru s) else (gA 24 (s.1 17 3) <| sp (sI s 25 (s.1 17 3).toNatClampNeg v1) fun s1 => sp (sI s1 17 3 ((s1.1 17 3) + (1 : Int32))) fun s2 => ru s2)
theorem c32 {L : Nat} {xs : Nat → Int32} {v1 : Int32} {s : mS} {r : mQ} (h : q32 v1 s = some r) : ∀ d, 0 ≤ d → Cl L xs d 32 [.ref 17, .int v1] (hp s) (hr r) := by
  intro d hd
  show Ev L xs d 32 0 [(0, .ref 17), (1, .int v1)] [] (hp s) (hr r)
  unfold q32 at h
  refine Ev.aload_n H32 i32_0 rfl ?_
  refine Rd.getI H32 i32_1 ob3 rfl ?_
  refine Ev.bipush H32 i32_4 kB_24 ?_
  refine Rd.ic_ge H32 i32_6 (t := 29) (by decide) h (fun hc h => ?_) (fun hc h => ?_)
  · exact Rd.return_ H32 i32_29 rfl h
  · refine Ev.aload_n H32 i32_9 rfl ?_
    refine Rd.getR H32 i32_10 ob3 rfl ?_
    refine Ev.aload_n H32 i32_13 rfl ?_
    refine Rd.getI H32 i32_14 ob3 rfl ?_
    refine Ev.iload_n H32 i32_17 rfl ?_
    refine Rd.iastore H32 i32_18 ar_25 h (fun s1 h => ?_)
    refine Ev.aload_n H32 i32_19 rfl ?_
    refine Ev.dup H32 i32_20 rfl ?_
    refine Rd.getI H32 i32_21 ob3 rfl ?_
    refine Ev.iconst H32 i32_24 kI_1 ?_
    refine Ev.iadd H32 i32_25 ?_
    refine Rd.putI H32 i32_26 ob3 rfl ty3_3.1 ty3_3.2 h (fun s2 h => ?_)
    exact Rd.return_ H32 i32_29 rfl h
theorem i31_0 : mm_cd 31 0 = some (.aload_n 0, 1, 0, 0) := rfl
theorem i31_1 : mm_cd 31 1 = some (.dup, 1, 0, 0) := rfl
theorem i31_2 : mm_cd 31 2 = some (.getfield 26, 3, ((3 : Nat) : Int), 4) := rfl
theorem i31_5 : mm_cd 31 5 = some (.iconst 1, 1, 0, 0) := rfl
theorem i31_6 : mm_cd 31 6 = some (.iadd, 1, 0, 0) := rfl
theorem i31_7 : mm_cd 31 7 = some (.putfield 26, 3, ((3 : Nat) : Int), 4) := rfl
theorem i31_10 : mm_cd 31 10 = some (.aload_n 0, 1, 0, 0) := rfl
theorem i31_11 : mm_cd 31 11 = some (.iload_n 1, 1, 0, 0) := rfl
theorem i31_12 : mm_cd 31 12 = some (.invokevirtual 98, 3, 0, 32) := rfl
theorem i31_15 : mm_cd 31 15 = some (.return_, 1, 0, 0) := rfl
/-- SerialGate$LawReader.goDeeper(I)V -/
def q31 (v1 : Int32) (s : mS) : Option mQ := sp (sI s 17 4 ((s.1 17 4) + (1 : Int32))) fun s1 => bM (q32 v1 s1) fun s2 => ru s2
theorem c31 {L : Nat} {xs : Nat → Int32} {v1 : Int32} {s : mS} {r : mQ} (h : q31 v1 s = some r) : ∀ d, 1 ≤ d → Cl L xs d 31 [.ref 17, .int v1] (hp s) (hr r) := by
  intro d hd
  show Ev L xs d 31 0 [(0, .ref 17), (1, .int v1)] [] (hp s) (hr r)
  unfold q31 at h
  refine Ev.aload_n H31 i31_0 rfl ?_
  refine Ev.dup H31 i31_1 rfl ?_
  refine Rd.getI H31 i31_2 ob3 rfl ?_
  refine Ev.iconst H31 i31_5 kI_1 ?_
  refine Ev.iadd H31 i31_6 ?_
  refine Rd.putI H31 i31_7 ob3 rfl ty3_4.1 ty3_4.2 h (fun s1 h => ?_)
  refine Ev.aload_n H31 i31_10 rfl ?_
  refine Ev.iload_n H31 i31_11 rfl ?_
  refine Rd.cV1uN H31 i31_12 cal32 ob3 (Nat.le_of_ble_eq_true rfl) (Nat.le_of_ble_eq_true rfl) (Nat.lt_of_lt_of_le (by decide) hd) (fun q hq => c32 hq) h (fun s2 h => ?_)
  exact Rd.return_ H31 i31_15 rfl h
theorem i104_0 : mm_cd 104 0 = some (.aload_n 0, 1, 0, 0) := rfl
theorem i104_1 : mm_cd 104 1 = some (.aload_n 0, 1, 0, 0) := rfl
theorem i104_2 : mm_cd 104 2 = some (.getfield 19, 3, ((8 : Nat) : Int), 2) := rfl
theorem i104_5 : mm_cd 104 5 = some (.iload_n 1, 1, 0, 0) := rfl
theorem i104_6 : mm_cd 104 6 = some (.iload_n 1, 1, 0, 0) := rfl
theorem i104_7 : mm_cd 104 7 = some (.invokevirtual 26, 3, 0, 103) := rfl
theorem i104_10 : mm_cd 104 10 = some (.ifCond .ne 5, 3, 0, 0) := rfl
theorem i104_13 : mm_cd 104 13 = some (.iconst 0, 1, 0, 0) := rfl
theorem i104_14 : mm_cd 104 14 = some (.ireturn, 1, 0, 0) := rfl
theorem i104_15 : mm_cd 104 15 = some (.aload_n 0, 1, 0, 0) := rfl
theorem i104_16 : mm_cd 104 16 = some (.iconst 1, 1, 0, 0) := rfl
theorem i104_17 : mm_cd 104 17 = some (.invokevirtual 22, 3, 0, 102) := rfl
theorem i104_20 : mm_cd 104 20 = some (.iconst 1, 1, 0, 0) := rfl
theorem i104_21 : mm_cd 104 21 = some (.ireturn, 1, 0, 0) := rfl
/-- SerialGate$Tape.takesSign(C)Z -/
def q104 (v1 : Int32) (s : mS) : Option mQ := bN (q103 (s.1 1 2) v1 v1 s) fun x2 s1 => if ¬ x2 = 0 then (bM (q102 (1 : Int32) s1) fun s3 => rv (1 : Int32) s3) else (rv (0 : Int32) s1)
theorem c104 {L : Nat} {xs : Nat → Int32} {v1 : Int32} {s : mS} {r : mQ} (h : q104 v1 s = some r) : ∀ d, 1 ≤ d → Cl L xs d 104 [.ref 1, .int v1] (hp s) (hr r) := by
  intro d hd
  show Ev L xs d 104 0 [(0, .ref 1), (1, .int v1)] [] (hp s) (hr r)
  unfold q104 at h
  refine Ev.aload_n H104 i104_0 rfl ?_
  refine Ev.aload_n H104 i104_1 rfl ?_
  refine Rd.getI H104 i104_2 ob8 rfl ?_
  refine Ev.iload_n H104 i104_5 rfl ?_
  refine Ev.iload_n H104 i104_6 rfl ?_
  refine Rd.cV3vN H104 i104_7 cal103 ob8 (Nat.le_of_ble_eq_true rfl) (Nat.le_of_ble_eq_true rfl) (Nat.lt_of_lt_of_le (by decide) hd) (fun q hq => c103 hq) h (fun x2 s1 h => ?_)
  refine Rd.if_ne H104 i104_10 (t := 15) (by decide) h (fun hc h => ?_) (fun hc h => ?_)
  · refine Ev.aload_n H104 i104_15 rfl ?_
    refine Ev.iconst H104 i104_16 kI_1 ?_
    refine Rd.cV1uN H104 i104_17 cal102 ob8 (Nat.le_of_ble_eq_true rfl) (Nat.le_of_ble_eq_true rfl) (Nat.lt_of_lt_of_le (by decide) hd) (fun q hq => c102 hq) h (fun s3 h => ?_)
    refine Ev.iconst H104 i104_20 kI_1 ?_
    exact Rd.ireturnK H104 i104_21 rfl (Or.inr rfl) h
  · refine Ev.iconst H104 i104_13 kI_0 ?_
    exact Rd.ireturnK H104 i104_14 rfl (Or.inl rfl) h
theorem i39_0 : mm_cd 39 0 = some (.aload_n 0, 1, 0, 0) := rfl
theorem i39_1 : mm_cd 39 1 = some (.getfield 29, 3, ((3 : Nat) : Int), 1) := rfl
theorem i39_4 : mm_cd 39 4 = some (.ldc 117, 2, 0, 4) := rfl
theorem i39_6 : mm_cd 39 6 = some (.invokevirtual 55, 3, 0, 105) := rfl
theorem i39_9 : mm_cd 39 9 = some (.ifCond .eq 6, 3, 0, 0) := rfl
theorem i39_12 : mm_cd 39 12 = some (.bipush 7, 2, 0, 0) := rfl
theorem i39_14 : mm_cd 39 14 = some (.ireturn, 1, 0, 0) := rfl
theorem i39_15 : mm_cd 39 15 = some (.aload_n 0, 1, 0, 0) := rfl
theorem i39_16 : mm_cd 39 16 = some (.getfield 29, 3, ((3 : Nat) : Int), 1) := rfl
theorem i39_19 : mm_cd 39 19 = some (.ldc 119, 2, 0, 15) := rfl
theorem i39_21 : mm_cd 39 21 = some (.invokevirtual 55, 3, 0, 105) := rfl
theorem i39_24 : mm_cd 39 24 = some (.ifCond .eq 6, 3, 0, 0) := rfl
theorem i39_27 : mm_cd 39 27 = some (.bipush 8, 2, 0, 0) := rfl
theorem i39_29 : mm_cd 39 29 = some (.ireturn, 1, 0, 0) := rfl
theorem i39_30 : mm_cd 39 30 = some (.aload_n 0, 1, 0, 0) := rfl
theorem i39_31 : mm_cd 39 31 = some (.getfield 29, 3, ((3 : Nat) : Int), 1) := rfl
theorem i39_34 : mm_cd 39 34 = some (.ldc 121, 2, 0, 16) := rfl
theorem i39_36 : mm_cd 39 36 = some (.invokevirtual 55, 3, 0, 105) := rfl
theorem i39_39 : mm_cd 39 39 = some (.ifCond .eq 8, 3, 0, 0) := rfl
theorem i39_42 : mm_cd 39 42 = some (.bipush 9, 2, 0, 0) := rfl
theorem i39_44 : mm_cd 39 44 = some (.goto 4, 3, 0, 0) := rfl
theorem i39_47 : mm_cd 39 47 = some (.iconst (-1), 1, 0, 0) := rfl
theorem i39_48 : mm_cd 39 48 = some (.ireturn, 1, 0, 0) := rfl
/-- SerialGate$LawReader.takenFlag()I -/
def q39 (s : mS) : Option mQ := bN (q105 3 s) fun x2 s1 => if x2 = 0 then (bN (q105 14 s1) fun x4 s3 => if x4 = 0 then (bN (q105 15 s3) fun x6 s5 => if x6 = 0 then (rv (-1 : Int32) s5) else (rv (9 : Int32) s5)) else (rv (8 : Int32) s3)) else (rv (7 : Int32) s1)
theorem c39 {L : Nat} {xs : Nat → Int32} {s : mS} {r : mQ} (h : q39 s = some r) : ∀ d, 2 ≤ d → Cl L xs d 39 [.ref 17] (hp s) (hr r) := by
  intro d hd
  show Ev L xs d 39 0 [(0, .ref 17)] [] (hp s) (hr r)
  unfold q39 at h
  refine Ev.aload_n H39 i39_0 rfl ?_
  refine Rd.getR H39 i39_1 ob3 rfl ?_
  refine Ev.ldcT H39 i39_4 ?_
  refine Rd.cV1vN H39 i39_6 cal105 ob8 (Nat.le_of_ble_eq_true rfl) (Nat.le_of_ble_eq_true rfl) (Nat.lt_of_lt_of_le (by decide) hd) (fun q hq => c105 (by decide) hq) h (fun x2 s1 h => ?_)
  refine Rd.if_eq H39 i39_9 (t := 15) (by decide) h (fun hc h => ?_) (fun hc h => ?_)
  · refine Ev.aload_n H39 i39_15 rfl ?_
    refine Rd.getR H39 i39_16 ob3 rfl ?_
    refine Ev.ldcT H39 i39_19 ?_
    refine Rd.cV1vN H39 i39_21 cal105 ob8 (Nat.le_of_ble_eq_true rfl) (Nat.le_of_ble_eq_true rfl) (Nat.lt_of_lt_of_le (by decide) hd) (fun q hq => c105 (by decide) hq) h (fun x4 s3 h => ?_)
    refine Rd.if_eq H39 i39_24 (t := 30) (by decide) h (fun hc h => ?_) (fun hc h => ?_)
    · refine Ev.aload_n H39 i39_30 rfl ?_
      refine Rd.getR H39 i39_31 ob3 rfl ?_
      refine Ev.ldcT H39 i39_34 ?_
      refine Rd.cV1vN H39 i39_36 cal105 ob8 (Nat.le_of_ble_eq_true rfl) (Nat.le_of_ble_eq_true rfl) (Nat.lt_of_lt_of_le (by decide) hd) (fun q hq => c105 (by decide) hq) h (fun x6 s5 h => ?_)
      refine Rd.if_eq H39 i39_39 (t := 47) (by decide) h (fun hc h => ?_) (fun hc h => ?_)
      · refine Ev.iconst H39 i39_47 kI_m1 ?_
        exact Rd.ireturn H39 i39_48 rfl h
      · refine Ev.bipush H39 i39_42 kB_9 ?_
        refine Ev.goto H39 i39_44 (t := 48) (by decide) ?_
        exact Rd.ireturn H39 i39_48 rfl h
    · refine Ev.bipush H39 i39_27 kB_8 ?_
      exact Rd.ireturn H39 i39_29 rfl h
  · refine Ev.bipush H39 i39_12 kB_7 ?_
    exact Rd.ireturn H39 i39_14 rfl h
theorem i40_0 : mm_cd 40 0 = some (.aload_n 0, 1, 0, 0) := rfl
theorem i40_1 : mm_cd 40 1 = some (.getfield 29, 3, ((3 : Nat) : Int), 1) := rfl
theorem i40_4 : mm_cd 40 4 = some (.ldc 123, 2, 0, 17) := rfl
theorem i40_6 : mm_cd 40 6 = some (.invokevirtual 55, 3, 0, 105) := rfl
theorem i40_9 : mm_cd 40 9 = some (.ifCond .eq 7, 3, 0, 0) := rfl
theorem i40_12 : mm_cd 40 12 = some (.sipush 1000, 3, 0, 0) := rfl
theorem i40_15 : mm_cd 40 15 = some (.ireturn, 1, 0, 0) := rfl
theorem i40_16 : mm_cd 40 16 = some (.aload_n 0, 1, 0, 0) := rfl
theorem i40_17 : mm_cd 40 17 = some (.getfield 29, 3, ((3 : Nat) : Int), 1) := rfl
theorem i40_20 : mm_cd 40 20 = some (.ldc 125, 2, 0, 1) := rfl
theorem i40_22 : mm_cd 40 22 = some (.invokevirtual 55, 3, 0, 105) := rfl
theorem i40_25 : mm_cd 40 25 = some (.ifCond .eq 7, 3, 0, 0) := rfl
theorem i40_28 : mm_cd 40 28 = some (.sipush 1001, 3, 0, 0) := rfl
theorem i40_31 : mm_cd 40 31 = some (.ireturn, 1, 0, 0) := rfl
theorem i40_32 : mm_cd 40 32 = some (.aload_n 0, 1, 0, 0) := rfl
theorem i40_33 : mm_cd 40 33 = some (.getfield 29, 3, ((3 : Nat) : Int), 1) := rfl
theorem i40_36 : mm_cd 40 36 = some (.ldc 127, 2, 0, 18) := rfl
theorem i40_38 : mm_cd 40 38 = some (.invokevirtual 55, 3, 0, 105) := rfl
theorem i40_41 : mm_cd 40 41 = some (.ifCond .eq 7, 3, 0, 0) := rfl
theorem i40_44 : mm_cd 40 44 = some (.sipush 1002, 3, 0, 0) := rfl
theorem i40_47 : mm_cd 40 47 = some (.ireturn, 1, 0, 0) := rfl
theorem i40_48 : mm_cd 40 48 = some (.aload_n 0, 1, 0, 0) := rfl
theorem i40_49 : mm_cd 40 49 = some (.getfield 29, 3, ((3 : Nat) : Int), 1) := rfl
theorem i40_52 : mm_cd 40 52 = some (.ldc 129, 2, 0, 2) := rfl
theorem i40_54 : mm_cd 40 54 = some (.invokevirtual 55, 3, 0, 105) := rfl
theorem i40_57 : mm_cd 40 57 = some (.ifCond .eq 7, 3, 0, 0) := rfl
theorem i40_60 : mm_cd 40 60 = some (.sipush 1003, 3, 0, 0) := rfl
theorem i40_63 : mm_cd 40 63 = some (.ireturn, 1, 0, 0) := rfl
theorem i40_64 : mm_cd 40 64 = some (.aload_n 0, 1, 0, 0) := rfl
theorem i40_65 : mm_cd 40 65 = some (.getfield 29, 3, ((3 : Nat) : Int), 1) := rfl
theorem i40_68 : mm_cd 40 68 = some (.ldc 131, 2, 0, 3) := rfl
theorem i40_70 : mm_cd 40 70 = some (.invokevirtual 55, 3, 0, 105) := rfl
theorem i40_73 : mm_cd 40 73 = some (.ifCond .eq 7, 3, 0, 0) := rfl
theorem i40_76 : mm_cd 40 76 = some (.sipush 1004, 3, 0, 0) := rfl
theorem i40_79 : mm_cd 40 79 = some (.ireturn, 1, 0, 0) := rfl
theorem i40_80 : mm_cd 40 80 = some (.aload_n 0, 1, 0, 0) := rfl
theorem i40_81 : mm_cd 40 81 = some (.getfield 29, 3, ((3 : Nat) : Int), 1) := rfl
theorem i40_84 : mm_cd 40 84 = some (.ldc 133, 2, 0, 19) := rfl
theorem i40_86 : mm_cd 40 86 = some (.invokevirtual 55, 3, 0, 105) := rfl
theorem i40_89 : mm_cd 40 89 = some (.ifCond .eq 7, 3, 0, 0) := rfl
theorem i40_92 : mm_cd 40 92 = some (.sipush 1005, 3, 0, 0) := rfl
theorem i40_95 : mm_cd 40 95 = some (.ireturn, 1, 0, 0) := rfl
theorem i40_96 : mm_cd 40 96 = some (.aload_n 0, 1, 0, 0) := rfl
theorem i40_97 : mm_cd 40 97 = some (.getfield 29, 3, ((3 : Nat) : Int), 1) := rfl
theorem i40_100 : mm_cd 40 100 = some (.ldc 135, 2, 0, 20) := rfl
theorem i40_102 : mm_cd 40 102 = some (.invokevirtual 55, 3, 0, 105) := rfl
theorem i40_105 : mm_cd 40 105 = some (.ifCond .eq 9, 3, 0, 0) := rfl
theorem i40_108 : mm_cd 40 108 = some (.sipush 1006, 3, 0, 0) := rfl
theorem i40_111 : mm_cd 40 111 = some (.goto 4, 3, 0, 0) := rfl
theorem i40_114 : mm_cd 40 114 = some (.iconst (-1), 1, 0, 0) := rfl
theorem i40_115 : mm_cd 40 115 = some (.ireturn, 1, 0, 0) := rfl
/-- SerialGate$LawReader.takenFact()I -/
def q40 (s : mS) : Option mQ := bN (q105 16 s) fun x2 s1 => if x2 = 0 then (bN (q105 0 s1) fun x4 s3 => if x4 = 0 then (bN (q105 17 s3) fun x6 s5 => if x6 = 0 then (bN (q105 1 s5) fun x8 s7 => if x8 = 0 then (bN (q105 2 s7) fun x10 s9 => if x10 = 0 then (bN (q105 18 s9) fun x12 s11 => if x12 = 0 then (bN (q105 19 s11) fun x14 s13 => if x14 = 0 then (rv (-1 : Int32) s13) else (rv (1006 : Int32) s13)) else (rv (1005 : Int32) s11)) else (rv (1004 : Int32) s9)) else (rv (1003 : Int32) s7)) else (rv (1002 : Int32) s5)) else (rv (1001 : Int32) s3)) else (rv (1000 : Int32) s1)
theorem c40 {L : Nat} {xs : Nat → Int32} {s : mS} {r : mQ} (h : q40 s = some r) : ∀ d, 2 ≤ d → Cl L xs d 40 [.ref 17] (hp s) (hr r) := by
  intro d hd
  show Ev L xs d 40 0 [(0, .ref 17)] [] (hp s) (hr r)
  unfold q40 at h
  refine Ev.aload_n H40 i40_0 rfl ?_
  refine Rd.getR H40 i40_1 ob3 rfl ?_
  refine Ev.ldcT H40 i40_4 ?_
  refine Rd.cV1vN H40 i40_6 cal105 ob8 (Nat.le_of_ble_eq_true rfl) (Nat.le_of_ble_eq_true rfl) (Nat.lt_of_lt_of_le (by decide) hd) (fun q hq => c105 (by decide) hq) h (fun x2 s1 h => ?_)
  refine Rd.if_eq H40 i40_9 (t := 16) (by decide) h (fun hc h => ?_) (fun hc h => ?_)
  · refine Ev.aload_n H40 i40_16 rfl ?_
    refine Rd.getR H40 i40_17 ob3 rfl ?_
    refine Ev.ldcT H40 i40_20 ?_
    refine Rd.cV1vN H40 i40_22 cal105 ob8 (Nat.le_of_ble_eq_true rfl) (Nat.le_of_ble_eq_true rfl) (Nat.lt_of_lt_of_le (by decide) hd) (fun q hq => c105 (by decide) hq) h (fun x4 s3 h => ?_)
    refine Rd.if_eq H40 i40_25 (t := 32) (by decide) h (fun hc h => ?_) (fun hc h => ?_)
    · refine Ev.aload_n H40 i40_32 rfl ?_
      refine Rd.getR H40 i40_33 ob3 rfl ?_
      refine Ev.ldcT H40 i40_36 ?_
      refine Rd.cV1vN H40 i40_38 cal105 ob8 (Nat.le_of_ble_eq_true rfl) (Nat.le_of_ble_eq_true rfl) (Nat.lt_of_lt_of_le (by decide) hd) (fun q hq => c105 (by decide) hq) h (fun x6 s5 h => ?_)
      refine Rd.if_eq H40 i40_41 (t := 48) (by decide) h (fun hc h => ?_) (fun hc h => ?_)
      · refine Ev.aload_n H40 i40_48 rfl ?_
        refine Rd.getR H40 i40_49 ob3 rfl ?_
        refine Ev.ldcT H40 i40_52 ?_
        refine Rd.cV1vN H40 i40_54 cal105 ob8 (Nat.le_of_ble_eq_true rfl) (Nat.le_of_ble_eq_true rfl) (Nat.lt_of_lt_of_le (by decide) hd) (fun q hq => c105 (by decide) hq) h (fun x8 s7 h => ?_)
        refine Rd.if_eq H40 i40_57 (t := 64) (by decide) h (fun hc h => ?_) (fun hc h => ?_)
        · refine Ev.aload_n H40 i40_64 rfl ?_
          refine Rd.getR H40 i40_65 ob3 rfl ?_
          refine Ev.ldcT H40 i40_68 ?_
          refine Rd.cV1vN H40 i40_70 cal105 ob8 (Nat.le_of_ble_eq_true rfl) (Nat.le_of_ble_eq_true rfl) (Nat.lt_of_lt_of_le (by decide) hd) (fun q hq => c105 (by decide) hq) h (fun x10 s9 h => ?_)
          refine Rd.if_eq H40 i40_73 (t := 80) (by decide) h (fun hc h => ?_) (fun hc h => ?_)
          · refine Ev.aload_n H40 i40_80 rfl ?_
            refine Rd.getR H40 i40_81 ob3 rfl ?_
            refine Ev.ldcT H40 i40_84 ?_
            refine Rd.cV1vN H40 i40_86 cal105 ob8 (Nat.le_of_ble_eq_true rfl) (Nat.le_of_ble_eq_true rfl) (Nat.lt_of_lt_of_le (by decide) hd) (fun q hq => c105 (by decide) hq) h (fun x12 s11 h => ?_)
            refine Rd.if_eq H40 i40_89 (t := 96) (by decide) h (fun hc h => ?_) (fun hc h => ?_)
            · refine Ev.aload_n H40 i40_96 rfl ?_
              refine Rd.getR H40 i40_97 ob3 rfl ?_
              refine Ev.ldcT H40 i40_100 ?_
              refine Rd.cV1vN H40 i40_102 cal105 ob8 (Nat.le_of_ble_eq_true rfl) (Nat.le_of_ble_eq_true rfl) (Nat.lt_of_lt_of_le (by decide) hd) (fun q hq => c105 (by decide) hq) h (fun x14 s13 h => ?_)
              refine Rd.if_eq H40 i40_105 (t := 114) (by decide) h (fun hc h => ?_) (fun hc h => ?_)
              · refine Ev.iconst H40 i40_114 kI_m1 ?_
                exact Rd.ireturn H40 i40_115 rfl h
              · refine Ev.sipush H40 i40_108 kS_1006 ?_
                refine Ev.goto H40 i40_111 (t := 115) (by decide) ?_
                exact Rd.ireturn H40 i40_115 rfl h
            · refine Ev.sipush H40 i40_92 kS_1005 ?_
              exact Rd.ireturn H40 i40_95 rfl h
          · refine Ev.sipush H40 i40_76 kS_1004 ?_
            exact Rd.ireturn H40 i40_79 rfl h
        · refine Ev.sipush H40 i40_60 kS_1003 ?_
          exact Rd.ireturn H40 i40_63 rfl h
      · refine Ev.sipush H40 i40_44 kS_1002 ?_
        exact Rd.ireturn H40 i40_47 rfl h
    · refine Ev.sipush H40 i40_28 kS_1001 ?_
      exact Rd.ireturn H40 i40_31 rfl h
  · refine Ev.sipush H40 i40_12 kS_1000 ?_
    exact Rd.ireturn H40 i40_15 rfl h
theorem i38_0 : mm_cd 38 0 = some (.iconst 0, 1, 0, 0) := rfl
theorem i38_1 : mm_cd 38 1 = some (.istore_n 1, 1, 0, 0) := rfl
theorem i38_2 : mm_cd 38 2 = some (.iload_n 1, 1, 0, 0) := rfl
theorem i38_3 : mm_cd 38 3 = some (.sipush 400, 3, 0, 0) := rfl
theorem i38_6 : mm_cd 38 6 = some (.if_icmp .ge 73, 3, 0, 0) := rfl
theorem i38_9 : mm_cd 38 9 = some (.aload_n 0, 1, 0, 0) := rfl
theorem i38_10 : mm_cd 38 10 = some (.getfield 29, 3, ((3 : Nat) : Int), 1) := rfl
theorem i38_13 : mm_cd 38 13 = some (.sipush 999, 3, 0, 0) := rfl
theorem i38_16 : mm_cd 38 16 = some (.invokevirtual 49, 3, 0, 108) := rfl
theorem i38_19 : mm_cd 38 19 = some (.istore_n 2, 1, 0, 0) := rfl
theorem i38_20 : mm_cd 38 20 = some (.iload_n 2, 1, 0, 0) := rfl
theorem i38_21 : mm_cd 38 21 = some (.iconst (-1), 1, 0, 0) := rfl
theorem i38_22 : mm_cd 38 22 = some (.if_icmp .ne 8, 3, 0, 0) := rfl
theorem i38_25 : mm_cd 38 25 = some (.aload_n 0, 1, 0, 0) := rfl
theorem i38_26 : mm_cd 38 26 = some (.invokevirtual 114, 3, 0, 40) := rfl
theorem i38_29 : mm_cd 38 29 = some (.istore_n 2, 1, 0, 0) := rfl
theorem i38_30 : mm_cd 38 30 = some (.iload_n 2, 1, 0, 0) := rfl
theorem i38_31 : mm_cd 38 31 = some (.iconst (-1), 1, 0, 0) := rfl
theorem i38_32 : mm_cd 38 32 = some (.if_icmp .ne 5, 3, 0, 0) := rfl
theorem i38_35 : mm_cd 38 35 = some (.iconst 0, 1, 0, 0) := rfl
theorem i38_36 : mm_cd 38 36 = some (.ireturn, 1, 0, 0) := rfl
theorem i38_37 : mm_cd 38 37 = some (.aload_n 0, 1, 0, 0) := rfl
theorem i38_38 : mm_cd 38 38 = some (.getfield 12, 3, ((3 : Nat) : Int), 0) := rfl
theorem i38_41 : mm_cd 38 41 = some (.iload_n 2, 1, 0, 0) := rfl
theorem i38_42 : mm_cd 38 42 = some (.invokevirtual 105, 3, 0, 23) := rfl
theorem i38_45 : mm_cd 38 45 = some (.iload_n 1, 1, 0, 0) := rfl
theorem i38_46 : mm_cd 38 46 = some (.ifCond .le 13, 3, 0, 0) := rfl
theorem i38_49 : mm_cd 38 49 = some (.aload_n 0, 1, 0, 0) := rfl
theorem i38_50 : mm_cd 38 50 = some (.getfield 12, 3, ((3 : Nat) : Int), 0) := rfl
theorem i38_53 : mm_cd 38 53 = some (.sipush 2003, 3, 0, 0) := rfl
theorem i38_56 : mm_cd 38 56 = some (.invokevirtual 105, 3, 0, 23) := rfl
theorem i38_59 : mm_cd 38 59 = some (.aload_n 0, 1, 0, 0) := rfl
theorem i38_60 : mm_cd 38 60 = some (.getfield 29, 3, ((3 : Nat) : Int), 1) := rfl
theorem i38_63 : mm_cd 38 63 = some (.bipush 43, 2, 0, 0) := rfl
theorem i38_65 : mm_cd 38 65 = some (.invokevirtual 66, 3, 0, 104) := rfl
theorem i38_68 : mm_cd 38 68 = some (.ifCond .ne 5, 3, 0, 0) := rfl
theorem i38_71 : mm_cd 38 71 = some (.iconst 1, 1, 0, 0) := rfl
theorem i38_72 : mm_cd 38 72 = some (.ireturn, 1, 0, 0) := rfl
theorem i38_73 : mm_cd 38 73 = some (.iinc 1 1, 3, 0, 0) := rfl
theorem i38_76 : mm_cd 38 76 = some (.goto (-74), 3, 0, 0) := rfl
theorem i38_79 : mm_cd 38 79 = some (.iconst 0, 1, 0, 0) := rfl
theorem i38_80 : mm_cd 38 80 = some (.ireturn, 1, 0, 0) := rfl
def q38_59 (k2 : Int32 → mS → Option mQ) (v1 : Int32) (s : mS) : Option mQ := bN (q104 (43 : Int32) s) fun x2 s1 => if ¬ x2 = 0 then (bx (v1 + (1 : Int32)) fun x3 => k2 x3 s1) else (rv (1 : Int32) s1)
theorem t38_59 {L : Nat} {xs : Nat → Int32} {d : Nat} {k2 : Int32 → mS → Option mQ} (hk2 : ∀ (v1 : Int32) (s : mS) (r : mQ), k2 v1 s = some r → Ev L xs d 38 2 [(0, .ref 17), (1, .int v1)] [] (hp s) (hr r)) (hd : 3 ≤ d) {v1 : Int32} {s : mS} {r : mQ} (h : q38_59 k2 v1 s = some r) : Ev L xs d 38 59 [(0, .ref 17), (1, .int v1)] [] (hp s) (hr r) := by
  unfold q38_59 at h
  refine Ev.aload_n H38 i38_59 rfl ?_
  refine Rd.getR H38 i38_60 ob3 rfl ?_
  refine Ev.bipush H38 i38_63 kB_43 ?_
  refine Rd.cV1vN H38 i38_65 cal104 ob8 (Nat.le_of_ble_eq_true rfl) (Nat.le_of_ble_eq_true rfl) (Nat.lt_of_lt_of_le (by decide) hd) (fun q hq => c104 hq) h (fun x2 s1 h => ?_)
  refine Rd.if_ne H38 i38_68 (t := 73) (by decide) h (fun hc h => ?_) (fun hc h => ?_)
  · refine Rd.iinc H38 i38_73 (Nat.le_of_ble_eq_true rfl) rfl kI_1 (lv2 := fun x3 => [(1, .int x3), (0, .ref 17)]) (fun _ => rfl) h (fun x3 h => ?_)
    refine Ev.goto H38 i38_76 (t := 2) (by decide) ?_
    exact Ev.sub (l := [(0, .ref 17), (1, .int x3)]) rfl rfl (mm_sub_c rfl (mm_sub_c rfl mm_sub_n)) (hk2 _ _ _ h)
  · refine Ev.iconst H38 i38_71 kI_1 ?_
    exact Rd.ireturnK H38 i38_72 rfl (Or.inr rfl) h
def q38_30 (k2 : Int32 → mS → Option mQ) (v1 : Int32) (v2 : Int32) (s : mS) : Option mQ := if ¬ v2 = (-1 : Int32) then (bM (q23 18 v2 s) fun s4 => if v1 ≤ 0 then (q38_59 k2 v1 s4) else (bM (q23 18 (2003 : Int32) s4) fun s5 => q38_59 k2 v1 s5)) else (rv (0 : Int32) s)
theorem t38_30 {L : Nat} {xs : Nat → Int32} {d : Nat} {k2 : Int32 → mS → Option mQ} (hk2 : ∀ (v1 : Int32) (s : mS) (r : mQ), k2 v1 s = some r → Ev L xs d 38 2 [(0, .ref 17), (1, .int v1)] [] (hp s) (hr r)) (hd : 3 ≤ d) {v1 : Int32} {v2 : Int32} {s : mS} {r : mQ} (h : q38_30 k2 v1 v2 s = some r) : Ev L xs d 38 30 [(0, .ref 17), (1, .int v1), (2, .int v2)] [] (hp s) (hr r) := by
  unfold q38_30 at h
  refine Ev.iload_n H38 i38_30 rfl ?_
  refine Ev.iconst H38 i38_31 kI_m1 ?_
  refine Rd.ic_ne H38 i38_32 (t := 37) (by decide) h (fun hc h => ?_) (fun hc h => ?_)
  · refine Ev.aload_n H38 i38_37 rfl ?_
    refine Rd.getR H38 i38_38 ob3 rfl ?_
    refine Ev.iload_n H38 i38_41 rfl ?_
    refine Rd.cV1uN H38 i38_42 cal23 (ob2 mA2_18) (Nat.le_of_ble_eq_true rfl) (Nat.le_of_ble_eq_true rfl) (Nat.lt_of_lt_of_le (by decide) hd) (fun q hq => c23 mA2_18 hq) h (fun s4 h => ?_)
    refine Ev.iload_n H38 i38_45 rfl ?_
    refine Rd.if_le H38 i38_46 (t := 59) (by decide) h (fun hc h => ?_) (fun hc h => ?_)
    · exact Ev.sub (l := [(0, .ref 17), (1, .int v1)]) rfl rfl (mm_sub_c rfl (mm_sub_c rfl mm_sub_n)) (t38_59 (k2 := k2) hk2 hd h)
    · refine Ev.aload_n H38 i38_49 rfl ?_
      refine Rd.getR H38 i38_50 ob3 rfl ?_
      refine Ev.sipush H38 i38_53 kS_2003 ?_
      refine Rd.cV1uN H38 i38_56 cal23 (ob2 mA2_18) (Nat.le_of_ble_eq_true rfl) (Nat.le_of_ble_eq_true rfl) (Nat.lt_of_lt_of_le (by decide) hd) (fun q hq => c23 mA2_18 hq) h (fun s5 h => ?_)
      exact Ev.sub (l := [(0, .ref 17), (1, .int v1)]) rfl rfl (mm_sub_c rfl (mm_sub_c rfl mm_sub_n)) (t38_59 (k2 := k2) hk2 hd h)
  · refine Ev.iconst H38 i38_35 kI_0 ?_
    exact Rd.ireturnK H38 i38_36 rfl (Or.inl rfl) h
def q38_2 : Nat → Int32 → mS → Option mQ
  | 0, _, _ => none
  | n + 1, v1, s => if (400 : Int32) ≤ v1 then (rv (0 : Int32) s) else (bN (q108 (999 : Int32) s) fun x7 s6 => if ¬ x7 = (-1 : Int32) then (q38_30 (q38_2 n) v1 x7 s6) else (bN (q40 s6) fun x9 s8 => q38_30 (q38_2 n) v1 x9 s8))
theorem t38_2 {L : Nat} {xs : Nat → Int32} {d : Nat} (hd : 3 ≤ d) : ∀ (n : Nat) (v1 : Int32) (s : mS) (r : mQ), q38_2 n v1 s = some r → Ev L xs d 38 2 [(0, .ref 17), (1, .int v1)] [] (hp s) (hr r) := by
  intro n
  induction n with
  | zero => intro v1 s r h; rw [q38_2] at h; cases h
  | succ n ih =>
    intro v1 s r h
    rw [q38_2] at h
    refine Ev.iload_n H38 i38_2 rfl ?_
    refine Ev.sipush H38 i38_3 kS_400 ?_
    refine Rd.ic_ge H38 i38_6 (t := 79) (by decide) h (fun hc h => ?_) (fun hc h => ?_)
    · refine Ev.iconst H38 i38_79 kI_0 ?_
      exact Rd.ireturnK H38 i38_80 rfl (Or.inl rfl) h
    · refine Ev.aload_n H38 i38_9 rfl ?_
      refine Rd.getR H38 i38_10 ob3 rfl ?_
      refine Ev.sipush H38 i38_13 kS_999 ?_
      refine Rd.cV1vN H38 i38_16 cal108 ob8 (Nat.le_of_ble_eq_true rfl) (Nat.le_of_ble_eq_true rfl) (Nat.lt_of_lt_of_le (by decide) hd) (fun q hq => c108 hq) h (fun x7 s6 h => ?_)
      refine Ev.istore_n H38 i38_19 (Nat.le_of_ble_eq_true rfl) (lv2 := [(2, .int x7), (0, .ref 17), (1, .int v1)]) rfl ?_
      refine Ev.iload_n H38 i38_20 rfl ?_
      refine Ev.iconst H38 i38_21 kI_m1 ?_
      refine Rd.ic_ne H38 i38_22 (t := 30) (by decide) h (fun hc h => ?_) (fun hc h => ?_)
      · exact Ev.sub (l := [(0, .ref 17), (1, .int v1), (2, .int x7)]) rfl rfl (mm_sub_c rfl (mm_sub_c rfl (mm_sub_c rfl mm_sub_n))) (t38_30 (k2 := (q38_2 n)) (fun _ _ _ h => ih _ _ _ h) hd h)
      · refine Ev.aload_n H38 i38_25 rfl ?_
        refine Rd.cV0vN H38 i38_26 cal40 ob3 (Nat.le_of_ble_eq_true rfl) (Nat.le_of_ble_eq_true rfl) (Nat.lt_of_lt_of_le (by decide) hd) (fun q hq => c40 hq) h (fun x9 s8 h => ?_)
        refine Ev.istore_n H38 i38_29 (Nat.le_of_ble_eq_true rfl) (lv2 := [(2, .int x9), (0, .ref 17), (1, .int v1)]) rfl ?_
        exact Ev.sub (l := [(0, .ref 17), (1, .int v1), (2, .int x9)]) rfl rfl (mm_sub_c rfl (mm_sub_c rfl (mm_sub_c rfl mm_sub_n))) (t38_30 (k2 := (q38_2 n)) (fun _ _ _ h => ih _ _ _ h) hd h)
/-- SerialGate$LawReader.readsSum()Z -/
def q38 (s : mS) : Option mQ := q38_2 10000 (0 : Int32) s
theorem c38 {L : Nat} {xs : Nat → Int32} {s : mS} {r : mQ} (h : q38 s = some r) : ∀ d, 3 ≤ d → Cl L xs d 38 [.ref 17] (hp s) (hr r) := by
  intro d hd
  show Ev L xs d 38 0 [(0, .ref 17)] [] (hp s) (hr r)
  unfold q38 at h
  refine Ev.iconst H38 i38_0 kI_0 ?_
  refine Ev.istore_n H38 i38_1 (Nat.le_of_ble_eq_true rfl) (lv2 := [(1, .int (0 : Int32)), (0, .ref 17)]) rfl ?_
  exact Ev.sub (l := [(0, .ref 17), (1, .int (0 : Int32))]) rfl rfl (mm_sub_c rfl (mm_sub_c rfl mm_sub_n)) (t38_2 hd 10000 _ _ _ h)
theorem i37_0 : mm_cd 37 0 = some (.aload_n 0, 1, 0, 0) := rfl
theorem i37_1 : mm_cd 37 1 = some (.invokevirtual 108, 3, 0, 39) := rfl
theorem i37_4 : mm_cd 37 4 = some (.istore_n 1, 1, 0, 0) := rfl
theorem i37_5 : mm_cd 37 5 = some (.iload_n 1, 1, 0, 0) := rfl
theorem i37_6 : mm_cd 37 6 = some (.iconst (-1), 1, 0, 0) := rfl
theorem i37_7 : mm_cd 37 7 = some (.if_icmp .eq 17, 3, 0, 0) := rfl
theorem i37_10 : mm_cd 37 10 = some (.aload_n 0, 1, 0, 0) := rfl
theorem i37_11 : mm_cd 37 11 = some (.getfield 12, 3, ((3 : Nat) : Int), 0) := rfl
theorem i37_14 : mm_cd 37 14 = some (.sipush 1000, 3, 0, 0) := rfl
theorem i37_17 : mm_cd 37 17 = some (.iload_n 1, 1, 0, 0) := rfl
theorem i37_18 : mm_cd 37 18 = some (.iadd, 1, 0, 0) := rfl
theorem i37_19 : mm_cd 37 19 = some (.invokevirtual 105, 3, 0, 23) := rfl
theorem i37_22 : mm_cd 37 22 = some (.iconst 1, 1, 0, 0) := rfl
theorem i37_23 : mm_cd 37 23 = some (.ireturn, 1, 0, 0) := rfl
theorem i37_24 : mm_cd 37 24 = some (.aload_n 0, 1, 0, 0) := rfl
theorem i37_25 : mm_cd 37 25 = some (.invokevirtual 111, 3, 0, 38) := rfl
theorem i37_28 : mm_cd 37 28 = some (.ifCond .ne 5, 3, 0, 0) := rfl
theorem i37_31 : mm_cd 37 31 = some (.iconst 0, 1, 0, 0) := rfl
theorem i37_32 : mm_cd 37 32 = some (.ireturn, 1, 0, 0) := rfl
theorem i37_33 : mm_cd 37 33 = some (.aload_n 0, 1, 0, 0) := rfl
theorem i37_34 : mm_cd 37 34 = some (.getfield 29, 3, ((3 : Nat) : Int), 1) := rfl
theorem i37_37 : mm_cd 37 37 = some (.bipush 60, 2, 0, 0) := rfl
theorem i37_39 : mm_cd 37 39 = some (.invokevirtual 66, 3, 0, 104) := rfl
theorem i37_42 : mm_cd 37 42 = some (.ifCond .eq 9, 3, 0, 0) := rfl
theorem i37_45 : mm_cd 37 45 = some (.sipush 2004, 3, 0, 0) := rfl
theorem i37_48 : mm_cd 37 48 = some (.goto 22, 3, 0, 0) := rfl
theorem i37_51 : mm_cd 37 51 = some (.aload_n 0, 1, 0, 0) := rfl
theorem i37_52 : mm_cd 37 52 = some (.getfield 29, 3, ((3 : Nat) : Int), 1) := rfl
theorem i37_55 : mm_cd 37 55 = some (.bipush 62, 2, 0, 0) := rfl
theorem i37_57 : mm_cd 37 57 = some (.invokevirtual 66, 3, 0, 104) := rfl
theorem i37_60 : mm_cd 37 60 = some (.ifCond .eq 9, 3, 0, 0) := rfl
theorem i37_63 : mm_cd 37 63 = some (.sipush 2005, 3, 0, 0) := rfl
theorem i37_66 : mm_cd 37 66 = some (.goto 4, 3, 0, 0) := rfl
theorem i37_69 : mm_cd 37 69 = some (.iconst (-1), 1, 0, 0) := rfl
theorem i37_70 : mm_cd 37 70 = some (.istore_n 2, 1, 0, 0) := rfl
theorem i37_71 : mm_cd 37 71 = some (.iload_n 2, 1, 0, 0) := rfl
theorem i37_72 : mm_cd 37 72 = some (.iconst (-1), 1, 0, 0) := rfl
theorem i37_73 : mm_cd 37 73 = some (.if_icmp .eq 10, 3, 0, 0) := rfl
theorem i37_76 : mm_cd 37 76 = some (.aload_n 0, 1, 0, 0) := rfl
theorem i37_77 : mm_cd 37 77 = some (.invokevirtual 111, 3, 0, 38) := rfl
theorem i37_80 : mm_cd 37 80 = some (.ifCond .ne 5, 3, 0, 0) := rfl
theorem i37_83 : mm_cd 37 83 = some (.iconst 0, 1, 0, 0) := rfl
theorem i37_84 : mm_cd 37 84 = some (.ireturn, 1, 0, 0) := rfl
theorem i37_85 : mm_cd 37 85 = some (.aload_n 0, 1, 0, 0) := rfl
theorem i37_86 : mm_cd 37 86 = some (.getfield 12, 3, ((3 : Nat) : Int), 0) := rfl
theorem i37_89 : mm_cd 37 89 = some (.iload_n 2, 1, 0, 0) := rfl
theorem i37_90 : mm_cd 37 90 = some (.invokevirtual 105, 3, 0, 23) := rfl
theorem i37_93 : mm_cd 37 93 = some (.iconst 1, 1, 0, 0) := rfl
theorem i37_94 : mm_cd 37 94 = some (.ireturn, 1, 0, 0) := rfl
def q37_70 (y0 : Int32) (s : mS) : Option mQ := if y0 = (-1 : Int32) then (rv (0 : Int32) s) else (bN (q38 s) fun x2 s1 => if ¬ x2 = 0 then (bM (q23 18 y0 s1) fun s3 => rv (1 : Int32) s3) else (rv (0 : Int32) s1))
theorem t37_70 {L : Nat} {xs : Nat → Int32} {d : Nat} (hd : 4 ≤ d) {y0 : Int32} {s : mS} {r : mQ} (h : q37_70 y0 s = some r) : Ev L xs d 37 70 [(0, .ref 17)] [.int y0] (hp s) (hr r) := by
  unfold q37_70 at h
  refine Ev.istore_n H37 i37_70 (Nat.le_of_ble_eq_true rfl) (lv2 := [(2, .int y0), (0, .ref 17)]) rfl ?_
  refine Ev.iload_n H37 i37_71 rfl ?_
  refine Ev.iconst H37 i37_72 kI_m1 ?_
  refine Rd.ic_eq H37 i37_73 (t := 83) (by decide) h (fun hc h => ?_) (fun hc h => ?_)
  · refine Ev.iconst H37 i37_83 kI_0 ?_
    exact Rd.ireturnK H37 i37_84 rfl (Or.inl rfl) h
  · refine Ev.aload_n H37 i37_76 rfl ?_
    refine Rd.cV0vN H37 i37_77 cal38 ob3 (Nat.le_of_ble_eq_true rfl) (Nat.le_of_ble_eq_true rfl) (Nat.lt_of_lt_of_le (by decide) hd) (fun q hq => c38 hq) h (fun x2 s1 h => ?_)
    refine Rd.if_ne H37 i37_80 (t := 85) (by decide) h (fun hc h => ?_) (fun hc h => ?_)
    · refine Ev.aload_n H37 i37_85 rfl ?_
      refine Rd.getR H37 i37_86 ob3 rfl ?_
      refine Ev.iload_n H37 i37_89 rfl ?_
      refine Rd.cV1uN H37 i37_90 cal23 (ob2 mA2_18) (Nat.le_of_ble_eq_true rfl) (Nat.le_of_ble_eq_true rfl) (Nat.lt_of_lt_of_le (by decide) hd) (fun q hq => c23 mA2_18 hq) h (fun s3 h => ?_)
      refine Ev.iconst H37 i37_93 kI_1 ?_
      exact Rd.ireturnK H37 i37_94 rfl (Or.inr rfl) h
    · refine Ev.iconst H37 i37_83 kI_0 ?_
      exact Rd.ireturnK H37 i37_84 rfl (Or.inl rfl) h
/-- SerialGate$LawReader.readsAtom()Z -/
def q37 (s : mS) : Option mQ := bN (q39 s) fun x5 s4 => if x5 = (-1 : Int32) then (bN (q38 s4) fun x7 s6 => if ¬ x7 = 0 then (bN (q104 (60 : Int32) s6) fun x9 s8 => if x9 = 0 then (bN (q104 (62 : Int32) s8) fun x11 s10 => if x11 = 0 then (q37_70 (-1 : Int32) s10) else (q37_70 (2005 : Int32) s10)) else (q37_70 (2004 : Int32) s8)) else (rv (0 : Int32) s6)) else (bM (q23 18 ((1000 : Int32) + x5) s4) fun s12 => rv (1 : Int32) s12)
theorem c37 {L : Nat} {xs : Nat → Int32} {s : mS} {r : mQ} (h : q37 s = some r) : ∀ d, 4 ≤ d → Cl L xs d 37 [.ref 17] (hp s) (hr r) := by
  intro d hd
  show Ev L xs d 37 0 [(0, .ref 17)] [] (hp s) (hr r)
  unfold q37 at h
  refine Ev.aload_n H37 i37_0 rfl ?_
  refine Rd.cV0vN H37 i37_1 cal39 ob3 (Nat.le_of_ble_eq_true rfl) (Nat.le_of_ble_eq_true rfl) (Nat.lt_of_lt_of_le (by decide) hd) (fun q hq => c39 hq) h (fun x5 s4 h => ?_)
  refine Ev.istore_n H37 i37_4 (Nat.le_of_ble_eq_true rfl) (lv2 := [(1, .int x5), (0, .ref 17)]) rfl ?_
  refine Ev.iload_n H37 i37_5 rfl ?_
  refine Ev.iconst H37 i37_6 kI_m1 ?_
  refine Rd.ic_eq H37 i37_7 (t := 24) (by decide) h (fun hc h => ?_) (fun hc h => ?_)
  · refine Ev.aload_n H37 i37_24 rfl ?_
    refine Rd.cV0vN H37 i37_25 cal38 ob3 (Nat.le_of_ble_eq_true rfl) (Nat.le_of_ble_eq_true rfl) (Nat.lt_of_lt_of_le (by decide) hd) (fun q hq => c38 hq) h (fun x7 s6 h => ?_)
    refine Rd.if_ne H37 i37_28 (t := 33) (by decide) h (fun hc h => ?_) (fun hc h => ?_)
    · refine Ev.aload_n H37 i37_33 rfl ?_
      refine Rd.getR H37 i37_34 ob3 rfl ?_
      refine Ev.bipush H37 i37_37 kB_60 ?_
      refine Rd.cV1vN H37 i37_39 cal104 ob8 (Nat.le_of_ble_eq_true rfl) (Nat.le_of_ble_eq_true rfl) (Nat.lt_of_lt_of_le (by decide) hd) (fun q hq => c104 hq) h (fun x9 s8 h => ?_)
      refine Rd.if_eq H37 i37_42 (t := 51) (by decide) h (fun hc h => ?_) (fun hc h => ?_)
      · refine Ev.aload_n H37 i37_51 rfl ?_
        refine Rd.getR H37 i37_52 ob3 rfl ?_
        refine Ev.bipush H37 i37_55 kB_62 ?_
        refine Rd.cV1vN H37 i37_57 cal104 ob8 (Nat.le_of_ble_eq_true rfl) (Nat.le_of_ble_eq_true rfl) (Nat.lt_of_lt_of_le (by decide) hd) (fun q hq => c104 hq) h (fun x11 s10 h => ?_)
        refine Rd.if_eq H37 i37_60 (t := 69) (by decide) h (fun hc h => ?_) (fun hc h => ?_)
        · refine Ev.iconst H37 i37_69 kI_m1 ?_
          exact Ev.sub (l := [(0, .ref 17)]) rfl rfl (mm_sub_c rfl mm_sub_n) (t37_70 hd h)
        · refine Ev.sipush H37 i37_63 kS_2005 ?_
          refine Ev.goto H37 i37_66 (t := 70) (by decide) ?_
          exact Ev.sub (l := [(0, .ref 17)]) rfl rfl (mm_sub_c rfl mm_sub_n) (t37_70 hd h)
      · refine Ev.sipush H37 i37_45 kS_2004 ?_
        refine Ev.goto H37 i37_48 (t := 70) (by decide) ?_
        exact Ev.sub (l := [(0, .ref 17)]) rfl rfl (mm_sub_c rfl mm_sub_n) (t37_70 hd h)
    · refine Ev.iconst H37 i37_31 kI_0 ?_
      exact Rd.ireturnK H37 i37_32 rfl (Or.inl rfl) h
  · refine Ev.aload_n H37 i37_10 rfl ?_
    refine Rd.getR H37 i37_11 ob3 rfl ?_
    refine Ev.sipush H37 i37_14 kS_1000 ?_
    refine Ev.iload_n H37 i37_17 rfl ?_
    refine Ev.iadd H37 i37_18 ?_
    refine Rd.cV1uN H37 i37_19 cal23 (ob2 mA2_18) (Nat.le_of_ble_eq_true rfl) (Nat.le_of_ble_eq_true rfl) (Nat.lt_of_lt_of_le (by decide) hd) (fun q hq => c23 mA2_18 hq) h (fun s12 h => ?_)
    refine Ev.iconst H37 i37_22 kI_1 ?_
    exact Rd.ireturnK H37 i37_23 rfl (Or.inr rfl) h
theorem i33_0 : mm_cd 33 0 = some (.aload_n 0, 1, 0, 0) := rfl
theorem i33_1 : mm_cd 33 1 = some (.getfield 22, 3, ((3 : Nat) : Int), 3) := rfl
theorem i33_4 : mm_cd 33 4 = some (.ifCond .le 37, 3, 0, 0) := rfl
theorem i33_7 : mm_cd 33 7 = some (.aload_n 0, 1, 0, 0) := rfl
theorem i33_8 : mm_cd 33 8 = some (.getfield 18, 3, ((3 : Nat) : Int), 2) := rfl
theorem i33_11 : mm_cd 33 11 = some (.aload_n 0, 1, 0, 0) := rfl
theorem i33_12 : mm_cd 33 12 = some (.getfield 22, 3, ((3 : Nat) : Int), 3) := rfl
theorem i33_15 : mm_cd 33 15 = some (.iconst 1, 1, 0, 0) := rfl
theorem i33_16 : mm_cd 33 16 = some (.isub, 1, 0, 0) := rfl
theorem i33_17 : mm_cd 33 17 = some (.iaload, 1, 0, 0) := rfl
theorem i33_18 : mm_cd 33 18 = some (.iload_n 1, 1, 0, 0) := rfl
theorem i33_19 : mm_cd 33 19 = some (.if_icmp .lt 22, 3, 0, 0) := rfl
theorem i33_22 : mm_cd 33 22 = some (.aload_n 0, 1, 0, 0) := rfl
theorem i33_23 : mm_cd 33 23 = some (.getfield 18, 3, ((3 : Nat) : Int), 2) := rfl
theorem i33_26 : mm_cd 33 26 = some (.aload_n 0, 1, 0, 0) := rfl
theorem i33_27 : mm_cd 33 27 = some (.getfield 22, 3, ((3 : Nat) : Int), 3) := rfl
theorem i33_30 : mm_cd 33 30 = some (.iconst 1, 1, 0, 0) := rfl
theorem i33_31 : mm_cd 33 31 = some (.isub, 1, 0, 0) := rfl
theorem i33_32 : mm_cd 33 32 = some (.iaload, 1, 0, 0) := rfl
theorem i33_33 : mm_cd 33 33 = some (.iload_n 2, 1, 0, 0) := rfl
theorem i33_34 : mm_cd 33 34 = some (.if_icmp .gt 7, 3, 0, 0) := rfl
theorem i33_37 : mm_cd 33 37 = some (.iconst 1, 1, 0, 0) := rfl
theorem i33_38 : mm_cd 33 38 = some (.goto 4, 3, 0, 0) := rfl
theorem i33_41 : mm_cd 33 41 = some (.iconst 0, 1, 0, 0) := rfl
theorem i33_42 : mm_cd 33 42 = some (.ireturn, 1, 0, 0) := rfl
/-- SerialGate$LawReader.isPending(II)Z -/
def q33 (v1 : Int32) (v2 : Int32) (s : mS) : Option mQ := if (s.1 17 3) ≤ 0 then (rv (0 : Int32) s) else (gA 24 ((s.1 17 3) - (1 : Int32)) <| if (s.1 25 ((s.1 17 3) - (1 : Int32)).toNatClampNeg) < v1 then (rv (0 : Int32) s) else (gA 24 ((s.1 17 3) - (1 : Int32)) <| if v2 < (s.1 25 ((s.1 17 3) - (1 : Int32)).toNatClampNeg) then (rv (0 : Int32) s) else (rv (1 : Int32) s)))
theorem c33 {L : Nat} {xs : Nat → Int32} {v1 : Int32} {v2 : Int32} {s : mS} {r : mQ} (h : q33 v1 v2 s = some r) : ∀ d, 0 ≤ d → Cl L xs d 33 [.ref 17, .int v1, .int v2] (hp s) (hr r) := by
  intro d hd
  show Ev L xs d 33 0 [(0, .ref 17), (1, .int v1), (2, .int v2)] [] (hp s) (hr r)
  unfold q33 at h
  refine Ev.aload_n H33 i33_0 rfl ?_
  refine Rd.getI H33 i33_1 ob3 rfl ?_
  refine Rd.if_le H33 i33_4 (t := 41) (by decide) h (fun hc h => ?_) (fun hc h => ?_)
  · refine Ev.iconst H33 i33_41 kI_0 ?_
    exact Rd.ireturnK H33 i33_42 rfl (Or.inl rfl) h
  · refine Ev.aload_n H33 i33_7 rfl ?_
    refine Rd.getR H33 i33_8 ob3 rfl ?_
    refine Ev.aload_n H33 i33_11 rfl ?_
    refine Rd.getI H33 i33_12 ob3 rfl ?_
    refine Ev.iconst H33 i33_15 kI_1 ?_
    refine Ev.isub H33 i33_16 ?_
    refine Rd.iaload H33 i33_17 ar_25 h (fun h => ?_)
    refine Ev.iload_n H33 i33_18 rfl ?_
    refine Rd.ic_lt H33 i33_19 (t := 41) (by decide) h (fun hc h => ?_) (fun hc h => ?_)
    · refine Ev.iconst H33 i33_41 kI_0 ?_
      exact Rd.ireturnK H33 i33_42 rfl (Or.inl rfl) h
    · refine Ev.aload_n H33 i33_22 rfl ?_
      refine Rd.getR H33 i33_23 ob3 rfl ?_
      refine Ev.aload_n H33 i33_26 rfl ?_
      refine Rd.getI H33 i33_27 ob3 rfl ?_
      refine Ev.iconst H33 i33_30 kI_1 ?_
      refine Ev.isub H33 i33_31 ?_
      refine Rd.iaload H33 i33_32 ar_25 h (fun h => ?_)
      refine Ev.iload_n H33 i33_33 rfl ?_
      refine Rd.ic_gt H33 i33_34 (t := 41) (by decide) h (fun hc h => ?_) (fun hc h => ?_)
      · refine Ev.iconst H33 i33_41 kI_0 ?_
        exact Rd.ireturnK H33 i33_42 rfl (Or.inl rfl) h
      · refine Ev.iconst H33 i33_37 kI_1 ?_
        refine Ev.goto H33 i33_38 (t := 42) (by decide) ?_
        exact Rd.ireturnK H33 i33_42 rfl (Or.inr rfl) h
theorem i35_0 : mm_cd 35 0 = some (.aload_n 0, 1, 0, 0) := rfl
theorem i35_1 : mm_cd 35 1 = some (.getfield 22, 3, ((3 : Nat) : Int), 3) := rfl
theorem i35_4 : mm_cd 35 4 = some (.ifCond .le 49, 3, 0, 0) := rfl
theorem i35_7 : mm_cd 35 7 = some (.aload_n 0, 1, 0, 0) := rfl
theorem i35_8 : mm_cd 35 8 = some (.sipush 2000, 3, 0, 0) := rfl
theorem i35_11 : mm_cd 35 11 = some (.sipush 2000, 3, 0, 0) := rfl
theorem i35_14 : mm_cd 35 14 = some (.invokevirtual 101, 3, 0, 33) := rfl
theorem i35_17 : mm_cd 35 17 = some (.ifCond .eq 36, 3, 0, 0) := rfl
theorem i35_20 : mm_cd 35 20 = some (.aload_n 0, 1, 0, 0) := rfl
theorem i35_21 : mm_cd 35 21 = some (.dup, 1, 0, 0) := rfl
theorem i35_22 : mm_cd 35 22 = some (.getfield 22, 3, ((3 : Nat) : Int), 3) := rfl
theorem i35_25 : mm_cd 35 25 = some (.iconst 1, 1, 0, 0) := rfl
theorem i35_26 : mm_cd 35 26 = some (.isub, 1, 0, 0) := rfl
theorem i35_27 : mm_cd 35 27 = some (.putfield 22, 3, ((3 : Nat) : Int), 3) := rfl
theorem i35_30 : mm_cd 35 30 = some (.aload_n 0, 1, 0, 0) := rfl
theorem i35_31 : mm_cd 35 31 = some (.dup, 1, 0, 0) := rfl
theorem i35_32 : mm_cd 35 32 = some (.getfield 26, 3, ((3 : Nat) : Int), 4) := rfl
theorem i35_35 : mm_cd 35 35 = some (.iconst 1, 1, 0, 0) := rfl
theorem i35_36 : mm_cd 35 36 = some (.isub, 1, 0, 0) := rfl
theorem i35_37 : mm_cd 35 37 = some (.putfield 26, 3, ((3 : Nat) : Int), 4) := rfl
theorem i35_40 : mm_cd 35 40 = some (.aload_n 0, 1, 0, 0) := rfl
theorem i35_41 : mm_cd 35 41 = some (.getfield 12, 3, ((3 : Nat) : Int), 0) := rfl
theorem i35_44 : mm_cd 35 44 = some (.sipush 2000, 3, 0, 0) := rfl
theorem i35_47 : mm_cd 35 47 = some (.invokevirtual 105, 3, 0, 23) := rfl
theorem i35_50 : mm_cd 35 50 = some (.goto (-50), 3, 0, 0) := rfl
theorem i35_53 : mm_cd 35 53 = some (.return_, 1, 0, 0) := rfl
def q35_0 : Nat → mS → Option mQ
  | 0, _ => none
  | n + 1, s => if (s.1 17 3) ≤ 0 then (ru s) else (bN (q33 (2000 : Int32) (2000 : Int32) s) fun x2 s1 => if x2 = 0 then (ru s1) else (sp (sI s1 17 3 ((s1.1 17 3) - (1 : Int32))) fun s3 => sp (sI s3 17 4 ((s3.1 17 4) - (1 : Int32))) fun s4 => bM (q23 18 (2000 : Int32) s4) fun s5 => q35_0 n s5))
theorem t35_0 {L : Nat} {xs : Nat → Int32} {d : Nat} (hd : 1 ≤ d) : ∀ (n : Nat) (s : mS) (r : mQ), q35_0 n s = some r → Ev L xs d 35 0 [(0, .ref 17)] [] (hp s) (hr r) := by
  intro n
  induction n with
  | zero => intro s r h; rw [q35_0] at h; cases h
  | succ n ih =>
    intro s r h
    rw [q35_0] at h
    refine Ev.aload_n H35 i35_0 rfl ?_
    refine Rd.getI H35 i35_1 ob3 rfl ?_
    refine Rd.if_le H35 i35_4 (t := 53) (by decide) h (fun hc h => ?_) (fun hc h => ?_)
    · exact Rd.return_ H35 i35_53 rfl h
    · refine Ev.aload_n H35 i35_7 rfl ?_
      refine Ev.sipush H35 i35_8 kS_2000 ?_
      refine Ev.sipush H35 i35_11 kS_2000 ?_
      refine Rd.cV2vN H35 i35_14 cal33 ob3 (Nat.le_of_ble_eq_true rfl) (Nat.le_of_ble_eq_true rfl) (Nat.lt_of_lt_of_le (by decide) hd) (fun q hq => c33 hq) h (fun x2 s1 h => ?_)
      refine Rd.if_eq H35 i35_17 (t := 53) (by decide) h (fun hc h => ?_) (fun hc h => ?_)
      · exact Rd.return_ H35 i35_53 rfl h
      · refine Ev.aload_n H35 i35_20 rfl ?_
        refine Ev.dup H35 i35_21 rfl ?_
        refine Rd.getI H35 i35_22 ob3 rfl ?_
        refine Ev.iconst H35 i35_25 kI_1 ?_
        refine Ev.isub H35 i35_26 ?_
        refine Rd.putI H35 i35_27 ob3 rfl ty3_3.1 ty3_3.2 h (fun s3 h => ?_)
        refine Ev.aload_n H35 i35_30 rfl ?_
        refine Ev.dup H35 i35_31 rfl ?_
        refine Rd.getI H35 i35_32 ob3 rfl ?_
        refine Ev.iconst H35 i35_35 kI_1 ?_
        refine Ev.isub H35 i35_36 ?_
        refine Rd.putI H35 i35_37 ob3 rfl ty3_4.1 ty3_4.2 h (fun s4 h => ?_)
        refine Ev.aload_n H35 i35_40 rfl ?_
        refine Rd.getR H35 i35_41 ob3 rfl ?_
        refine Ev.sipush H35 i35_44 kS_2000 ?_
        refine Rd.cV1uN H35 i35_47 cal23 (ob2 mA2_18) (Nat.le_of_ble_eq_true rfl) (Nat.le_of_ble_eq_true rfl) (Nat.lt_of_lt_of_le (by decide) hd) (fun q hq => c23 mA2_18 hq) h (fun s5 h => ?_)
        refine Ev.goto H35 i35_50 (t := 0) (by decide) ?_
        exact Ev.sub (l := [(0, .ref 17)]) rfl rfl (mm_sub_c rfl mm_sub_n) (ih _ _ h)
/-- SerialGate$LawReader.endNots()V -/
def q35 (s : mS) : Option mQ := q35_0 10000 s
theorem c35 {L : Nat} {xs : Nat → Int32} {s : mS} {r : mQ} (h : q35 s = some r) : ∀ d, 1 ≤ d → Cl L xs d 35 [.ref 17] (hp s) (hr r) := by
  intro d hd
  show Ev L xs d 35 0 [(0, .ref 17)] [] (hp s) (hr r)
  unfold q35 at h
  exact Ev.sub (l := [(0, .ref 17)]) rfl rfl (mm_sub_c rfl mm_sub_n) (t35_0 hd 10000 _ _ h)
theorem i34_0 : mm_cd 34 0 = some (.aload_n 0, 1, 0, 0) := rfl
theorem i34_1 : mm_cd 34 1 = some (.getfield 22, 3, ((3 : Nat) : Int), 3) := rfl
theorem i34_4 : mm_cd 34 4 = some (.ifCond .le 43, 3, 0, 0) := rfl
theorem i34_7 : mm_cd 34 7 = some (.aload_n 0, 1, 0, 0) := rfl
theorem i34_8 : mm_cd 34 8 = some (.sipush 2001, 3, 0, 0) := rfl
theorem i34_11 : mm_cd 34 11 = some (.iload_n 1, 1, 0, 0) := rfl
theorem i34_12 : mm_cd 34 12 = some (.invokevirtual 101, 3, 0, 33) := rfl
theorem i34_15 : mm_cd 34 15 = some (.ifCond .eq 32, 3, 0, 0) := rfl
theorem i34_18 : mm_cd 34 18 = some (.aload_n 0, 1, 0, 0) := rfl
theorem i34_19 : mm_cd 34 19 = some (.dup, 1, 0, 0) := rfl
theorem i34_20 : mm_cd 34 20 = some (.getfield 22, 3, ((3 : Nat) : Int), 3) := rfl
theorem i34_23 : mm_cd 34 23 = some (.iconst 1, 1, 0, 0) := rfl
theorem i34_24 : mm_cd 34 24 = some (.isub, 1, 0, 0) := rfl
theorem i34_25 : mm_cd 34 25 = some (.putfield 22, 3, ((3 : Nat) : Int), 3) := rfl
theorem i34_28 : mm_cd 34 28 = some (.aload_n 0, 1, 0, 0) := rfl
theorem i34_29 : mm_cd 34 29 = some (.getfield 12, 3, ((3 : Nat) : Int), 0) := rfl
theorem i34_32 : mm_cd 34 32 = some (.aload_n 0, 1, 0, 0) := rfl
theorem i34_33 : mm_cd 34 33 = some (.getfield 18, 3, ((3 : Nat) : Int), 2) := rfl
theorem i34_36 : mm_cd 34 36 = some (.aload_n 0, 1, 0, 0) := rfl
theorem i34_37 : mm_cd 34 37 = some (.getfield 22, 3, ((3 : Nat) : Int), 3) := rfl
theorem i34_40 : mm_cd 34 40 = some (.iaload, 1, 0, 0) := rfl
theorem i34_41 : mm_cd 34 41 = some (.invokevirtual 105, 3, 0, 23) := rfl
theorem i34_44 : mm_cd 34 44 = some (.goto (-44), 3, 0, 0) := rfl
theorem i34_47 : mm_cd 34 47 = some (.iload_n 2, 1, 0, 0) := rfl
theorem i34_48 : mm_cd 34 48 = some (.iconst (-1), 1, 0, 0) := rfl
theorem i34_49 : mm_cd 34 49 = some (.if_icmp .eq 8, 3, 0, 0) := rfl
theorem i34_52 : mm_cd 34 52 = some (.aload_n 0, 1, 0, 0) := rfl
theorem i34_53 : mm_cd 34 53 = some (.iload_n 2, 1, 0, 0) := rfl
theorem i34_54 : mm_cd 34 54 = some (.invokevirtual 98, 3, 0, 32) := rfl
theorem i34_57 : mm_cd 34 57 = some (.return_, 1, 0, 0) := rfl
def q34_0 (k47 : Int32 → mS → Option mQ) : Nat → Int32 → Int32 → mS → Option mQ
  | 0, _, _, _ => none
  | n + 1, v1, v2, s => if (s.1 17 3) ≤ 0 then (k47 v2 s) else (bN (q33 (2001 : Int32) v1 s) fun x2 s1 => if x2 = 0 then (k47 v2 s1) else (sp (sI s1 17 3 ((s1.1 17 3) - (1 : Int32))) fun s3 => gA 24 (s3.1 17 3) <| bM (q23 18 (s3.1 25 (s3.1 17 3).toNatClampNeg) s3) fun s4 => q34_0 k47 n v1 v2 s4))
theorem t34_0 {L : Nat} {xs : Nat → Int32} {d : Nat} {k47 : Int32 → mS → Option mQ} (hk47 : ∀ (v2 : Int32) (s : mS) (r : mQ), k47 v2 s = some r → Ev L xs d 34 47 [(0, .ref 17), (2, .int v2)] [] (hp s) (hr r)) (hd : 1 ≤ d) : ∀ (n : Nat) (v1 : Int32) (v2 : Int32) (s : mS) (r : mQ), q34_0 k47 n v1 v2 s = some r → Ev L xs d 34 0 [(0, .ref 17), (1, .int v1), (2, .int v2)] [] (hp s) (hr r) := by
  intro n
  induction n with
  | zero => intro v1 v2 s r h; rw [q34_0] at h; cases h
  | succ n ih =>
    intro v1 v2 s r h
    rw [q34_0] at h
    refine Ev.aload_n H34 i34_0 rfl ?_
    refine Rd.getI H34 i34_1 ob3 rfl ?_
    refine Rd.if_le H34 i34_4 (t := 47) (by decide) h (fun hc h => ?_) (fun hc h => ?_)
    · exact Ev.sub (l := [(0, .ref 17), (2, .int v2)]) rfl rfl (mm_sub_c rfl (mm_sub_c rfl mm_sub_n)) (hk47 _ _ _ h)
    · refine Ev.aload_n H34 i34_7 rfl ?_
      refine Ev.sipush H34 i34_8 kS_2001 ?_
      refine Ev.iload_n H34 i34_11 rfl ?_
      refine Rd.cV2vN H34 i34_12 cal33 ob3 (Nat.le_of_ble_eq_true rfl) (Nat.le_of_ble_eq_true rfl) (Nat.lt_of_lt_of_le (by decide) hd) (fun q hq => c33 hq) h (fun x2 s1 h => ?_)
      refine Rd.if_eq H34 i34_15 (t := 47) (by decide) h (fun hc h => ?_) (fun hc h => ?_)
      · exact Ev.sub (l := [(0, .ref 17), (2, .int v2)]) rfl rfl (mm_sub_c rfl (mm_sub_c rfl mm_sub_n)) (hk47 _ _ _ h)
      · refine Ev.aload_n H34 i34_18 rfl ?_
        refine Ev.dup H34 i34_19 rfl ?_
        refine Rd.getI H34 i34_20 ob3 rfl ?_
        refine Ev.iconst H34 i34_23 kI_1 ?_
        refine Ev.isub H34 i34_24 ?_
        refine Rd.putI H34 i34_25 ob3 rfl ty3_3.1 ty3_3.2 h (fun s3 h => ?_)
        refine Ev.aload_n H34 i34_28 rfl ?_
        refine Rd.getR H34 i34_29 ob3 rfl ?_
        refine Ev.aload_n H34 i34_32 rfl ?_
        refine Rd.getR H34 i34_33 ob3 rfl ?_
        refine Ev.aload_n H34 i34_36 rfl ?_
        refine Rd.getI H34 i34_37 ob3 rfl ?_
        refine Rd.iaload H34 i34_40 ar_25 h (fun h => ?_)
        refine Rd.cV1uN H34 i34_41 cal23 (ob2 mA2_18) (Nat.le_of_ble_eq_true rfl) (Nat.le_of_ble_eq_true rfl) (Nat.lt_of_lt_of_le (by decide) hd) (fun q hq => c23 mA2_18 hq) h (fun s4 h => ?_)
        refine Ev.goto H34 i34_44 (t := 0) (by decide) ?_
        exact Ev.sub (l := [(0, .ref 17), (1, .int v1), (2, .int v2)]) rfl rfl (mm_sub_c rfl (mm_sub_c rfl (mm_sub_c rfl mm_sub_n))) (ih _ _ _ _ h)
def q34_47 (v2 : Int32) (s : mS) : Option mQ := if v2 = (-1 : Int32) then (ru s) else (bM (q32 v2 s) fun s5 => ru s5)
theorem t34_47 {L : Nat} {xs : Nat → Int32} {d : Nat} (hd : 1 ≤ d) {v2 : Int32} {s : mS} {r : mQ} (h : q34_47 v2 s = some r) : Ev L xs d 34 47 [(0, .ref 17), (2, .int v2)] [] (hp s) (hr r) := by
  unfold q34_47 at h
  refine Ev.iload_n H34 i34_47 rfl ?_
  refine Ev.iconst H34 i34_48 kI_m1 ?_
  refine Rd.ic_eq H34 i34_49 (t := 57) (by decide) h (fun hc h => ?_) (fun hc h => ?_)
  · exact Rd.return_ H34 i34_57 rfl h
  · refine Ev.aload_n H34 i34_52 rfl ?_
    refine Ev.iload_n H34 i34_53 rfl ?_
    refine Rd.cV1uN H34 i34_54 cal32 ob3 (Nat.le_of_ble_eq_true rfl) (Nat.le_of_ble_eq_true rfl) (Nat.lt_of_lt_of_le (by decide) hd) (fun q hq => c32 hq) h (fun s5 h => ?_)
    exact Rd.return_ H34 i34_57 rfl h
/-- SerialGate$LawReader.join(II)V -/
def q34 (v1 : Int32) (v2 : Int32) (s : mS) : Option mQ := q34_0 (q34_47) 10000 v1 v2 s
theorem c34 {L : Nat} {xs : Nat → Int32} {v1 : Int32} {v2 : Int32} {s : mS} {r : mQ} (h : q34 v1 v2 s = some r) : ∀ d, 1 ≤ d → Cl L xs d 34 [.ref 17, .int v1, .int v2] (hp s) (hr r) := by
  intro d hd
  show Ev L xs d 34 0 [(0, .ref 17), (1, .int v1), (2, .int v2)] [] (hp s) (hr r)
  unfold q34 at h
  exact Ev.sub (l := [(0, .ref 17), (1, .int v1), (2, .int v2)]) rfl rfl (mm_sub_c rfl (mm_sub_c rfl (mm_sub_c rfl mm_sub_n))) (t34_0 (k47 := (q34_47)) (fun _ _ _ h => t34_47 hd h) hd 10000 _ _ _ _ h)
theorem i36_0 : mm_cd 36 0 = some (.aload_n 0, 1, 0, 0) := rfl
theorem i36_1 : mm_cd 36 1 = some (.sipush 3000, 3, 0, 0) := rfl
theorem i36_4 : mm_cd 36 4 = some (.sipush 3000, 3, 0, 0) := rfl
theorem i36_7 : mm_cd 36 7 = some (.invokevirtual 101, 3, 0, 33) := rfl
theorem i36_10 : mm_cd 36 10 = some (.ifCond .eq 23, 3, 0, 0) := rfl
theorem i36_13 : mm_cd 36 13 = some (.aload_n 0, 1, 0, 0) := rfl
theorem i36_14 : mm_cd 36 14 = some (.dup, 1, 0, 0) := rfl
theorem i36_15 : mm_cd 36 15 = some (.getfield 22, 3, ((3 : Nat) : Int), 3) := rfl
theorem i36_18 : mm_cd 36 18 = some (.iconst 1, 1, 0, 0) := rfl
theorem i36_19 : mm_cd 36 19 = some (.isub, 1, 0, 0) := rfl
theorem i36_20 : mm_cd 36 20 = some (.putfield 22, 3, ((3 : Nat) : Int), 3) := rfl
theorem i36_23 : mm_cd 36 23 = some (.aload_n 0, 1, 0, 0) := rfl
theorem i36_24 : mm_cd 36 24 = some (.dup, 1, 0, 0) := rfl
theorem i36_25 : mm_cd 36 25 = some (.getfield 26, 3, ((3 : Nat) : Int), 4) := rfl
theorem i36_28 : mm_cd 36 28 = some (.iconst 1, 1, 0, 0) := rfl
theorem i36_29 : mm_cd 36 29 = some (.isub, 1, 0, 0) := rfl
theorem i36_30 : mm_cd 36 30 = some (.putfield 26, 3, ((3 : Nat) : Int), 4) := rfl
theorem i36_33 : mm_cd 36 33 = some (.aload_n 0, 1, 0, 0) := rfl
theorem i36_34 : mm_cd 36 34 = some (.invokevirtual 85, 3, 0, 35) := rfl
theorem i36_37 : mm_cd 36 37 = some (.return_, 1, 0, 0) := rfl
def q36_33 (s : mS) : Option mQ := bM (q35 s) fun s1 => ru s1
theorem t36_33 {L : Nat} {xs : Nat → Int32} {d : Nat} (hd : 2 ≤ d) {s : mS} {r : mQ} (h : q36_33 s = some r) : Ev L xs d 36 33 [(0, .ref 17)] [] (hp s) (hr r) := by
  unfold q36_33 at h
  refine Ev.aload_n H36 i36_33 rfl ?_
  refine Rd.cV0uN H36 i36_34 cal35 ob3 (Nat.le_of_ble_eq_true rfl) (Nat.le_of_ble_eq_true rfl) (Nat.lt_of_lt_of_le (by decide) hd) (fun q hq => c35 hq) h (fun s1 h => ?_)
  exact Rd.return_ H36 i36_37 rfl h
/-- SerialGate$LawReader.endBracket()V -/
def q36 (s : mS) : Option mQ := bN (q33 (3000 : Int32) (3000 : Int32) s) fun x3 s2 => if x3 = 0 then (q36_33 s2) else (sp (sI s2 17 3 ((s2.1 17 3) - (1 : Int32))) fun s4 => sp (sI s4 17 4 ((s4.1 17 4) - (1 : Int32))) fun s5 => q36_33 s5)
theorem c36 {L : Nat} {xs : Nat → Int32} {s : mS} {r : mQ} (h : q36 s = some r) : ∀ d, 2 ≤ d → Cl L xs d 36 [.ref 17] (hp s) (hr r) := by
  intro d hd
  show Ev L xs d 36 0 [(0, .ref 17)] [] (hp s) (hr r)
  unfold q36 at h
  refine Ev.aload_n H36 i36_0 rfl ?_
  refine Ev.sipush H36 i36_1 kS_3000 ?_
  refine Ev.sipush H36 i36_4 kS_3000 ?_
  refine Rd.cV2vN H36 i36_7 cal33 ob3 (Nat.le_of_ble_eq_true rfl) (Nat.le_of_ble_eq_true rfl) (Nat.lt_of_lt_of_le (by decide) hd) (fun q hq => c33 hq) h (fun x3 s2 h => ?_)
  refine Rd.if_eq H36 i36_10 (t := 33) (by decide) h (fun hc h => ?_) (fun hc h => ?_)
  · exact Ev.sub (l := [(0, .ref 17)]) rfl rfl (mm_sub_c rfl mm_sub_n) (t36_33 hd h)
  · refine Ev.aload_n H36 i36_13 rfl ?_
    refine Ev.dup H36 i36_14 rfl ?_
    refine Rd.getI H36 i36_15 ob3 rfl ?_
    refine Ev.iconst H36 i36_18 kI_1 ?_
    refine Ev.isub H36 i36_19 ?_
    refine Rd.putI H36 i36_20 ob3 rfl ty3_3.1 ty3_3.2 h (fun s4 h => ?_)
    refine Ev.aload_n H36 i36_23 rfl ?_
    refine Ev.dup H36 i36_24 rfl ?_
    refine Rd.getI H36 i36_25 ob3 rfl ?_
    refine Ev.iconst H36 i36_28 kI_1 ?_
    refine Ev.isub H36 i36_29 ?_
    refine Rd.putI H36 i36_30 ob3 rfl ty3_4.1 ty3_4.2 h (fun s5 h => ?_)
    exact Ev.sub (l := [(0, .ref 17)]) rfl rfl (mm_sub_c rfl mm_sub_n) (t36_33 hd h)
theorem i30_0 : mm_cd 30 0 = some (.aload_n 0, 1, 0, 0) := rfl
theorem i30_1 : mm_cd 30 1 = some (.iconst 0, 1, 0, 0) := rfl
theorem i30_2 : mm_cd 30 2 = some (.putfield 22, 3, ((3 : Nat) : Int), 3) := rfl
theorem i30_5 : mm_cd 30 5 = some (.aload_n 0, 1, 0, 0) := rfl
theorem i30_6 : mm_cd 30 6 = some (.iconst 0, 1, 0, 0) := rfl
theorem i30_7 : mm_cd 30 7 = some (.putfield 26, 3, ((3 : Nat) : Int), 4) := rfl
theorem i30_10 : mm_cd 30 10 = some (.iconst 1, 1, 0, 0) := rfl
theorem i30_11 : mm_cd 30 11 = some (.istore_n 1, 1, 0, 0) := rfl
theorem i30_12 : mm_cd 30 12 = some (.iconst 0, 1, 0, 0) := rfl
theorem i30_13 : mm_cd 30 13 = some (.istore_n 2, 1, 0, 0) := rfl
theorem i30_14 : mm_cd 30 14 = some (.iload_n 2, 1, 0, 0) := rfl
theorem i30_15 : mm_cd 30 15 = some (.sipush 400, 3, 0, 0) := rfl
theorem i30_18 : mm_cd 30 18 = some (.if_icmp .gt 210, 3, 0, 0) := rfl
theorem i30_21 : mm_cd 30 21 = some (.iload_n 1, 1, 0, 0) := rfl
theorem i30_22 : mm_cd 30 22 = some (.ifCond .eq 34, 3, 0, 0) := rfl
theorem i30_25 : mm_cd 30 25 = some (.aload_n 0, 1, 0, 0) := rfl
theorem i30_26 : mm_cd 30 26 = some (.getfield 26, 3, ((3 : Nat) : Int), 4) := rfl
theorem i30_29 : mm_cd 30 29 = some (.bipush 6, 2, 0, 0) := rfl
theorem i30_31 : mm_cd 30 31 = some (.if_icmp .ge 25, 3, 0, 0) := rfl
theorem i30_34 : mm_cd 30 34 = some (.aload_n 0, 1, 0, 0) := rfl
theorem i30_35 : mm_cd 30 35 = some (.getfield 29, 3, ((3 : Nat) : Int), 1) := rfl
theorem i30_38 : mm_cd 30 38 = some (.ldc 76, 2, 0, 14) := rfl
theorem i30_40 : mm_cd 30 40 = some (.invokevirtual 55, 3, 0, 105) := rfl
theorem i30_43 : mm_cd 30 43 = some (.ifCond .eq 13, 3, 0, 0) := rfl
theorem i30_46 : mm_cd 30 46 = some (.aload_n 0, 1, 0, 0) := rfl
theorem i30_47 : mm_cd 30 47 = some (.sipush 2000, 3, 0, 0) := rfl
theorem i30_50 : mm_cd 30 50 = some (.invokevirtual 78, 3, 0, 31) := rfl
theorem i30_53 : mm_cd 30 53 = some (.goto 169, 3, 0, 0) := rfl
theorem i30_56 : mm_cd 30 56 = some (.iload_n 1, 1, 0, 0) := rfl
theorem i30_57 : mm_cd 30 57 = some (.ifCond .eq 34, 3, 0, 0) := rfl
theorem i30_60 : mm_cd 30 60 = some (.aload_n 0, 1, 0, 0) := rfl
theorem i30_61 : mm_cd 30 61 = some (.getfield 26, 3, ((3 : Nat) : Int), 4) := rfl
theorem i30_64 : mm_cd 30 64 = some (.bipush 6, 2, 0, 0) := rfl
theorem i30_66 : mm_cd 30 66 = some (.if_icmp .ge 25, 3, 0, 0) := rfl
theorem i30_69 : mm_cd 30 69 = some (.aload_n 0, 1, 0, 0) := rfl
theorem i30_70 : mm_cd 30 70 = some (.getfield 29, 3, ((3 : Nat) : Int), 1) := rfl
theorem i30_73 : mm_cd 30 73 = some (.bipush 40, 2, 0, 0) := rfl
theorem i30_75 : mm_cd 30 75 = some (.invokevirtual 66, 3, 0, 104) := rfl
theorem i30_78 : mm_cd 30 78 = some (.ifCond .eq 13, 3, 0, 0) := rfl
theorem i30_81 : mm_cd 30 81 = some (.aload_n 0, 1, 0, 0) := rfl
theorem i30_82 : mm_cd 30 82 = some (.sipush 3000, 3, 0, 0) := rfl
theorem i30_85 : mm_cd 30 85 = some (.invokevirtual 78, 3, 0, 31) := rfl
theorem i30_88 : mm_cd 30 88 = some (.goto 134, 3, 0, 0) := rfl
theorem i30_91 : mm_cd 30 91 = some (.iload_n 1, 1, 0, 0) := rfl
theorem i30_92 : mm_cd 30 92 = some (.ifCond .eq 21, 3, 0, 0) := rfl
theorem i30_95 : mm_cd 30 95 = some (.aload_n 0, 1, 0, 0) := rfl
theorem i30_96 : mm_cd 30 96 = some (.invokevirtual 82, 3, 0, 37) := rfl
theorem i30_99 : mm_cd 30 99 = some (.ifCond .ne 5, 3, 0, 0) := rfl
theorem i30_102 : mm_cd 30 102 = some (.iconst 0, 1, 0, 0) := rfl
theorem i30_103 : mm_cd 30 103 = some (.ireturn, 1, 0, 0) := rfl
theorem i30_104 : mm_cd 30 104 = some (.aload_n 0, 1, 0, 0) := rfl
theorem i30_105 : mm_cd 30 105 = some (.invokevirtual 85, 3, 0, 35) := rfl
theorem i30_108 : mm_cd 30 108 = some (.iconst 0, 1, 0, 0) := rfl
theorem i30_109 : mm_cd 30 109 = some (.istore_n 1, 1, 0, 0) := rfl
theorem i30_110 : mm_cd 30 110 = some (.goto 112, 3, 0, 0) := rfl
theorem i30_113 : mm_cd 30 113 = some (.aload_n 0, 1, 0, 0) := rfl
theorem i30_114 : mm_cd 30 114 = some (.getfield 29, 3, ((3 : Nat) : Int), 1) := rfl
theorem i30_117 : mm_cd 30 117 = some (.ldc 88, 2, 0, 21) := rfl
theorem i30_119 : mm_cd 30 119 = some (.invokevirtual 55, 3, 0, 105) := rfl
theorem i30_122 : mm_cd 30 122 = some (.ifCond .eq 18, 3, 0, 0) := rfl
theorem i30_125 : mm_cd 30 125 = some (.aload_n 0, 1, 0, 0) := rfl
theorem i30_126 : mm_cd 30 126 = some (.sipush 2001, 3, 0, 0) := rfl
theorem i30_129 : mm_cd 30 129 = some (.sipush 2001, 3, 0, 0) := rfl
theorem i30_132 : mm_cd 30 132 = some (.invokevirtual 90, 3, 0, 34) := rfl
theorem i30_135 : mm_cd 30 135 = some (.iconst 1, 1, 0, 0) := rfl
theorem i30_136 : mm_cd 30 136 = some (.istore_n 1, 1, 0, 0) := rfl
theorem i30_137 : mm_cd 30 137 = some (.goto 85, 3, 0, 0) := rfl
theorem i30_140 : mm_cd 30 140 = some (.aload_n 0, 1, 0, 0) := rfl
theorem i30_141 : mm_cd 30 141 = some (.getfield 29, 3, ((3 : Nat) : Int), 1) := rfl
theorem i30_144 : mm_cd 30 144 = some (.ldc 93, 2, 0, 22) := rfl
theorem i30_146 : mm_cd 30 146 = some (.invokevirtual 55, 3, 0, 105) := rfl
theorem i30_149 : mm_cd 30 149 = some (.ifCond .eq 18, 3, 0, 0) := rfl
theorem i30_152 : mm_cd 30 152 = some (.aload_n 0, 1, 0, 0) := rfl
theorem i30_153 : mm_cd 30 153 = some (.sipush 2002, 3, 0, 0) := rfl
theorem i30_156 : mm_cd 30 156 = some (.sipush 2002, 3, 0, 0) := rfl
theorem i30_159 : mm_cd 30 159 = some (.invokevirtual 90, 3, 0, 34) := rfl
theorem i30_162 : mm_cd 30 162 = some (.iconst 1, 1, 0, 0) := rfl
theorem i30_163 : mm_cd 30 163 = some (.istore_n 1, 1, 0, 0) := rfl
theorem i30_164 : mm_cd 30 164 = some (.goto 58, 3, 0, 0) := rfl
theorem i30_167 : mm_cd 30 167 = some (.aload_n 0, 1, 0, 0) := rfl
theorem i30_168 : mm_cd 30 168 = some (.getfield 26, 3, ((3 : Nat) : Int), 4) := rfl
theorem i30_171 : mm_cd 30 171 = some (.ifCond .le 30, 3, 0, 0) := rfl
theorem i30_174 : mm_cd 30 174 = some (.aload_n 0, 1, 0, 0) := rfl
theorem i30_175 : mm_cd 30 175 = some (.getfield 29, 3, ((3 : Nat) : Int), 1) := rfl
theorem i30_178 : mm_cd 30 178 = some (.bipush 41, 2, 0, 0) := rfl
theorem i30_180 : mm_cd 30 180 = some (.invokevirtual 66, 3, 0, 104) := rfl
theorem i30_183 : mm_cd 30 183 = some (.ifCond .eq 18, 3, 0, 0) := rfl
theorem i30_186 : mm_cd 30 186 = some (.aload_n 0, 1, 0, 0) := rfl
theorem i30_187 : mm_cd 30 187 = some (.sipush 2002, 3, 0, 0) := rfl
theorem i30_190 : mm_cd 30 190 = some (.iconst (-1), 1, 0, 0) := rfl
theorem i30_191 : mm_cd 30 191 = some (.invokevirtual 90, 3, 0, 34) := rfl
theorem i30_194 : mm_cd 30 194 = some (.aload_n 0, 1, 0, 0) := rfl
theorem i30_195 : mm_cd 30 195 = some (.invokevirtual 95, 3, 0, 36) := rfl
theorem i30_198 : mm_cd 30 198 = some (.goto 24, 3, 0, 0) := rfl
theorem i30_201 : mm_cd 30 201 = some (.aload_n 0, 1, 0, 0) := rfl
theorem i30_202 : mm_cd 30 202 = some (.sipush 2002, 3, 0, 0) := rfl
theorem i30_205 : mm_cd 30 205 = some (.iconst (-1), 1, 0, 0) := rfl
theorem i30_206 : mm_cd 30 206 = some (.invokevirtual 90, 3, 0, 34) := rfl
theorem i30_209 : mm_cd 30 209 = some (.aload_n 0, 1, 0, 0) := rfl
theorem i30_210 : mm_cd 30 210 = some (.getfield 26, 3, ((3 : Nat) : Int), 4) := rfl
theorem i30_213 : mm_cd 30 213 = some (.ifCond .ne 7, 3, 0, 0) := rfl
theorem i30_216 : mm_cd 30 216 = some (.iconst 1, 1, 0, 0) := rfl
theorem i30_217 : mm_cd 30 217 = some (.goto 4, 3, 0, 0) := rfl
theorem i30_220 : mm_cd 30 220 = some (.iconst 0, 1, 0, 0) := rfl
theorem i30_221 : mm_cd 30 221 = some (.ireturn, 1, 0, 0) := rfl
theorem i30_222 : mm_cd 30 222 = some (.iinc 2 1, 3, 0, 0) := rfl
theorem i30_225 : mm_cd 30 225 = some (.goto (-211), 3, 0, 0) := rfl
theorem i30_228 : mm_cd 30 228 = some (.iconst 0, 1, 0, 0) := rfl
theorem i30_229 : mm_cd 30 229 = some (.ireturn, 1, 0, 0) := rfl
def q30_222 (k14 : Int32 → Int32 → mS → Option mQ) (v1 : Int32) (v2 : Int32) (s : mS) : Option mQ := bx (v2 + (1 : Int32)) fun x1 => k14 v1 x1 s
theorem t30_222 {L : Nat} {xs : Nat → Int32} {d : Nat} {k14 : Int32 → Int32 → mS → Option mQ} (hk14 : ∀ (v1 : Int32) (v2 : Int32) (s : mS) (r : mQ), k14 v1 v2 s = some r → Ev L xs d 30 14 [(0, .ref 17), (1, .int v1), (2, .int v2)] [] (hp s) (hr r)) (hd : 5 ≤ d) {v1 : Int32} {v2 : Int32} {s : mS} {r : mQ} (h : q30_222 k14 v1 v2 s = some r) : Ev L xs d 30 222 [(0, .ref 17), (1, .int v1), (2, .int v2)] [] (hp s) (hr r) := by
  unfold q30_222 at h
  refine Rd.iinc H30 i30_222 (Nat.le_of_ble_eq_true rfl) rfl kI_1 (lv2 := fun x1 => [(2, .int x1), (0, .ref 17), (1, .int v1)]) (fun _ => rfl) h (fun x1 h => ?_)
  refine Ev.goto H30 i30_225 (t := 14) (by decide) ?_
  exact Ev.sub (l := [(0, .ref 17), (1, .int v1), (2, .int x1)]) rfl rfl (mm_sub_c rfl (mm_sub_c rfl (mm_sub_c rfl mm_sub_n))) (hk14 _ _ _ _ h)
def q30_91 (k14 : Int32 → Int32 → mS → Option mQ) (k201 : mS → Option mQ) (v1 : Int32) (v2 : Int32) (s : mS) : Option mQ := if v1 = 0 then (bN (q105 20 s) fun x3 s2 => if x3 = 0 then (bN (q105 21 s2) fun x5 s4 => if x5 = 0 then (if (s4.1 17 4) ≤ 0 then (k201 s4) else (bN (q104 (41 : Int32) s4) fun x7 s6 => if x7 = 0 then (k201 s6) else (bM (q34 (2002 : Int32) (-1 : Int32) s6) fun s8 => bM (q36 s8) fun s9 => q30_222 k14 v1 v2 s9))) else (bM (q34 (2002 : Int32) (2002 : Int32) s4) fun s10 => q30_222 k14 (1 : Int32) v2 s10)) else (bM (q34 (2001 : Int32) (2001 : Int32) s2) fun s11 => q30_222 k14 (1 : Int32) v2 s11)) else (bN (q37 s) fun x13 s12 => if ¬ x13 = 0 then (bM (q35 s12) fun s14 => q30_222 k14 (0 : Int32) v2 s14) else (rv (0 : Int32) s12))
theorem t30_91 {L : Nat} {xs : Nat → Int32} {d : Nat} {k14 : Int32 → Int32 → mS → Option mQ} {k201 : mS → Option mQ} (hk14 : ∀ (v1 : Int32) (v2 : Int32) (s : mS) (r : mQ), k14 v1 v2 s = some r → Ev L xs d 30 14 [(0, .ref 17), (1, .int v1), (2, .int v2)] [] (hp s) (hr r)) (hk201 : ∀ (s : mS) (r : mQ), k201 s = some r → Ev L xs d 30 201 [(0, .ref 17)] [] (hp s) (hr r)) (hd : 5 ≤ d) {v1 : Int32} {v2 : Int32} {s : mS} {r : mQ} (h : q30_91 k14 k201 v1 v2 s = some r) : Ev L xs d 30 91 [(0, .ref 17), (1, .int v1), (2, .int v2)] [] (hp s) (hr r) := by
  unfold q30_91 at h
  refine Ev.iload_n H30 i30_91 rfl ?_
  refine Rd.if_eq H30 i30_92 (t := 113) (by decide) h (fun hc h => ?_) (fun hc h => ?_)
  · refine Ev.aload_n H30 i30_113 rfl ?_
    refine Rd.getR H30 i30_114 ob3 rfl ?_
    refine Ev.ldcT H30 i30_117 ?_
    refine Rd.cV1vN H30 i30_119 cal105 ob8 (Nat.le_of_ble_eq_true rfl) (Nat.le_of_ble_eq_true rfl) (Nat.lt_of_lt_of_le (by decide) hd) (fun q hq => c105 (by decide) hq) h (fun x3 s2 h => ?_)
    refine Rd.if_eq H30 i30_122 (t := 140) (by decide) h (fun hc h => ?_) (fun hc h => ?_)
    · refine Ev.aload_n H30 i30_140 rfl ?_
      refine Rd.getR H30 i30_141 ob3 rfl ?_
      refine Ev.ldcT H30 i30_144 ?_
      refine Rd.cV1vN H30 i30_146 cal105 ob8 (Nat.le_of_ble_eq_true rfl) (Nat.le_of_ble_eq_true rfl) (Nat.lt_of_lt_of_le (by decide) hd) (fun q hq => c105 (by decide) hq) h (fun x5 s4 h => ?_)
      refine Rd.if_eq H30 i30_149 (t := 167) (by decide) h (fun hc h => ?_) (fun hc h => ?_)
      · refine Ev.aload_n H30 i30_167 rfl ?_
        refine Rd.getI H30 i30_168 ob3 rfl ?_
        refine Rd.if_le H30 i30_171 (t := 201) (by decide) h (fun hc h => ?_) (fun hc h => ?_)
        · exact Ev.sub (l := [(0, .ref 17)]) rfl rfl (mm_sub_c rfl mm_sub_n) (hk201 _ _ h)
        · refine Ev.aload_n H30 i30_174 rfl ?_
          refine Rd.getR H30 i30_175 ob3 rfl ?_
          refine Ev.bipush H30 i30_178 kB_41 ?_
          refine Rd.cV1vN H30 i30_180 cal104 ob8 (Nat.le_of_ble_eq_true rfl) (Nat.le_of_ble_eq_true rfl) (Nat.lt_of_lt_of_le (by decide) hd) (fun q hq => c104 hq) h (fun x7 s6 h => ?_)
          refine Rd.if_eq H30 i30_183 (t := 201) (by decide) h (fun hc h => ?_) (fun hc h => ?_)
          · exact Ev.sub (l := [(0, .ref 17)]) rfl rfl (mm_sub_c rfl mm_sub_n) (hk201 _ _ h)
          · refine Ev.aload_n H30 i30_186 rfl ?_
            refine Ev.sipush H30 i30_187 kS_2002 ?_
            refine Ev.iconst H30 i30_190 kI_m1 ?_
            refine Rd.cV2uN H30 i30_191 cal34 ob3 (Nat.le_of_ble_eq_true rfl) (Nat.le_of_ble_eq_true rfl) (Nat.lt_of_lt_of_le (by decide) hd) (fun q hq => c34 hq) h (fun s8 h => ?_)
            refine Ev.aload_n H30 i30_194 rfl ?_
            refine Rd.cV0uN H30 i30_195 cal36 ob3 (Nat.le_of_ble_eq_true rfl) (Nat.le_of_ble_eq_true rfl) (Nat.lt_of_lt_of_le (by decide) hd) (fun q hq => c36 hq) h (fun s9 h => ?_)
            refine Ev.goto H30 i30_198 (t := 222) (by decide) ?_
            exact Ev.sub (l := [(0, .ref 17), (1, .int v1), (2, .int v2)]) rfl rfl (mm_sub_c rfl (mm_sub_c rfl (mm_sub_c rfl mm_sub_n))) (t30_222 (k14 := k14) hk14 hd h)
      · refine Ev.aload_n H30 i30_152 rfl ?_
        refine Ev.sipush H30 i30_153 kS_2002 ?_
        refine Ev.sipush H30 i30_156 kS_2002 ?_
        refine Rd.cV2uN H30 i30_159 cal34 ob3 (Nat.le_of_ble_eq_true rfl) (Nat.le_of_ble_eq_true rfl) (Nat.lt_of_lt_of_le (by decide) hd) (fun q hq => c34 hq) h (fun s10 h => ?_)
        refine Ev.iconst H30 i30_162 kI_1 ?_
        refine Ev.istore_n H30 i30_163 (Nat.le_of_ble_eq_true rfl) (lv2 := [(1, .int (1 : Int32)), (0, .ref 17), (2, .int v2)]) rfl ?_
        refine Ev.goto H30 i30_164 (t := 222) (by decide) ?_
        exact Ev.sub (l := [(0, .ref 17), (1, .int (1 : Int32)), (2, .int v2)]) rfl rfl (mm_sub_c rfl (mm_sub_c rfl (mm_sub_c rfl mm_sub_n))) (t30_222 (k14 := k14) hk14 hd h)
    · refine Ev.aload_n H30 i30_125 rfl ?_
      refine Ev.sipush H30 i30_126 kS_2001 ?_
      refine Ev.sipush H30 i30_129 kS_2001 ?_
      refine Rd.cV2uN H30 i30_132 cal34 ob3 (Nat.le_of_ble_eq_true rfl) (Nat.le_of_ble_eq_true rfl) (Nat.lt_of_lt_of_le (by decide) hd) (fun q hq => c34 hq) h (fun s11 h => ?_)
      refine Ev.iconst H30 i30_135 kI_1 ?_
      refine Ev.istore_n H30 i30_136 (Nat.le_of_ble_eq_true rfl) (lv2 := [(1, .int (1 : Int32)), (0, .ref 17), (2, .int v2)]) rfl ?_
      refine Ev.goto H30 i30_137 (t := 222) (by decide) ?_
      exact Ev.sub (l := [(0, .ref 17), (1, .int (1 : Int32)), (2, .int v2)]) rfl rfl (mm_sub_c rfl (mm_sub_c rfl (mm_sub_c rfl mm_sub_n))) (t30_222 (k14 := k14) hk14 hd h)
  · refine Ev.aload_n H30 i30_95 rfl ?_
    refine Rd.cV0vN H30 i30_96 cal37 ob3 (Nat.le_of_ble_eq_true rfl) (Nat.le_of_ble_eq_true rfl) (Nat.lt_of_lt_of_le (by decide) hd) (fun q hq => c37 hq) h (fun x13 s12 h => ?_)
    refine Rd.if_ne H30 i30_99 (t := 104) (by decide) h (fun hc h => ?_) (fun hc h => ?_)
    · refine Ev.aload_n H30 i30_104 rfl ?_
      refine Rd.cV0uN H30 i30_105 cal35 ob3 (Nat.le_of_ble_eq_true rfl) (Nat.le_of_ble_eq_true rfl) (Nat.lt_of_lt_of_le (by decide) hd) (fun q hq => c35 hq) h (fun s14 h => ?_)
      refine Ev.iconst H30 i30_108 kI_0 ?_
      refine Ev.istore_n H30 i30_109 (Nat.le_of_ble_eq_true rfl) (lv2 := [(1, .int (0 : Int32)), (0, .ref 17), (2, .int v2)]) rfl ?_
      refine Ev.goto H30 i30_110 (t := 222) (by decide) ?_
      exact Ev.sub (l := [(0, .ref 17), (1, .int (0 : Int32)), (2, .int v2)]) rfl rfl (mm_sub_c rfl (mm_sub_c rfl (mm_sub_c rfl mm_sub_n))) (t30_222 (k14 := k14) hk14 hd h)
    · refine Ev.iconst H30 i30_102 kI_0 ?_
      exact Rd.ireturnK H30 i30_103 rfl (Or.inl rfl) h
def q30_56 (k14 : Int32 → Int32 → mS → Option mQ) (k201 : mS → Option mQ) (v1 : Int32) (v2 : Int32) (s : mS) : Option mQ := if v1 = 0 then (q30_91 k14 k201 v1 v2 s) else (if (6 : Int32) ≤ (s.1 17 4) then (q30_91 k14 k201 v1 v2 s) else (bN (q104 (40 : Int32) s) fun x16 s15 => if x16 = 0 then (q30_91 k14 k201 v1 v2 s15) else (bM (q31 (3000 : Int32) s15) fun s17 => q30_222 k14 v1 v2 s17)))
theorem t30_56 {L : Nat} {xs : Nat → Int32} {d : Nat} {k14 : Int32 → Int32 → mS → Option mQ} {k201 : mS → Option mQ} (hk14 : ∀ (v1 : Int32) (v2 : Int32) (s : mS) (r : mQ), k14 v1 v2 s = some r → Ev L xs d 30 14 [(0, .ref 17), (1, .int v1), (2, .int v2)] [] (hp s) (hr r)) (hk201 : ∀ (s : mS) (r : mQ), k201 s = some r → Ev L xs d 30 201 [(0, .ref 17)] [] (hp s) (hr r)) (hd : 5 ≤ d) {v1 : Int32} {v2 : Int32} {s : mS} {r : mQ} (h : q30_56 k14 k201 v1 v2 s = some r) : Ev L xs d 30 56 [(0, .ref 17), (1, .int v1), (2, .int v2)] [] (hp s) (hr r) := by
  unfold q30_56 at h
  refine Ev.iload_n H30 i30_56 rfl ?_
  refine Rd.if_eq H30 i30_57 (t := 91) (by decide) h (fun hc h => ?_) (fun hc h => ?_)
  · exact Ev.sub (l := [(0, .ref 17), (1, .int v1), (2, .int v2)]) rfl rfl (mm_sub_c rfl (mm_sub_c rfl (mm_sub_c rfl mm_sub_n))) (t30_91 (k14 := k14) (k201 := k201) hk14 hk201 hd h)
  · refine Ev.aload_n H30 i30_60 rfl ?_
    refine Rd.getI H30 i30_61 ob3 rfl ?_
    refine Ev.bipush H30 i30_64 kB_6 ?_
    refine Rd.ic_ge H30 i30_66 (t := 91) (by decide) h (fun hc h => ?_) (fun hc h => ?_)
    · exact Ev.sub (l := [(0, .ref 17), (1, .int v1), (2, .int v2)]) rfl rfl (mm_sub_c rfl (mm_sub_c rfl (mm_sub_c rfl mm_sub_n))) (t30_91 (k14 := k14) (k201 := k201) hk14 hk201 hd h)
    · refine Ev.aload_n H30 i30_69 rfl ?_
      refine Rd.getR H30 i30_70 ob3 rfl ?_
      refine Ev.bipush H30 i30_73 kB_40 ?_
      refine Rd.cV1vN H30 i30_75 cal104 ob8 (Nat.le_of_ble_eq_true rfl) (Nat.le_of_ble_eq_true rfl) (Nat.lt_of_lt_of_le (by decide) hd) (fun q hq => c104 hq) h (fun x16 s15 h => ?_)
      refine Rd.if_eq H30 i30_78 (t := 91) (by decide) h (fun hc h => ?_) (fun hc h => ?_)
      · exact Ev.sub (l := [(0, .ref 17), (1, .int v1), (2, .int v2)]) rfl rfl (mm_sub_c rfl (mm_sub_c rfl (mm_sub_c rfl mm_sub_n))) (t30_91 (k14 := k14) (k201 := k201) hk14 hk201 hd h)
      · refine Ev.aload_n H30 i30_81 rfl ?_
        refine Ev.sipush H30 i30_82 kS_3000 ?_
        refine Rd.cV1uN H30 i30_85 cal31 ob3 (Nat.le_of_ble_eq_true rfl) (Nat.le_of_ble_eq_true rfl) (Nat.lt_of_lt_of_le (by decide) hd) (fun q hq => c31 hq) h (fun s17 h => ?_)
        refine Ev.goto H30 i30_88 (t := 222) (by decide) ?_
        exact Ev.sub (l := [(0, .ref 17), (1, .int v1), (2, .int v2)]) rfl rfl (mm_sub_c rfl (mm_sub_c rfl (mm_sub_c rfl mm_sub_n))) (t30_222 (k14 := k14) hk14 hd h)
def q30_14 (k201 : mS → Option mQ) : Nat → Int32 → Int32 → mS → Option mQ
  | 0, _, _, _ => none
  | n + 1, v1, v2, s => if (400 : Int32) < v2 then (rv (0 : Int32) s) else (if v1 = 0 then (q30_56 (q30_14 k201 n) k201 v1 v2 s) else (if (6 : Int32) ≤ (s.1 17 4) then (q30_56 (q30_14 k201 n) k201 v1 v2 s) else (bN (q105 13 s) fun x19 s18 => if x19 = 0 then (q30_56 (q30_14 k201 n) k201 v1 v2 s18) else (bM (q31 (2000 : Int32) s18) fun s20 => q30_222 (q30_14 k201 n) v1 v2 s20))))
theorem t30_14 {L : Nat} {xs : Nat → Int32} {d : Nat} {k201 : mS → Option mQ} (hk201 : ∀ (s : mS) (r : mQ), k201 s = some r → Ev L xs d 30 201 [(0, .ref 17)] [] (hp s) (hr r)) (hd : 5 ≤ d) : ∀ (n : Nat) (v1 : Int32) (v2 : Int32) (s : mS) (r : mQ), q30_14 k201 n v1 v2 s = some r → Ev L xs d 30 14 [(0, .ref 17), (1, .int v1), (2, .int v2)] [] (hp s) (hr r) := by
  intro n
  induction n with
  | zero => intro v1 v2 s r h; rw [q30_14] at h; cases h
  | succ n ih =>
    intro v1 v2 s r h
    rw [q30_14] at h
    refine Ev.iload_n H30 i30_14 rfl ?_
    refine Ev.sipush H30 i30_15 kS_400 ?_
    refine Rd.ic_gt H30 i30_18 (t := 228) (by decide) h (fun hc h => ?_) (fun hc h => ?_)
    · refine Ev.iconst H30 i30_228 kI_0 ?_
      exact Rd.ireturnK H30 i30_229 rfl (Or.inl rfl) h
    · refine Ev.iload_n H30 i30_21 rfl ?_
      refine Rd.if_eq H30 i30_22 (t := 56) (by decide) h (fun hc h => ?_) (fun hc h => ?_)
      · exact Ev.sub (l := [(0, .ref 17), (1, .int v1), (2, .int v2)]) rfl rfl (mm_sub_c rfl (mm_sub_c rfl (mm_sub_c rfl mm_sub_n))) (t30_56 (k14 := (q30_14 k201 n)) (k201 := k201) (fun _ _ _ _ h => ih _ _ _ _ h) hk201 hd h)
      · refine Ev.aload_n H30 i30_25 rfl ?_
        refine Rd.getI H30 i30_26 ob3 rfl ?_
        refine Ev.bipush H30 i30_29 kB_6 ?_
        refine Rd.ic_ge H30 i30_31 (t := 56) (by decide) h (fun hc h => ?_) (fun hc h => ?_)
        · exact Ev.sub (l := [(0, .ref 17), (1, .int v1), (2, .int v2)]) rfl rfl (mm_sub_c rfl (mm_sub_c rfl (mm_sub_c rfl mm_sub_n))) (t30_56 (k14 := (q30_14 k201 n)) (k201 := k201) (fun _ _ _ _ h => ih _ _ _ _ h) hk201 hd h)
        · refine Ev.aload_n H30 i30_34 rfl ?_
          refine Rd.getR H30 i30_35 ob3 rfl ?_
          refine Ev.ldcT H30 i30_38 ?_
          refine Rd.cV1vN H30 i30_40 cal105 ob8 (Nat.le_of_ble_eq_true rfl) (Nat.le_of_ble_eq_true rfl) (Nat.lt_of_lt_of_le (by decide) hd) (fun q hq => c105 (by decide) hq) h (fun x19 s18 h => ?_)
          refine Rd.if_eq H30 i30_43 (t := 56) (by decide) h (fun hc h => ?_) (fun hc h => ?_)
          · exact Ev.sub (l := [(0, .ref 17), (1, .int v1), (2, .int v2)]) rfl rfl (mm_sub_c rfl (mm_sub_c rfl (mm_sub_c rfl mm_sub_n))) (t30_56 (k14 := (q30_14 k201 n)) (k201 := k201) (fun _ _ _ _ h => ih _ _ _ _ h) hk201 hd h)
          · refine Ev.aload_n H30 i30_46 rfl ?_
            refine Ev.sipush H30 i30_47 kS_2000 ?_
            refine Rd.cV1uN H30 i30_50 cal31 ob3 (Nat.le_of_ble_eq_true rfl) (Nat.le_of_ble_eq_true rfl) (Nat.lt_of_lt_of_le (by decide) hd) (fun q hq => c31 hq) h (fun s20 h => ?_)
            refine Ev.goto H30 i30_53 (t := 222) (by decide) ?_
            exact Ev.sub (l := [(0, .ref 17), (1, .int v1), (2, .int v2)]) rfl rfl (mm_sub_c rfl (mm_sub_c rfl (mm_sub_c rfl mm_sub_n))) (t30_222 (k14 := (q30_14 k201 n)) (fun _ _ _ _ h => ih _ _ _ _ h) hd h)
def q30_201 (s : mS) : Option mQ := bM (q34 (2002 : Int32) (-1 : Int32) s) fun s21 => if ¬ (s21.1 17 4) = 0 then (rv (0 : Int32) s21) else (rv (1 : Int32) s21)
theorem t30_201 {L : Nat} {xs : Nat → Int32} {d : Nat} (hd : 5 ≤ d) {s : mS} {r : mQ} (h : q30_201 s = some r) : Ev L xs d 30 201 [(0, .ref 17)] [] (hp s) (hr r) := by
  unfold q30_201 at h
  refine Ev.aload_n H30 i30_201 rfl ?_
  refine Ev.sipush H30 i30_202 kS_2002 ?_
  refine Ev.iconst H30 i30_205 kI_m1 ?_
  refine Rd.cV2uN H30 i30_206 cal34 ob3 (Nat.le_of_ble_eq_true rfl) (Nat.le_of_ble_eq_true rfl) (Nat.lt_of_lt_of_le (by decide) hd) (fun q hq => c34 hq) h (fun s21 h => ?_)
  refine Ev.aload_n H30 i30_209 rfl ?_
  refine Rd.getI H30 i30_210 ob3 rfl ?_
  refine Rd.if_ne H30 i30_213 (t := 220) (by decide) h (fun hc h => ?_) (fun hc h => ?_)
  · refine Ev.iconst H30 i30_220 kI_0 ?_
    exact Rd.ireturnK H30 i30_221 rfl (Or.inl rfl) h
  · refine Ev.iconst H30 i30_216 kI_1 ?_
    refine Ev.goto H30 i30_217 (t := 221) (by decide) ?_
    exact Rd.ireturnK H30 i30_221 rfl (Or.inr rfl) h
/-- SerialGate$LawReader.readsCondition()Z -/
def q30 (s : mS) : Option mQ := sp (sI s 17 3 (0 : Int32)) fun s22 => sp (sI s22 17 4 (0 : Int32)) fun s23 => q30_14 (q30_201) 10000 (1 : Int32) (0 : Int32) s23
theorem c30 {L : Nat} {xs : Nat → Int32} {s : mS} {r : mQ} (h : q30 s = some r) : ∀ d, 5 ≤ d → Cl L xs d 30 [.ref 17] (hp s) (hr r) := by
  intro d hd
  show Ev L xs d 30 0 [(0, .ref 17)] [] (hp s) (hr r)
  unfold q30 at h
  refine Ev.aload_n H30 i30_0 rfl ?_
  refine Ev.iconst H30 i30_1 kI_0 ?_
  refine Rd.putI H30 i30_2 ob3 rfl ty3_3.1 ty3_3.2 h (fun s22 h => ?_)
  refine Ev.aload_n H30 i30_5 rfl ?_
  refine Ev.iconst H30 i30_6 kI_0 ?_
  refine Rd.putI H30 i30_7 ob3 rfl ty3_4.1 ty3_4.2 h (fun s23 h => ?_)
  refine Ev.iconst H30 i30_10 kI_1 ?_
  refine Ev.istore_n H30 i30_11 (Nat.le_of_ble_eq_true rfl) (lv2 := [(1, .int (1 : Int32)), (0, .ref 17)]) rfl ?_
  refine Ev.iconst H30 i30_12 kI_0 ?_
  refine Ev.istore_n H30 i30_13 (Nat.le_of_ble_eq_true rfl) (lv2 := [(2, .int (0 : Int32)), (1, .int (1 : Int32)), (0, .ref 17)]) rfl ?_
  exact Ev.sub (l := [(0, .ref 17), (1, .int (1 : Int32)), (2, .int (0 : Int32))]) rfl rfl (mm_sub_c rfl (mm_sub_c rfl (mm_sub_c rfl mm_sub_n))) (t30_14 (k201 := (q30_201)) (fun _ _ h => t30_201 hd h) hd 10000 _ _ _ _ h)
theorem i28_0 : mm_cd 28 0 = some (.aload_n 0, 1, 0, 0) := rfl
theorem i28_1 : mm_cd 28 1 = some (.getfield 12, 3, ((3 : Nat) : Int), 0) := rfl
theorem i28_4 : mm_cd 28 4 = some (.invokevirtual 33, 3, 0, 22) := rfl
theorem i28_7 : mm_cd 28 7 = some (.aload_n 0, 1, 0, 0) := rfl
theorem i28_8 : mm_cd 28 8 = some (.getfield 29, 3, ((3 : Nat) : Int), 1) := rfl
theorem i28_11 : mm_cd 28 11 = some (.invokevirtual 36, 3, 0, 100) := rfl
theorem i28_14 : mm_cd 28 14 = some (.aload_n 0, 1, 0, 0) := rfl
theorem i28_15 : mm_cd 28 15 = some (.getfield 29, 3, ((3 : Nat) : Int), 1) := rfl
theorem i28_18 : mm_cd 28 18 = some (.invokevirtual 41, 3, 0, 101) := rfl
theorem i28_21 : mm_cd 28 21 = some (.ifCond .eq 5, 3, 0, 0) := rfl
theorem i28_24 : mm_cd 28 24 = some (.iconst 1, 1, 0, 0) := rfl
theorem i28_25 : mm_cd 28 25 = some (.ireturn, 1, 0, 0) := rfl
theorem i28_26 : mm_cd 28 26 = some (.iconst 0, 1, 0, 0) := rfl
theorem i28_27 : mm_cd 28 27 = some (.istore_n 1, 1, 0, 0) := rfl
theorem i28_28 : mm_cd 28 28 = some (.iload_n 1, 1, 0, 0) := rfl
theorem i28_29 : mm_cd 28 29 = some (.bipush 12, 2, 0, 0) := rfl
theorem i28_31 : mm_cd 28 31 = some (.if_icmp .ge 94, 3, 0, 0) := rfl
theorem i28_34 : mm_cd 28 34 = some (.aload_n 0, 1, 0, 0) := rfl
theorem i28_35 : mm_cd 28 35 = some (.invokevirtual 45, 3, 0, 29) := rfl
theorem i28_38 : mm_cd 28 38 = some (.istore_n 2, 1, 0, 0) := rfl
theorem i28_39 : mm_cd 28 39 = some (.iload_n 2, 1, 0, 0) := rfl
theorem i28_40 : mm_cd 28 40 = some (.iconst (-1), 1, 0, 0) := rfl
theorem i28_41 : mm_cd 28 41 = some (.if_icmp .ne 7, 3, 0, 0) := rfl
theorem i28_44 : mm_cd 28 44 = some (.iconst (-1), 1, 0, 0) := rfl
theorem i28_45 : mm_cd 28 45 = some (.goto 12, 3, 0, 0) := rfl
theorem i28_48 : mm_cd 28 48 = some (.aload_n 0, 1, 0, 0) := rfl
theorem i28_49 : mm_cd 28 49 = some (.getfield 29, 3, ((3 : Nat) : Int), 1) := rfl
theorem i28_52 : mm_cd 28 52 = some (.bipush 40, 2, 0, 0) := rfl
theorem i28_54 : mm_cd 28 54 = some (.invokevirtual 49, 3, 0, 108) := rfl
theorem i28_57 : mm_cd 28 57 = some (.istore_n 3, 1, 0, 0) := rfl
theorem i28_58 : mm_cd 28 58 = some (.iload_n 3, 1, 0, 0) := rfl
theorem i28_59 : mm_cd 28 59 = some (.iconst (-1), 1, 0, 0) := rfl
theorem i28_60 : mm_cd 28 60 = some (.if_icmp .eq 22, 3, 0, 0) := rfl
theorem i28_63 : mm_cd 28 63 = some (.aload_n 0, 1, 0, 0) := rfl
theorem i28_64 : mm_cd 28 64 = some (.getfield 29, 3, ((3 : Nat) : Int), 1) := rfl
theorem i28_67 : mm_cd 28 67 = some (.ldc 53, 2, 0, 13) := rfl
theorem i28_69 : mm_cd 28 69 = some (.invokevirtual 55, 3, 0, 105) := rfl
theorem i28_72 : mm_cd 28 72 = some (.ifCond .eq 12, 3, 0, 0) := rfl
theorem i28_75 : mm_cd 28 75 = some (.aload_n 0, 1, 0, 0) := rfl
theorem i28_76 : mm_cd 28 76 = some (.invokevirtual 59, 3, 0, 30) := rfl
theorem i28_79 : mm_cd 28 79 = some (.ifCond .ne 5, 3, 0, 0) := rfl
theorem i28_82 : mm_cd 28 82 = some (.iconst 0, 1, 0, 0) := rfl
theorem i28_83 : mm_cd 28 83 = some (.ireturn, 1, 0, 0) := rfl
theorem i28_84 : mm_cd 28 84 = some (.aload_n 0, 1, 0, 0) := rfl
theorem i28_85 : mm_cd 28 85 = some (.getfield 12, 3, ((3 : Nat) : Int), 0) := rfl
theorem i28_88 : mm_cd 28 88 = some (.iload_n 2, 1, 0, 0) := rfl
theorem i28_89 : mm_cd 28 89 = some (.iload_n 3, 1, 0, 0) := rfl
theorem i28_90 : mm_cd 28 90 = some (.invokevirtual 62, 3, 0, 24) := rfl
theorem i28_93 : mm_cd 28 93 = some (.aload_n 0, 1, 0, 0) := rfl
theorem i28_94 : mm_cd 28 94 = some (.getfield 29, 3, ((3 : Nat) : Int), 1) := rfl
theorem i28_97 : mm_cd 28 97 = some (.invokevirtual 41, 3, 0, 101) := rfl
theorem i28_100 : mm_cd 28 100 = some (.ifCond .eq 5, 3, 0, 0) := rfl
theorem i28_103 : mm_cd 28 103 = some (.iconst 1, 1, 0, 0) := rfl
theorem i28_104 : mm_cd 28 104 = some (.ireturn, 1, 0, 0) := rfl
theorem i28_105 : mm_cd 28 105 = some (.aload_n 0, 1, 0, 0) := rfl
theorem i28_106 : mm_cd 28 106 = some (.getfield 29, 3, ((3 : Nat) : Int), 1) := rfl
theorem i28_109 : mm_cd 28 109 = some (.bipush 59, 2, 0, 0) := rfl
theorem i28_111 : mm_cd 28 111 = some (.invokevirtual 66, 3, 0, 104) := rfl
theorem i28_114 : mm_cd 28 114 = some (.ifCond .ne 5, 3, 0, 0) := rfl
theorem i28_117 : mm_cd 28 117 = some (.iconst 0, 1, 0, 0) := rfl
theorem i28_118 : mm_cd 28 118 = some (.ireturn, 1, 0, 0) := rfl
theorem i28_119 : mm_cd 28 119 = some (.iinc 1 1, 3, 0, 0) := rfl
theorem i28_122 : mm_cd 28 122 = some (.goto (-94), 3, 0, 0) := rfl
theorem i28_125 : mm_cd 28 125 = some (.iconst 0, 1, 0, 0) := rfl
theorem i28_126 : mm_cd 28 126 = some (.ireturn, 1, 0, 0) := rfl
def q28_84 (k28 : Int32 → mS → Option mQ) (v1 : Int32) (v2 : Int32) (v3 : Int32) (s : mS) : Option mQ := bM (q24 18 v2 v3 s) fun s1 => bN (q101 s1) fun x3 s2 => if x3 = 0 then (bN (q104 (59 : Int32) s2) fun x5 s4 => if ¬ x5 = 0 then (bx (v1 + (1 : Int32)) fun x6 => k28 x6 s4) else (rv (0 : Int32) s4)) else (rv (1 : Int32) s2)
theorem t28_84 {L : Nat} {xs : Nat → Int32} {d : Nat} {k28 : Int32 → mS → Option mQ} (hk28 : ∀ (v1 : Int32) (s : mS) (r : mQ), k28 v1 s = some r → Ev L xs d 28 28 [(0, .ref 17), (1, .int v1)] [] (hp s) (hr r)) (hd : 6 ≤ d) {v1 : Int32} {v2 : Int32} {v3 : Int32} {s : mS} {r : mQ} (h : q28_84 k28 v1 v2 v3 s = some r) : Ev L xs d 28 84 [(0, .ref 17), (1, .int v1), (2, .int v2), (3, .int v3)] [] (hp s) (hr r) := by
  unfold q28_84 at h
  refine Ev.aload_n H28 i28_84 rfl ?_
  refine Rd.getR H28 i28_85 ob3 rfl ?_
  refine Ev.iload_n H28 i28_88 rfl ?_
  refine Ev.iload_n H28 i28_89 rfl ?_
  refine Rd.cV2uN H28 i28_90 cal24 (ob2 mA2_18) (Nat.le_of_ble_eq_true rfl) (Nat.le_of_ble_eq_true rfl) (Nat.lt_of_lt_of_le (by decide) hd) (fun q hq => c24 mA2_18 hq) h (fun s1 h => ?_)
  refine Ev.aload_n H28 i28_93 rfl ?_
  refine Rd.getR H28 i28_94 ob3 rfl ?_
  refine Rd.cV0vN H28 i28_97 cal101 ob8 (Nat.le_of_ble_eq_true rfl) (Nat.le_of_ble_eq_true rfl) (Nat.lt_of_lt_of_le (by decide) hd) (fun q hq => c101 hq) h (fun x3 s2 h => ?_)
  refine Rd.if_eq H28 i28_100 (t := 105) (by decide) h (fun hc h => ?_) (fun hc h => ?_)
  · refine Ev.aload_n H28 i28_105 rfl ?_
    refine Rd.getR H28 i28_106 ob3 rfl ?_
    refine Ev.bipush H28 i28_109 kB_59 ?_
    refine Rd.cV1vN H28 i28_111 cal104 ob8 (Nat.le_of_ble_eq_true rfl) (Nat.le_of_ble_eq_true rfl) (Nat.lt_of_lt_of_le (by decide) hd) (fun q hq => c104 hq) h (fun x5 s4 h => ?_)
    refine Rd.if_ne H28 i28_114 (t := 119) (by decide) h (fun hc h => ?_) (fun hc h => ?_)
    · refine Rd.iinc H28 i28_119 (Nat.le_of_ble_eq_true rfl) rfl kI_1 (lv2 := fun x6 => [(1, .int x6), (0, .ref 17), (2, .int v2), (3, .int v3)]) (fun _ => rfl) h (fun x6 h => ?_)
      refine Ev.goto H28 i28_122 (t := 28) (by decide) ?_
      exact Ev.sub (l := [(0, .ref 17), (1, .int x6)]) rfl rfl (mm_sub_c rfl (mm_sub_c rfl mm_sub_n)) (hk28 _ _ _ h)
    · refine Ev.iconst H28 i28_117 kI_0 ?_
      exact Rd.ireturnK H28 i28_118 rfl (Or.inl rfl) h
  · refine Ev.iconst H28 i28_103 kI_1 ?_
    exact Rd.ireturnK H28 i28_104 rfl (Or.inr rfl) h
def q28_57 (k28 : Int32 → mS → Option mQ) (v1 : Int32) (v2 : Int32) (y0 : Int32) (s : mS) : Option mQ := if y0 = (-1 : Int32) then (rv (0 : Int32) s) else (bN (q105 12 s) fun x8 s7 => if x8 = 0 then (q28_84 k28 v1 v2 y0 s7) else (bN (q30 s7) fun x10 s9 => if ¬ x10 = 0 then (q28_84 k28 v1 v2 y0 s9) else (rv (0 : Int32) s9)))
theorem t28_57 {L : Nat} {xs : Nat → Int32} {d : Nat} {k28 : Int32 → mS → Option mQ} (hk28 : ∀ (v1 : Int32) (s : mS) (r : mQ), k28 v1 s = some r → Ev L xs d 28 28 [(0, .ref 17), (1, .int v1)] [] (hp s) (hr r)) (hd : 6 ≤ d) {v1 : Int32} {v2 : Int32} {y0 : Int32} {s : mS} {r : mQ} (h : q28_57 k28 v1 v2 y0 s = some r) : Ev L xs d 28 57 [(0, .ref 17), (1, .int v1), (2, .int v2)] [.int y0] (hp s) (hr r) := by
  unfold q28_57 at h
  refine Ev.istore_n H28 i28_57 (Nat.le_of_ble_eq_true rfl) (lv2 := [(3, .int y0), (0, .ref 17), (1, .int v1), (2, .int v2)]) rfl ?_
  refine Ev.iload_n H28 i28_58 rfl ?_
  refine Ev.iconst H28 i28_59 kI_m1 ?_
  refine Rd.ic_eq H28 i28_60 (t := 82) (by decide) h (fun hc h => ?_) (fun hc h => ?_)
  · refine Ev.iconst H28 i28_82 kI_0 ?_
    exact Rd.ireturnK H28 i28_83 rfl (Or.inl rfl) h
  · refine Ev.aload_n H28 i28_63 rfl ?_
    refine Rd.getR H28 i28_64 ob3 rfl ?_
    refine Ev.ldcT H28 i28_67 ?_
    refine Rd.cV1vN H28 i28_69 cal105 ob8 (Nat.le_of_ble_eq_true rfl) (Nat.le_of_ble_eq_true rfl) (Nat.lt_of_lt_of_le (by decide) hd) (fun q hq => c105 (by decide) hq) h (fun x8 s7 h => ?_)
    refine Rd.if_eq H28 i28_72 (t := 84) (by decide) h (fun hc h => ?_) (fun hc h => ?_)
    · exact Ev.sub (l := [(0, .ref 17), (1, .int v1), (2, .int v2), (3, .int y0)]) rfl rfl (mm_sub_c rfl (mm_sub_c rfl (mm_sub_c rfl (mm_sub_c rfl mm_sub_n)))) (t28_84 (k28 := k28) hk28 hd h)
    · refine Ev.aload_n H28 i28_75 rfl ?_
      refine Rd.cV0vN H28 i28_76 cal30 ob3 (Nat.le_of_ble_eq_true rfl) (Nat.le_of_ble_eq_true rfl) (Nat.lt_of_lt_of_le (by decide) hd) (fun q hq => c30 hq) h (fun x10 s9 h => ?_)
      refine Rd.if_ne H28 i28_79 (t := 84) (by decide) h (fun hc h => ?_) (fun hc h => ?_)
      · exact Ev.sub (l := [(0, .ref 17), (1, .int v1), (2, .int v2), (3, .int y0)]) rfl rfl (mm_sub_c rfl (mm_sub_c rfl (mm_sub_c rfl (mm_sub_c rfl mm_sub_n)))) (t28_84 (k28 := k28) hk28 hd h)
      · refine Ev.iconst H28 i28_82 kI_0 ?_
        exact Rd.ireturnK H28 i28_83 rfl (Or.inl rfl) h
def q28_28 : Nat → Int32 → mS → Option mQ
  | 0, _, _ => none
  | n + 1, v1, s => if (12 : Int32) ≤ v1 then (rv (0 : Int32) s) else (bN (q29 s) fun x12 s11 => if ¬ x12 = (-1 : Int32) then (bN (q108 (40 : Int32) s11) fun x14 s13 => q28_57 (q28_28 n) v1 x12 x14 s13) else (q28_57 (q28_28 n) v1 x12 (-1 : Int32) s11))
theorem t28_28 {L : Nat} {xs : Nat → Int32} {d : Nat} (hd : 6 ≤ d) : ∀ (n : Nat) (v1 : Int32) (s : mS) (r : mQ), q28_28 n v1 s = some r → Ev L xs d 28 28 [(0, .ref 17), (1, .int v1)] [] (hp s) (hr r) := by
  intro n
  induction n with
  | zero => intro v1 s r h; rw [q28_28] at h; cases h
  | succ n ih =>
    intro v1 s r h
    rw [q28_28] at h
    refine Ev.iload_n H28 i28_28 rfl ?_
    refine Ev.bipush H28 i28_29 kB_12 ?_
    refine Rd.ic_ge H28 i28_31 (t := 125) (by decide) h (fun hc h => ?_) (fun hc h => ?_)
    · refine Ev.iconst H28 i28_125 kI_0 ?_
      exact Rd.ireturnK H28 i28_126 rfl (Or.inl rfl) h
    · refine Ev.aload_n H28 i28_34 rfl ?_
      refine Rd.cV0vN H28 i28_35 cal29 ob3 (Nat.le_of_ble_eq_true rfl) (Nat.le_of_ble_eq_true rfl) (Nat.lt_of_lt_of_le (by decide) hd) (fun q hq => c29 hq) h (fun x12 s11 h => ?_)
      refine Ev.istore_n H28 i28_38 (Nat.le_of_ble_eq_true rfl) (lv2 := [(2, .int x12), (0, .ref 17), (1, .int v1)]) rfl ?_
      refine Ev.iload_n H28 i28_39 rfl ?_
      refine Ev.iconst H28 i28_40 kI_m1 ?_
      refine Rd.ic_ne H28 i28_41 (t := 48) (by decide) h (fun hc h => ?_) (fun hc h => ?_)
      · refine Ev.aload_n H28 i28_48 rfl ?_
        refine Rd.getR H28 i28_49 ob3 rfl ?_
        refine Ev.bipush H28 i28_52 kB_40 ?_
        refine Rd.cV1vN H28 i28_54 cal108 ob8 (Nat.le_of_ble_eq_true rfl) (Nat.le_of_ble_eq_true rfl) (Nat.lt_of_lt_of_le (by decide) hd) (fun q hq => c108 hq) h (fun x14 s13 h => ?_)
        exact Ev.sub (l := [(0, .ref 17), (1, .int v1), (2, .int x12)]) rfl rfl (mm_sub_c rfl (mm_sub_c rfl (mm_sub_c rfl mm_sub_n))) (t28_57 (k28 := (q28_28 n)) (fun _ _ _ h => ih _ _ _ h) hd h)
      · refine Ev.iconst H28 i28_44 kI_m1 ?_
        refine Ev.goto H28 i28_45 (t := 57) (by decide) ?_
        exact Ev.sub (l := [(0, .ref 17), (1, .int v1), (2, .int x12)]) rfl rfl (mm_sub_c rfl (mm_sub_c rfl (mm_sub_c rfl mm_sub_n))) (t28_57 (k28 := (q28_28 n)) (fun _ _ _ h => ih _ _ _ h) hd h)
/-- SerialGate$LawReader.readsText()Z -/
def q28 (s : mS) : Option mQ := bM (q22 18 s) fun s15 => bM (q100 s15) fun s16 => bN (q101 s16) fun x18 s17 => if x18 = 0 then (q28_28 10000 (0 : Int32) s17) else (rv (1 : Int32) s17)
theorem c28 {L : Nat} {xs : Nat → Int32} {s : mS} {r : mQ} (h : q28 s = some r) : ∀ d, 6 ≤ d → Cl L xs d 28 [.ref 17] (hp s) (hr r) := by
  intro d hd
  show Ev L xs d 28 0 [(0, .ref 17)] [] (hp s) (hr r)
  unfold q28 at h
  refine Ev.aload_n H28 i28_0 rfl ?_
  refine Rd.getR H28 i28_1 ob3 rfl ?_
  refine Rd.cV0uN H28 i28_4 cal22 (ob2 mA2_18) (Nat.le_of_ble_eq_true rfl) (Nat.le_of_ble_eq_true rfl) (Nat.lt_of_lt_of_le (by decide) hd) (fun q hq => c22 mA2_18 hq) h (fun s15 h => ?_)
  refine Ev.aload_n H28 i28_7 rfl ?_
  refine Rd.getR H28 i28_8 ob3 rfl ?_
  refine Rd.cV0uN H28 i28_11 cal100 ob8 (Nat.le_of_ble_eq_true rfl) (Nat.le_of_ble_eq_true rfl) (Nat.lt_of_lt_of_le (by decide) hd) (fun q hq => c100 hq) h (fun s16 h => ?_)
  refine Ev.aload_n H28 i28_14 rfl ?_
  refine Rd.getR H28 i28_15 ob3 rfl ?_
  refine Rd.cV0vN H28 i28_18 cal101 ob8 (Nat.le_of_ble_eq_true rfl) (Nat.le_of_ble_eq_true rfl) (Nat.lt_of_lt_of_le (by decide) hd) (fun q hq => c101 hq) h (fun x18 s17 h => ?_)
  refine Rd.if_eq H28 i28_21 (t := 26) (by decide) h (fun hc h => ?_) (fun hc h => ?_)
  · refine Ev.iconst H28 i28_26 kI_0 ?_
    refine Ev.istore_n H28 i28_27 (Nat.le_of_ble_eq_true rfl) (lv2 := [(1, .int (0 : Int32)), (0, .ref 17)]) rfl ?_
    exact Ev.sub (l := [(0, .ref 17), (1, .int (0 : Int32))]) rfl rfl (mm_sub_c rfl (mm_sub_c rfl mm_sub_n)) (t28_28 hd 10000 _ _ _ h)
  · refine Ev.iconst H28 i28_24 kI_1 ?_
    exact Rd.ireturnK H28 i28_25 rfl (Or.inr rfl) h
theorem i42_0 : mm_cd 42 0 = some (.aload_n 0, 1, 0, 0) := rfl
theorem i42_1 : mm_cd 42 1 = some (.aload_n 1, 1, 0, 0) := rfl
theorem i42_2 : mm_cd 42 2 = some (.getfield 9, 3, ((4 : Nat) : Int), 0) := rfl
theorem i42_5 : mm_cd 42 5 = some (.putfield 9, 3, ((4 : Nat) : Int), 0) := rfl
theorem i42_8 : mm_cd 42 8 = some (.aload_n 0, 1, 0, 0) := rfl
theorem i42_9 : mm_cd 42 9 = some (.aload_n 1, 1, 0, 0) := rfl
theorem i42_10 : mm_cd 42 10 = some (.getfield 15, 3, ((4 : Nat) : Int), 1) := rfl
theorem i42_13 : mm_cd 42 13 = some (.putfield 15, 3, ((4 : Nat) : Int), 1) := rfl
theorem i42_16 : mm_cd 42 16 = some (.aload_n 1, 1, 0, 0) := rfl
theorem i42_17 : mm_cd 42 17 = some (.getfield 18, 3, ((4 : Nat) : Int), 2) := rfl
theorem i42_20 : mm_cd 42 20 = some (.iconst 0, 1, 0, 0) := rfl
theorem i42_21 : mm_cd 42 21 = some (.aload_n 0, 1, 0, 0) := rfl
theorem i42_22 : mm_cd 42 22 = some (.getfield 18, 3, ((4 : Nat) : Int), 2) := rfl
theorem i42_25 : mm_cd 42 25 = some (.iconst 0, 1, 0, 0) := rfl
theorem i42_26 : mm_cd 42 26 = some (.sipush 240, 3, 0, 0) := rfl
theorem i42_29 : mm_cd 42 29 = some (.invokestatic 22, 3, 1, 0) := rfl
theorem i42_32 : mm_cd 42 32 = some (.return_, 1, 0, 0) := rfl
/-- SerialGate$Log.copyFrom(LSerialGate$Log;)V -/
def q42 (a : Nat) (b : Nat) (s : mS) : Option mQ := sp (sI s a 0 (s.1 b 0)) fun s1 => sp (sI s1 a 1 (s1.1 b 1)) fun s2 => gC 240 240 (0 : Int32) (0 : Int32) (240 : Int32) <| sp (sC s2 (b + 1) (a + 1) (0 : Int32).toNatClampNeg (0 : Int32).toNatClampNeg (240 : Int32).toNatClampNeg) fun s3 => ru s3
theorem c42 {L : Nat} {xs : Nat → Int32} {a : Nat} {b : Nat} (ma : a ∈ A4) (mb : b ∈ A4) {s : mS} {r : mQ} (h : q42 a b s = some r) : ∀ d, 0 ≤ d → Cl L xs d 42 [.ref a, .ref b] (hp s) (hr r) := by
  intro d hd
  show Ev L xs d 42 0 [(0, .ref a), (1, .ref b)] [] (hp s) (hr r)
  unfold q42 at h
  refine Ev.aload_n H42 i42_0 rfl ?_
  refine Ev.aload_n H42 i42_1 rfl ?_
  refine Rd.getI H42 i42_2 (ob4 mb) rfl ?_
  refine Rd.putI H42 i42_5 (ob4 ma) rfl ty4_0.1 ty4_0.2 h (fun s1 h => ?_)
  refine Ev.aload_n H42 i42_8 rfl ?_
  refine Ev.aload_n H42 i42_9 rfl ?_
  refine Rd.getI H42 i42_10 (ob4 mb) rfl ?_
  refine Rd.putI H42 i42_13 (ob4 ma) rfl ty4_1.1 ty4_1.2 h (fun s2 h => ?_)
  refine Ev.aload_n H42 i42_16 rfl ?_
  refine Rd.getR H42 i42_17 (ob4 mb) rfl ?_
  refine Ev.iconst H42 i42_20 kI_0 ?_
  refine Ev.aload_n H42 i42_21 rfl ?_
  refine Rd.getR H42 i42_22 (ob4 ma) rfl ?_
  refine Ev.iconst H42 i42_25 kI_0 ?_
  refine Ev.sipush H42 i42_26 kS_240 ?_
  refine Rd.copy H42 i42_29 (ar4_1 mb) (ar4_1 ma) (Nat.le_of_ble_eq_true rfl) h (fun s3 h => ?_)
  exact Rd.return_ H42 i42_32 rfl h
theorem i43_0 : mm_cd 43 0 = some (.aload_n 0, 1, 0, 0) := rfl
theorem i43_1 : mm_cd 43 1 = some (.getfield 18, 3, ((4 : Nat) : Int), 2) := rfl
theorem i43_4 : mm_cd 43 4 = some (.aload_n 0, 1, 0, 0) := rfl
theorem i43_5 : mm_cd 43 5 = some (.getfield 15, 3, ((4 : Nat) : Int), 1) := rfl
theorem i43_8 : mm_cd 43 8 = some (.iconst 4, 1, 0, 0) := rfl
theorem i43_9 : mm_cd 43 9 = some (.imul, 1, 0, 0) := rfl
theorem i43_10 : mm_cd 43 10 = some (.iload_n 1, 1, 0, 0) := rfl
theorem i43_11 : mm_cd 43 11 = some (.iastore, 1, 0, 0) := rfl
theorem i43_12 : mm_cd 43 12 = some (.aload_n 0, 1, 0, 0) := rfl
theorem i43_13 : mm_cd 43 13 = some (.getfield 18, 3, ((4 : Nat) : Int), 2) := rfl
theorem i43_16 : mm_cd 43 16 = some (.aload_n 0, 1, 0, 0) := rfl
theorem i43_17 : mm_cd 43 17 = some (.getfield 15, 3, ((4 : Nat) : Int), 1) := rfl
theorem i43_20 : mm_cd 43 20 = some (.iconst 4, 1, 0, 0) := rfl
theorem i43_21 : mm_cd 43 21 = some (.imul, 1, 0, 0) := rfl
theorem i43_22 : mm_cd 43 22 = some (.iconst 1, 1, 0, 0) := rfl
theorem i43_23 : mm_cd 43 23 = some (.iadd, 1, 0, 0) := rfl
theorem i43_24 : mm_cd 43 24 = some (.iload_n 2, 1, 0, 0) := rfl
theorem i43_25 : mm_cd 43 25 = some (.iastore, 1, 0, 0) := rfl
theorem i43_26 : mm_cd 43 26 = some (.aload_n 0, 1, 0, 0) := rfl
theorem i43_27 : mm_cd 43 27 = some (.getfield 18, 3, ((4 : Nat) : Int), 2) := rfl
theorem i43_30 : mm_cd 43 30 = some (.aload_n 0, 1, 0, 0) := rfl
theorem i43_31 : mm_cd 43 31 = some (.getfield 15, 3, ((4 : Nat) : Int), 1) := rfl
theorem i43_34 : mm_cd 43 34 = some (.iconst 4, 1, 0, 0) := rfl
theorem i43_35 : mm_cd 43 35 = some (.imul, 1, 0, 0) := rfl
theorem i43_36 : mm_cd 43 36 = some (.iconst 2, 1, 0, 0) := rfl
theorem i43_37 : mm_cd 43 37 = some (.iadd, 1, 0, 0) := rfl
theorem i43_38 : mm_cd 43 38 = some (.iload_n 3, 1, 0, 0) := rfl
theorem i43_39 : mm_cd 43 39 = some (.iastore, 1, 0, 0) := rfl
theorem i43_40 : mm_cd 43 40 = some (.aload_n 0, 1, 0, 0) := rfl
theorem i43_41 : mm_cd 43 41 = some (.getfield 18, 3, ((4 : Nat) : Int), 2) := rfl
theorem i43_44 : mm_cd 43 44 = some (.aload_n 0, 1, 0, 0) := rfl
theorem i43_45 : mm_cd 43 45 = some (.getfield 15, 3, ((4 : Nat) : Int), 1) := rfl
theorem i43_48 : mm_cd 43 48 = some (.iconst 4, 1, 0, 0) := rfl
theorem i43_49 : mm_cd 43 49 = some (.imul, 1, 0, 0) := rfl
theorem i43_50 : mm_cd 43 50 = some (.iconst 3, 1, 0, 0) := rfl
theorem i43_51 : mm_cd 43 51 = some (.iadd, 1, 0, 0) := rfl
theorem i43_52 : mm_cd 43 52 = some (.iload 4, 2, 0, 0) := rfl
theorem i43_54 : mm_cd 43 54 = some (.iastore, 1, 0, 0) := rfl
theorem i43_55 : mm_cd 43 55 = some (.aload_n 0, 1, 0, 0) := rfl
theorem i43_56 : mm_cd 43 56 = some (.aload_n 0, 1, 0, 0) := rfl
theorem i43_57 : mm_cd 43 57 = some (.getfield 15, 3, ((4 : Nat) : Int), 1) := rfl
theorem i43_60 : mm_cd 43 60 = some (.iconst 1, 1, 0, 0) := rfl
theorem i43_61 : mm_cd 43 61 = some (.iadd, 1, 0, 0) := rfl
theorem i43_62 : mm_cd 43 62 = some (.bipush 60, 2, 0, 0) := rfl
theorem i43_64 : mm_cd 43 64 = some (.irem, 1, 0, 0) := rfl
theorem i43_65 : mm_cd 43 65 = some (.putfield 15, 3, ((4 : Nat) : Int), 1) := rfl
theorem i43_68 : mm_cd 43 68 = some (.aload_n 0, 1, 0, 0) := rfl
theorem i43_69 : mm_cd 43 69 = some (.bipush 60, 2, 0, 0) := rfl
theorem i43_71 : mm_cd 43 71 = some (.aload_n 0, 1, 0, 0) := rfl
theorem i43_72 : mm_cd 43 72 = some (.getfield 9, 3, ((4 : Nat) : Int), 0) := rfl
theorem i43_75 : mm_cd 43 75 = some (.iconst 1, 1, 0, 0) := rfl
theorem i43_76 : mm_cd 43 76 = some (.iadd, 1, 0, 0) := rfl
theorem i43_77 : mm_cd 43 77 = some (.invokestatic 28, 3, 3, 0) := rfl
theorem i43_80 : mm_cd 43 80 = some (.putfield 9, 3, ((4 : Nat) : Int), 0) := rfl
theorem i43_83 : mm_cd 43 83 = some (.return_, 1, 0, 0) := rfl
/-- SerialGate$Log.add(IIII)V -/
def q43 (a : Nat) (v1 : Int32) (v2 : Int32) (v3 : Int32) (v4 : Int32) (s : mS) : Option mQ := gA 240 ((s.1 a 1) * (4 : Int32)) <| sp (sI s (a + 1) ((s.1 a 1) * (4 : Int32)).toNatClampNeg v1) fun s1 => gA 240 (((s1.1 a 1) * (4 : Int32)) + (1 : Int32)) <| sp (sI s1 (a + 1) (((s1.1 a 1) * (4 : Int32)) + (1 : Int32)).toNatClampNeg v2) fun s2 => gA 240 (((s2.1 a 1) * (4 : Int32)) + (2 : Int32)) <| sp (sI s2 (a + 1) (((s2.1 a 1) * (4 : Int32)) + (2 : Int32)).toNatClampNeg v3) fun s3 => gA 240 (((s3.1 a 1) * (4 : Int32)) + (3 : Int32)) <| sp (sI s3 (a + 1) (((s3.1 a 1) * (4 : Int32)) + (3 : Int32)).toNatClampNeg v4) fun s4 => gZ (60 : Int32) <| sp (sI s4 a 1 (rmI ((s4.1 a 1) + (1 : Int32)) (60 : Int32))) fun s5 => sp (sI s5 a 0 (mnI (60 : Int32) ((s5.1 a 0) + (1 : Int32)))) fun s6 => ru s6
theorem c43 {L : Nat} {xs : Nat → Int32} {a : Nat} (ma : a ∈ A4) {v1 : Int32} {v2 : Int32} {v3 : Int32} {v4 : Int32} {s : mS} {r : mQ} (h : q43 a v1 v2 v3 v4 s = some r) : ∀ d, 0 ≤ d → Cl L xs d 43 [.ref a, .int v1, .int v2, .int v3, .int v4] (hp s) (hr r) := by
  intro d hd
  show Ev L xs d 43 0 [(0, .ref a), (1, .int v1), (2, .int v2), (3, .int v3), (4, .int v4)] [] (hp s) (hr r)
  unfold q43 at h
  refine Ev.aload_n H43 i43_0 rfl ?_
  refine Rd.getR H43 i43_1 (ob4 ma) rfl ?_
  refine Ev.aload_n H43 i43_4 rfl ?_
  refine Rd.getI H43 i43_5 (ob4 ma) rfl ?_
  refine Ev.iconst H43 i43_8 kI_4 ?_
  refine Ev.imul H43 i43_9 ?_
  refine Ev.iload_n H43 i43_10 rfl ?_
  refine Rd.iastore H43 i43_11 (ar4_1 ma) h (fun s1 h => ?_)
  refine Ev.aload_n H43 i43_12 rfl ?_
  refine Rd.getR H43 i43_13 (ob4 ma) rfl ?_
  refine Ev.aload_n H43 i43_16 rfl ?_
  refine Rd.getI H43 i43_17 (ob4 ma) rfl ?_
  refine Ev.iconst H43 i43_20 kI_4 ?_
  refine Ev.imul H43 i43_21 ?_
  refine Ev.iconst H43 i43_22 kI_1 ?_
  refine Ev.iadd H43 i43_23 ?_
  refine Ev.iload_n H43 i43_24 rfl ?_
  refine Rd.iastore H43 i43_25 (ar4_1 ma) h (fun s2 h => ?_)
  refine Ev.aload_n H43 i43_26 rfl ?_
  refine Rd.getR H43 i43_27 (ob4 ma) rfl ?_
  refine Ev.aload_n H43 i43_30 rfl ?_
  refine Rd.getI H43 i43_31 (ob4 ma) rfl ?_
  refine Ev.iconst H43 i43_34 kI_4 ?_
  refine Ev.imul H43 i43_35 ?_
  refine Ev.iconst H43 i43_36 kI_2 ?_
  refine Ev.iadd H43 i43_37 ?_
  refine Ev.iload_n H43 i43_38 rfl ?_
  refine Rd.iastore H43 i43_39 (ar4_1 ma) h (fun s3 h => ?_)
  refine Ev.aload_n H43 i43_40 rfl ?_
  refine Rd.getR H43 i43_41 (ob4 ma) rfl ?_
  refine Ev.aload_n H43 i43_44 rfl ?_
  refine Rd.getI H43 i43_45 (ob4 ma) rfl ?_
  refine Ev.iconst H43 i43_48 kI_4 ?_
  refine Ev.imul H43 i43_49 ?_
  refine Ev.iconst H43 i43_50 kI_3 ?_
  refine Ev.iadd H43 i43_51 ?_
  refine Ev.iload H43 i43_52 rfl ?_
  refine Rd.iastore H43 i43_54 (ar4_1 ma) h (fun s4 h => ?_)
  refine Ev.aload_n H43 i43_55 rfl ?_
  refine Ev.aload_n H43 i43_56 rfl ?_
  refine Rd.getI H43 i43_57 (ob4 ma) rfl ?_
  refine Ev.iconst H43 i43_60 kI_1 ?_
  refine Ev.iadd H43 i43_61 ?_
  refine Ev.bipush H43 i43_62 kB_60 ?_
  refine Rd.irem H43 i43_64 h (fun h => ?_)
  refine Rd.putI H43 i43_65 (ob4 ma) rfl ty4_1.1 ty4_1.2 h (fun s5 h => ?_)
  refine Ev.aload_n H43 i43_68 rfl ?_
  refine Ev.bipush H43 i43_69 kB_60 ?_
  refine Ev.aload_n H43 i43_71 rfl ?_
  refine Rd.getI H43 i43_72 (ob4 ma) rfl ?_
  refine Ev.iconst H43 i43_75 kI_1 ?_
  refine Ev.iadd H43 i43_76 ?_
  refine Rd.min H43 i43_77 (Nat.le_of_ble_eq_true rfl) ?_
  refine Rd.putI H43 i43_80 (ob4 ma) rfl ty4_0.1 ty4_0.2 h (fun s6 h => ?_)
  exact Rd.return_ H43 i43_83 rfl h
theorem i44_0 : mm_cd 44 0 = some (.iload_n 1, 1, 0, 0) := rfl
theorem i44_1 : mm_cd 44 1 = some (.ifCond .lt 11, 3, 0, 0) := rfl
theorem i44_4 : mm_cd 44 4 = some (.iload_n 1, 1, 0, 0) := rfl
theorem i44_5 : mm_cd 44 5 = some (.aload_n 0, 1, 0, 0) := rfl
theorem i44_6 : mm_cd 44 6 = some (.getfield 9, 3, ((4 : Nat) : Int), 0) := rfl
theorem i44_9 : mm_cd 44 9 = some (.if_icmp .lt 5, 3, 0, 0) := rfl
theorem i44_12 : mm_cd 44 12 = some (.iconst (-1), 1, 0, 0) := rfl
theorem i44_13 : mm_cd 44 13 = some (.ireturn, 1, 0, 0) := rfl
theorem i44_14 : mm_cd 44 14 = some (.aload_n 0, 1, 0, 0) := rfl
theorem i44_15 : mm_cd 44 15 = some (.getfield 18, 3, ((4 : Nat) : Int), 2) := rfl
theorem i44_18 : mm_cd 44 18 = some (.aload_n 0, 1, 0, 0) := rfl
theorem i44_19 : mm_cd 44 19 = some (.getfield 15, 3, ((4 : Nat) : Int), 1) := rfl
theorem i44_22 : mm_cd 44 22 = some (.iconst 1, 1, 0, 0) := rfl
theorem i44_23 : mm_cd 44 23 = some (.isub, 1, 0, 0) := rfl
theorem i44_24 : mm_cd 44 24 = some (.iload_n 1, 1, 0, 0) := rfl
theorem i44_25 : mm_cd 44 25 = some (.isub, 1, 0, 0) := rfl
theorem i44_26 : mm_cd 44 26 = some (.bipush 60, 2, 0, 0) := rfl
theorem i44_28 : mm_cd 44 28 = some (.iadd, 1, 0, 0) := rfl
theorem i44_29 : mm_cd 44 29 = some (.bipush 60, 2, 0, 0) := rfl
theorem i44_31 : mm_cd 44 31 = some (.irem, 1, 0, 0) := rfl
theorem i44_32 : mm_cd 44 32 = some (.iconst 4, 1, 0, 0) := rfl
theorem i44_33 : mm_cd 44 33 = some (.imul, 1, 0, 0) := rfl
theorem i44_34 : mm_cd 44 34 = some (.iload_n 2, 1, 0, 0) := rfl
theorem i44_35 : mm_cd 44 35 = some (.iadd, 1, 0, 0) := rfl
theorem i44_36 : mm_cd 44 36 = some (.iaload, 1, 0, 0) := rfl
theorem i44_37 : mm_cd 44 37 = some (.ireturn, 1, 0, 0) := rfl
/-- SerialGate$Log.tell(II)I -/
def q44 (a : Nat) (v1 : Int32) (v2 : Int32) (s : mS) : Option mQ := if v1 < 0 then (rv (-1 : Int32) s) else (if v1 < (s.1 a 0) then (gZ (60 : Int32) <| gA 240 (((rmI ((((s.1 a 1) - (1 : Int32)) - v1) + (60 : Int32)) (60 : Int32)) * (4 : Int32)) + v2) <| rv (s.1 (a + 1) (((rmI ((((s.1 a 1) - (1 : Int32)) - v1) + (60 : Int32)) (60 : Int32)) * (4 : Int32)) + v2).toNatClampNeg) s) else (rv (-1 : Int32) s))
theorem c44 {L : Nat} {xs : Nat → Int32} {a : Nat} (ma : a ∈ A4) {v1 : Int32} {v2 : Int32} {s : mS} {r : mQ} (h : q44 a v1 v2 s = some r) : ∀ d, 0 ≤ d → Cl L xs d 44 [.ref a, .int v1, .int v2] (hp s) (hr r) := by
  intro d hd
  show Ev L xs d 44 0 [(0, .ref a), (1, .int v1), (2, .int v2)] [] (hp s) (hr r)
  unfold q44 at h
  refine Ev.iload_n H44 i44_0 rfl ?_
  refine Rd.if_lt H44 i44_1 (t := 12) (by decide) h (fun hc h => ?_) (fun hc h => ?_)
  · refine Ev.iconst H44 i44_12 kI_m1 ?_
    exact Rd.ireturn H44 i44_13 rfl h
  · refine Ev.iload_n H44 i44_4 rfl ?_
    refine Ev.aload_n H44 i44_5 rfl ?_
    refine Rd.getI H44 i44_6 (ob4 ma) rfl ?_
    refine Rd.ic_lt H44 i44_9 (t := 14) (by decide) h (fun hc h => ?_) (fun hc h => ?_)
    · refine Ev.aload_n H44 i44_14 rfl ?_
      refine Rd.getR H44 i44_15 (ob4 ma) rfl ?_
      refine Ev.aload_n H44 i44_18 rfl ?_
      refine Rd.getI H44 i44_19 (ob4 ma) rfl ?_
      refine Ev.iconst H44 i44_22 kI_1 ?_
      refine Ev.isub H44 i44_23 ?_
      refine Ev.iload_n H44 i44_24 rfl ?_
      refine Ev.isub H44 i44_25 ?_
      refine Ev.bipush H44 i44_26 kB_60 ?_
      refine Ev.iadd H44 i44_28 ?_
      refine Ev.bipush H44 i44_29 kB_60 ?_
      refine Rd.irem H44 i44_31 h (fun h => ?_)
      refine Ev.iconst H44 i44_32 kI_4 ?_
      refine Ev.imul H44 i44_33 ?_
      refine Ev.iload_n H44 i44_34 rfl ?_
      refine Ev.iadd H44 i44_35 ?_
      refine Rd.iaload H44 i44_36 (ar4_1 ma) h (fun h => ?_)
      exact Rd.ireturn H44 i44_37 rfl h
    · refine Ev.iconst H44 i44_12 kI_m1 ?_
      exact Rd.ireturn H44 i44_13 rfl h
theorem i45_0 : mm_cd 45 0 = some (.aload_n 0, 1, 0, 0) := rfl
theorem i45_1 : mm_cd 45 1 = some (.iload_n 1, 1, 0, 0) := rfl
theorem i45_2 : mm_cd 45 2 = some (.iconst 2, 1, 0, 0) := rfl
theorem i45_3 : mm_cd 45 3 = some (.invokevirtual 34, 3, 0, 44) := rfl
theorem i45_6 : mm_cd 45 6 = some (.istore_n 3, 1, 0, 0) := rfl
theorem i45_7 : mm_cd 45 7 = some (.aload_n 0, 1, 0, 0) := rfl
theorem i45_8 : mm_cd 45 8 = some (.iload_n 1, 1, 0, 0) := rfl
theorem i45_9 : mm_cd 45 9 = some (.iconst 1, 1, 0, 0) := rfl
theorem i45_10 : mm_cd 45 10 = some (.invokevirtual 34, 3, 0, 44) := rfl
theorem i45_13 : mm_cd 45 13 = some (.iload_n 2, 1, 0, 0) := rfl
theorem i45_14 : mm_cd 45 14 = some (.if_icmp .ne 17, 3, 0, 0) := rfl
theorem i45_17 : mm_cd 45 17 = some (.iload_n 3, 1, 0, 0) := rfl
theorem i45_18 : mm_cd 45 18 = some (.iconst 1, 1, 0, 0) := rfl
theorem i45_19 : mm_cd 45 19 = some (.if_icmp .lt 12, 3, 0, 0) := rfl
theorem i45_22 : mm_cd 45 22 = some (.iload_n 3, 1, 0, 0) := rfl
theorem i45_23 : mm_cd 45 23 = some (.iconst 3, 1, 0, 0) := rfl
theorem i45_24 : mm_cd 45 24 = some (.if_icmp .gt 7, 3, 0, 0) := rfl
theorem i45_27 : mm_cd 45 27 = some (.iconst 1, 1, 0, 0) := rfl
theorem i45_28 : mm_cd 45 28 = some (.goto 4, 3, 0, 0) := rfl
theorem i45_31 : mm_cd 45 31 = some (.iconst 0, 1, 0, 0) := rfl
theorem i45_32 : mm_cd 45 32 = some (.ireturn, 1, 0, 0) := rfl
/-- SerialGate$Log.isLed(II)Z -/
def q45 (a : Nat) (v1 : Int32) (v2 : Int32) (s : mS) : Option mQ := bN (q44 a v1 (2 : Int32) s) fun x2 s1 => bN (q44 a v1 (1 : Int32) s1) fun x4 s3 => if ¬ x4 = v2 then (rv (0 : Int32) s3) else (if x2 < (1 : Int32) then (rv (0 : Int32) s3) else (if (3 : Int32) < x2 then (rv (0 : Int32) s3) else (rv (1 : Int32) s3)))
theorem c45 {L : Nat} {xs : Nat → Int32} {a : Nat} (ma : a ∈ A4) {v1 : Int32} {v2 : Int32} {s : mS} {r : mQ} (h : q45 a v1 v2 s = some r) : ∀ d, 1 ≤ d → Cl L xs d 45 [.ref a, .int v1, .int v2] (hp s) (hr r) := by
  intro d hd
  show Ev L xs d 45 0 [(0, .ref a), (1, .int v1), (2, .int v2)] [] (hp s) (hr r)
  unfold q45 at h
  refine Ev.aload_n H45 i45_0 rfl ?_
  refine Ev.iload_n H45 i45_1 rfl ?_
  refine Ev.iconst H45 i45_2 kI_2 ?_
  refine Rd.cV2vN H45 i45_3 cal44 (ob4 ma) (Nat.le_of_ble_eq_true rfl) (Nat.le_of_ble_eq_true rfl) (Nat.lt_of_lt_of_le (by decide) hd) (fun q hq => c44 ma hq) h (fun x2 s1 h => ?_)
  refine Ev.istore_n H45 i45_6 (Nat.le_of_ble_eq_true rfl) (lv2 := [(3, .int x2), (0, .ref a), (1, .int v1), (2, .int v2)]) rfl ?_
  refine Ev.aload_n H45 i45_7 rfl ?_
  refine Ev.iload_n H45 i45_8 rfl ?_
  refine Ev.iconst H45 i45_9 kI_1 ?_
  refine Rd.cV2vN H45 i45_10 cal44 (ob4 ma) (Nat.le_of_ble_eq_true rfl) (Nat.le_of_ble_eq_true rfl) (Nat.lt_of_lt_of_le (by decide) hd) (fun q hq => c44 ma hq) h (fun x4 s3 h => ?_)
  refine Ev.iload_n H45 i45_13 rfl ?_
  refine Rd.ic_ne H45 i45_14 (t := 31) (by decide) h (fun hc h => ?_) (fun hc h => ?_)
  · refine Ev.iconst H45 i45_31 kI_0 ?_
    exact Rd.ireturnK H45 i45_32 rfl (Or.inl rfl) h
  · refine Ev.iload_n H45 i45_17 rfl ?_
    refine Ev.iconst H45 i45_18 kI_1 ?_
    refine Rd.ic_lt H45 i45_19 (t := 31) (by decide) h (fun hc h => ?_) (fun hc h => ?_)
    · refine Ev.iconst H45 i45_31 kI_0 ?_
      exact Rd.ireturnK H45 i45_32 rfl (Or.inl rfl) h
    · refine Ev.iload_n H45 i45_22 rfl ?_
      refine Ev.iconst H45 i45_23 kI_3 ?_
      refine Rd.ic_gt H45 i45_24 (t := 31) (by decide) h (fun hc h => ?_) (fun hc h => ?_)
      · refine Ev.iconst H45 i45_31 kI_0 ?_
        exact Rd.ireturnK H45 i45_32 rfl (Or.inl rfl) h
      · refine Ev.iconst H45 i45_27 kI_1 ?_
        refine Ev.goto H45 i45_28 (t := 32) (by decide) ?_
        exact Rd.ireturnK H45 i45_32 rfl (Or.inr rfl) h
theorem i46_0 : mm_cd 46 0 = some (.iconst 0, 1, 0, 0) := rfl
theorem i46_1 : mm_cd 46 1 = some (.istore_n 2, 1, 0, 0) := rfl
theorem i46_2 : mm_cd 46 2 = some (.iconst 0, 1, 0, 0) := rfl
theorem i46_3 : mm_cd 46 3 = some (.istore_n 3, 1, 0, 0) := rfl
theorem i46_4 : mm_cd 46 4 = some (.iload_n 3, 1, 0, 0) := rfl
theorem i46_5 : mm_cd 46 5 = some (.aload_n 0, 1, 0, 0) := rfl
theorem i46_6 : mm_cd 46 6 = some (.getfield 9, 3, ((4 : Nat) : Int), 0) := rfl
theorem i46_9 : mm_cd 46 9 = some (.if_icmp .ge 21, 3, 0, 0) := rfl
theorem i46_12 : mm_cd 46 12 = some (.aload_n 0, 1, 0, 0) := rfl
theorem i46_13 : mm_cd 46 13 = some (.iload_n 3, 1, 0, 0) := rfl
theorem i46_14 : mm_cd 46 14 = some (.iload_n 1, 1, 0, 0) := rfl
theorem i46_15 : mm_cd 46 15 = some (.invokevirtual 37, 3, 0, 45) := rfl
theorem i46_18 : mm_cd 46 18 = some (.ifCond .eq 6, 3, 0, 0) := rfl
theorem i46_21 : mm_cd 46 21 = some (.iinc 2 1, 3, 0, 0) := rfl
theorem i46_24 : mm_cd 46 24 = some (.iinc 3 1, 3, 0, 0) := rfl
theorem i46_27 : mm_cd 46 27 = some (.goto (-23), 3, 0, 0) := rfl
theorem i46_30 : mm_cd 46 30 = some (.iload_n 2, 1, 0, 0) := rfl
theorem i46_31 : mm_cd 46 31 = some (.ireturn, 1, 0, 0) := rfl
def q46_24 (k4 : Int32 → Int32 → Int32 → mS → Option mQ) (a : Nat) (v1 : Int32) (v2 : Int32) (v3 : Int32) (s : mS) : Option mQ := bx (v3 + (1 : Int32)) fun x1 => k4 v1 v2 x1 s
theorem t46_24 {L : Nat} {xs : Nat → Int32} {d : Nat} {k4 : Int32 → Int32 → Int32 → mS → Option mQ} {a : Nat} (hk4 : ∀ (v1 : Int32) (v2 : Int32) (v3 : Int32) (s : mS) (r : mQ), k4 v1 v2 v3 s = some r → Ev L xs d 46 4 [(0, .ref a), (1, .int v1), (2, .int v2), (3, .int v3)] [] (hp s) (hr r)) (ma : a ∈ A4) (hd : 2 ≤ d) {v1 : Int32} {v2 : Int32} {v3 : Int32} {s : mS} {r : mQ} (h : q46_24 k4 a v1 v2 v3 s = some r) : Ev L xs d 46 24 [(0, .ref a), (1, .int v1), (2, .int v2), (3, .int v3)] [] (hp s) (hr r) := by
  unfold q46_24 at h
  refine Rd.iinc H46 i46_24 (Nat.le_of_ble_eq_true rfl) rfl kI_1 (lv2 := fun x1 => [(3, .int x1), (0, .ref a), (1, .int v1), (2, .int v2)]) (fun _ => rfl) h (fun x1 h => ?_)
  refine Ev.goto H46 i46_27 (t := 4) (by decide) ?_
  exact Ev.sub (l := [(0, .ref a), (1, .int v1), (2, .int v2), (3, .int x1)]) rfl rfl (mm_sub_c rfl (mm_sub_c rfl (mm_sub_c rfl (mm_sub_c rfl mm_sub_n)))) (hk4 _ _ _ _ _ h)
def q46_4 (a : Nat) : Nat → Int32 → Int32 → Int32 → mS → Option mQ
  | 0, _, _, _, _ => none
  | n + 1, v1, v2, v3, s => if (s.1 a 0) ≤ v3 then (rv v2 s) else (bN (q45 a v3 v1 s) fun x3 s2 => if x3 = 0 then (q46_24 (q46_4 a n) a v1 v2 v3 s2) else (bx (v2 + (1 : Int32)) fun x4 => q46_24 (q46_4 a n) a v1 x4 v3 s2))
theorem t46_4 {L : Nat} {xs : Nat → Int32} {d : Nat} {a : Nat} (ma : a ∈ A4) (hd : 2 ≤ d) : ∀ (n : Nat) (v1 : Int32) (v2 : Int32) (v3 : Int32) (s : mS) (r : mQ), q46_4 a n v1 v2 v3 s = some r → Ev L xs d 46 4 [(0, .ref a), (1, .int v1), (2, .int v2), (3, .int v3)] [] (hp s) (hr r) := by
  intro n
  induction n with
  | zero => intro v1 v2 v3 s r h; rw [q46_4] at h; cases h
  | succ n ih =>
    intro v1 v2 v3 s r h
    rw [q46_4] at h
    refine Ev.iload_n H46 i46_4 rfl ?_
    refine Ev.aload_n H46 i46_5 rfl ?_
    refine Rd.getI H46 i46_6 (ob4 ma) rfl ?_
    refine Rd.ic_ge H46 i46_9 (t := 30) (by decide) h (fun hc h => ?_) (fun hc h => ?_)
    · refine Ev.iload_n H46 i46_30 rfl ?_
      exact Rd.ireturn H46 i46_31 rfl h
    · refine Ev.aload_n H46 i46_12 rfl ?_
      refine Ev.iload_n H46 i46_13 rfl ?_
      refine Ev.iload_n H46 i46_14 rfl ?_
      refine Rd.cV2vN H46 i46_15 cal45 (ob4 ma) (Nat.le_of_ble_eq_true rfl) (Nat.le_of_ble_eq_true rfl) (Nat.lt_of_lt_of_le (by decide) hd) (fun q hq => c45 ma hq) h (fun x3 s2 h => ?_)
      refine Rd.if_eq H46 i46_18 (t := 24) (by decide) h (fun hc h => ?_) (fun hc h => ?_)
      · exact Ev.sub (l := [(0, .ref a), (1, .int v1), (2, .int v2), (3, .int v3)]) rfl rfl (mm_sub_c rfl (mm_sub_c rfl (mm_sub_c rfl (mm_sub_c rfl mm_sub_n)))) (t46_24 (k4 := (q46_4 a n)) (fun _ _ _ _ _ h => ih _ _ _ _ _ h) ma hd h)
      · refine Rd.iinc H46 i46_21 (Nat.le_of_ble_eq_true rfl) rfl kI_1 (lv2 := fun x4 => [(2, .int x4), (0, .ref a), (1, .int v1), (3, .int v3)]) (fun _ => rfl) h (fun x4 h => ?_)
        exact Ev.sub (l := [(0, .ref a), (1, .int v1), (2, .int x4), (3, .int v3)]) rfl rfl (mm_sub_c rfl (mm_sub_c rfl (mm_sub_c rfl (mm_sub_c rfl mm_sub_n)))) (t46_24 (k4 := (q46_4 a n)) (fun _ _ _ _ _ h => ih _ _ _ _ _ h) ma hd h)
/-- SerialGate$Log.ledRows(I)I -/
def q46 (a : Nat) (v1 : Int32) (s : mS) : Option mQ := q46_4 a 10000 v1 (0 : Int32) (0 : Int32) s
theorem c46 {L : Nat} {xs : Nat → Int32} {a : Nat} (ma : a ∈ A4) {v1 : Int32} {s : mS} {r : mQ} (h : q46 a v1 s = some r) : ∀ d, 2 ≤ d → Cl L xs d 46 [.ref a, .int v1] (hp s) (hr r) := by
  intro d hd
  show Ev L xs d 46 0 [(0, .ref a), (1, .int v1)] [] (hp s) (hr r)
  unfold q46 at h
  refine Ev.iconst H46 i46_0 kI_0 ?_
  refine Ev.istore_n H46 i46_1 (Nat.le_of_ble_eq_true rfl) (lv2 := [(2, .int (0 : Int32)), (0, .ref a), (1, .int v1)]) rfl ?_
  refine Ev.iconst H46 i46_2 kI_0 ?_
  refine Ev.istore_n H46 i46_3 (Nat.le_of_ble_eq_true rfl) (lv2 := [(3, .int (0 : Int32)), (2, .int (0 : Int32)), (0, .ref a), (1, .int v1)]) rfl ?_
  exact Ev.sub (l := [(0, .ref a), (1, .int v1), (2, .int (0 : Int32)), (3, .int (0 : Int32))]) rfl rfl (mm_sub_c rfl (mm_sub_c rfl (mm_sub_c rfl (mm_sub_c rfl mm_sub_n)))) (t46_4 ma hd 10000 _ _ _ _ _ h)
theorem i47_0 : mm_cd 47 0 = some (.iconst 0, 1, 0, 0) := rfl
theorem i47_1 : mm_cd 47 1 = some (.istore_n 2, 1, 0, 0) := rfl
theorem i47_2 : mm_cd 47 2 = some (.iload_n 2, 1, 0, 0) := rfl
theorem i47_3 : mm_cd 47 3 = some (.aload_n 0, 1, 0, 0) := rfl
theorem i47_4 : mm_cd 47 4 = some (.getfield 9, 3, ((4 : Nat) : Int), 0) := rfl
theorem i47_7 : mm_cd 47 7 = some (.if_icmp .ge 25, 3, 0, 0) := rfl
theorem i47_10 : mm_cd 47 10 = some (.aload_n 0, 1, 0, 0) := rfl
theorem i47_11 : mm_cd 47 11 = some (.iload_n 2, 1, 0, 0) := rfl
theorem i47_12 : mm_cd 47 12 = some (.iload_n 1, 1, 0, 0) := rfl
theorem i47_13 : mm_cd 47 13 = some (.invokevirtual 37, 3, 0, 45) := rfl
theorem i47_16 : mm_cd 47 16 = some (.ifCond .eq 10, 3, 0, 0) := rfl
theorem i47_19 : mm_cd 47 19 = some (.aload_n 0, 1, 0, 0) := rfl
theorem i47_20 : mm_cd 47 20 = some (.iload_n 2, 1, 0, 0) := rfl
theorem i47_21 : mm_cd 47 21 = some (.iconst 0, 1, 0, 0) := rfl
theorem i47_22 : mm_cd 47 22 = some (.invokevirtual 34, 3, 0, 44) := rfl
theorem i47_25 : mm_cd 47 25 = some (.ireturn, 1, 0, 0) := rfl
theorem i47_26 : mm_cd 47 26 = some (.iinc 2 1, 3, 0, 0) := rfl
theorem i47_29 : mm_cd 47 29 = some (.goto (-27), 3, 0, 0) := rfl
theorem i47_32 : mm_cd 47 32 = some (.iconst (-1), 1, 0, 0) := rfl
theorem i47_33 : mm_cd 47 33 = some (.ireturn, 1, 0, 0) := rfl
def q47_2 (k19 : Int32 → mS → Option mQ) (a : Nat) : Nat → Int32 → Int32 → mS → Option mQ
  | 0, _, _, _ => none
  | n + 1, v1, v2, s => if (s.1 a 0) ≤ v2 then (rv (-1 : Int32) s) else (bN (q45 a v2 v1 s) fun x2 s1 => if x2 = 0 then (bx (v2 + (1 : Int32)) fun x3 => q47_2 k19 a n v1 x3 s1) else (k19 v2 s1))
theorem t47_2 {L : Nat} {xs : Nat → Int32} {d : Nat} {k19 : Int32 → mS → Option mQ} {a : Nat} (hk19 : ∀ (v2 : Int32) (s : mS) (r : mQ), k19 v2 s = some r → Ev L xs d 47 19 [(0, .ref a), (2, .int v2)] [] (hp s) (hr r)) (ma : a ∈ A4) (hd : 2 ≤ d) : ∀ (n : Nat) (v1 : Int32) (v2 : Int32) (s : mS) (r : mQ), q47_2 k19 a n v1 v2 s = some r → Ev L xs d 47 2 [(0, .ref a), (1, .int v1), (2, .int v2)] [] (hp s) (hr r) := by
  intro n
  induction n with
  | zero => intro v1 v2 s r h; rw [q47_2] at h; cases h
  | succ n ih =>
    intro v1 v2 s r h
    rw [q47_2] at h
    refine Ev.iload_n H47 i47_2 rfl ?_
    refine Ev.aload_n H47 i47_3 rfl ?_
    refine Rd.getI H47 i47_4 (ob4 ma) rfl ?_
    refine Rd.ic_ge H47 i47_7 (t := 32) (by decide) h (fun hc h => ?_) (fun hc h => ?_)
    · refine Ev.iconst H47 i47_32 kI_m1 ?_
      exact Rd.ireturn H47 i47_33 rfl h
    · refine Ev.aload_n H47 i47_10 rfl ?_
      refine Ev.iload_n H47 i47_11 rfl ?_
      refine Ev.iload_n H47 i47_12 rfl ?_
      refine Rd.cV2vN H47 i47_13 cal45 (ob4 ma) (Nat.le_of_ble_eq_true rfl) (Nat.le_of_ble_eq_true rfl) (Nat.lt_of_lt_of_le (by decide) hd) (fun q hq => c45 ma hq) h (fun x2 s1 h => ?_)
      refine Rd.if_eq H47 i47_16 (t := 26) (by decide) h (fun hc h => ?_) (fun hc h => ?_)
      · refine Rd.iinc H47 i47_26 (Nat.le_of_ble_eq_true rfl) rfl kI_1 (lv2 := fun x3 => [(2, .int x3), (0, .ref a), (1, .int v1)]) (fun _ => rfl) h (fun x3 h => ?_)
        refine Ev.goto H47 i47_29 (t := 2) (by decide) ?_
        exact Ev.sub (l := [(0, .ref a), (1, .int v1), (2, .int x3)]) rfl rfl (mm_sub_c rfl (mm_sub_c rfl (mm_sub_c rfl mm_sub_n))) (ih _ _ _ _ h)
      · exact Ev.sub (l := [(0, .ref a), (2, .int v2)]) rfl rfl (mm_sub_c rfl (mm_sub_c rfl mm_sub_n)) (hk19 _ _ _ h)
def q47_19 (a : Nat) (v2 : Int32) (s : mS) : Option mQ := bN (q44 a v2 (0 : Int32) s) fun x5 s4 => rv x5 s4
theorem t47_19 {L : Nat} {xs : Nat → Int32} {d : Nat} {a : Nat} (ma : a ∈ A4) (hd : 2 ≤ d) {v2 : Int32} {s : mS} {r : mQ} (h : q47_19 a v2 s = some r) : Ev L xs d 47 19 [(0, .ref a), (2, .int v2)] [] (hp s) (hr r) := by
  unfold q47_19 at h
  refine Ev.aload_n H47 i47_19 rfl ?_
  refine Ev.iload_n H47 i47_20 rfl ?_
  refine Ev.iconst H47 i47_21 kI_0 ?_
  refine Rd.cV2vN H47 i47_22 cal44 (ob4 ma) (Nat.le_of_ble_eq_true rfl) (Nat.le_of_ble_eq_true rfl) (Nat.lt_of_lt_of_le (by decide) hd) (fun q hq => c44 ma hq) h (fun x5 s4 h => ?_)
  exact Rd.ireturn H47 i47_25 rfl h
/-- SerialGate$Log.latestLed(I)I -/
def q47 (a : Nat) (v1 : Int32) (s : mS) : Option mQ := q47_2 (q47_19 a) a 10000 v1 (0 : Int32) s
theorem c47 {L : Nat} {xs : Nat → Int32} {a : Nat} (ma : a ∈ A4) {v1 : Int32} {s : mS} {r : mQ} (h : q47 a v1 s = some r) : ∀ d, 2 ≤ d → Cl L xs d 47 [.ref a, .int v1] (hp s) (hr r) := by
  intro d hd
  show Ev L xs d 47 0 [(0, .ref a), (1, .int v1)] [] (hp s) (hr r)
  unfold q47 at h
  refine Ev.iconst H47 i47_0 kI_0 ?_
  refine Ev.istore_n H47 i47_1 (Nat.le_of_ble_eq_true rfl) (lv2 := [(2, .int (0 : Int32)), (0, .ref a), (1, .int v1)]) rfl ?_
  exact Ev.sub (l := [(0, .ref a), (1, .int v1), (2, .int (0 : Int32))]) rfl rfl (mm_sub_c rfl (mm_sub_c rfl (mm_sub_c rfl mm_sub_n))) (t47_2 (k19 := (q47_19 a)) (fun _ _ _ h => t47_19 ma hd h) ma hd 10000 _ _ _ _ h)
theorem i343_0 : mm_cd 343 0 = some (.iload_n 0, 1, 0, 0) := rfl
theorem i343_1 : mm_cd 343 1 = some (.iload_n 0, 1, 0, 0) := rfl
theorem i343_2 : mm_cd 343 2 = some (.iconst 1, 1, 0, 0) := rfl
theorem i343_3 : mm_cd 343 3 = some (.iushr, 1, 0, 0) := rfl
theorem i343_4 : mm_cd 343 4 = some (.ldc_w 265, 3, 1431655765, 0) := rfl
theorem i343_7 : mm_cd 343 7 = some (.iand, 1, 0, 0) := rfl
theorem i343_8 : mm_cd 343 8 = some (.isub, 1, 0, 0) := rfl
theorem i343_9 : mm_cd 343 9 = some (.istore_n 0, 1, 0, 0) := rfl
theorem i343_10 : mm_cd 343 10 = some (.iload_n 0, 1, 0, 0) := rfl
theorem i343_11 : mm_cd 343 11 = some (.ldc_w 266, 3, 858993459, 0) := rfl
theorem i343_14 : mm_cd 343 14 = some (.iand, 1, 0, 0) := rfl
theorem i343_15 : mm_cd 343 15 = some (.iload_n 0, 1, 0, 0) := rfl
theorem i343_16 : mm_cd 343 16 = some (.iconst 2, 1, 0, 0) := rfl
theorem i343_17 : mm_cd 343 17 = some (.iushr, 1, 0, 0) := rfl
theorem i343_18 : mm_cd 343 18 = some (.ldc_w 266, 3, 858993459, 0) := rfl
theorem i343_21 : mm_cd 343 21 = some (.iand, 1, 0, 0) := rfl
theorem i343_22 : mm_cd 343 22 = some (.iadd, 1, 0, 0) := rfl
theorem i343_23 : mm_cd 343 23 = some (.istore_n 0, 1, 0, 0) := rfl
theorem i343_24 : mm_cd 343 24 = some (.iload_n 0, 1, 0, 0) := rfl
theorem i343_25 : mm_cd 343 25 = some (.iload_n 0, 1, 0, 0) := rfl
theorem i343_26 : mm_cd 343 26 = some (.iconst 4, 1, 0, 0) := rfl
theorem i343_27 : mm_cd 343 27 = some (.iushr, 1, 0, 0) := rfl
theorem i343_28 : mm_cd 343 28 = some (.iadd, 1, 0, 0) := rfl
theorem i343_29 : mm_cd 343 29 = some (.ldc_w 267, 3, 252645135, 0) := rfl
theorem i343_32 : mm_cd 343 32 = some (.iand, 1, 0, 0) := rfl
theorem i343_33 : mm_cd 343 33 = some (.istore_n 0, 1, 0, 0) := rfl
theorem i343_34 : mm_cd 343 34 = some (.iload_n 0, 1, 0, 0) := rfl
theorem i343_35 : mm_cd 343 35 = some (.iload_n 0, 1, 0, 0) := rfl
theorem i343_36 : mm_cd 343 36 = some (.bipush 8, 2, 0, 0) := rfl
theorem i343_38 : mm_cd 343 38 = some (.iushr, 1, 0, 0) := rfl
theorem i343_39 : mm_cd 343 39 = some (.iadd, 1, 0, 0) := rfl
theorem i343_40 : mm_cd 343 40 = some (.istore_n 0, 1, 0, 0) := rfl
theorem i343_41 : mm_cd 343 41 = some (.iload_n 0, 1, 0, 0) := rfl
theorem i343_42 : mm_cd 343 42 = some (.iload_n 0, 1, 0, 0) := rfl
theorem i343_43 : mm_cd 343 43 = some (.bipush 16, 2, 0, 0) := rfl
theorem i343_45 : mm_cd 343 45 = some (.iushr, 1, 0, 0) := rfl
theorem i343_46 : mm_cd 343 46 = some (.iadd, 1, 0, 0) := rfl
theorem i343_47 : mm_cd 343 47 = some (.istore_n 0, 1, 0, 0) := rfl
theorem i343_48 : mm_cd 343 48 = some (.iload_n 0, 1, 0, 0) := rfl
theorem i343_49 : mm_cd 343 49 = some (.bipush 63, 2, 0, 0) := rfl
theorem i343_51 : mm_cd 343 51 = some (.iand, 1, 0, 0) := rfl
theorem i343_52 : mm_cd 343 52 = some (.ireturn, 1, 0, 0) := rfl
/-- java/lang/Integer.bitCount(I)I -/
def q343 (v0 : Int32) (s : mS) : Option mQ := bx (v0 - ((ushI v0 (1 : Int32)) &&& (1431655765 : Int32))) fun x1 => bx ((x1 &&& (858993459 : Int32)) + ((ushI x1 (2 : Int32)) &&& (858993459 : Int32))) fun x2 => bx ((x2 + (ushI x2 (4 : Int32))) &&& (252645135 : Int32)) fun x3 => bx (x3 + (ushI x3 (8 : Int32))) fun x4 => bx (x4 + (ushI x4 (16 : Int32))) fun x5 => rv (x5 &&& (63 : Int32)) s
theorem c343 {L : Nat} {xs : Nat → Int32} {v0 : Int32} {s : mS} {r : mQ} (h : q343 v0 s = some r) : ∀ d, 0 ≤ d → Cl L xs d 343 [.int v0] (hp s) (hr r) := by
  intro d hd
  show Ev L xs d 343 0 [(0, .int v0)] [] (hp s) (hr r)
  unfold q343 at h
  refine Ev.iload_n H343 i343_0 rfl ?_
  refine Ev.iload_n H343 i343_1 rfl ?_
  refine Ev.iconst H343 i343_2 kI_1 ?_
  refine Rd.iushr H343 i343_3 ?_
  refine Ev.ldc_w H343 i343_4 kI_1431655765 ?_
  refine Ev.iand H343 i343_7 ?_
  refine Ev.isub H343 i343_8 ?_
  refine Rd.istore_n H343 i343_9 (Nat.le_of_ble_eq_true rfl) (lv2 := fun x1 => [(0, .int x1)]) (fun _ => rfl) h (fun x1 h => ?_)
  refine Ev.iload_n H343 i343_10 rfl ?_
  refine Ev.ldc_w H343 i343_11 kI_858993459 ?_
  refine Ev.iand H343 i343_14 ?_
  refine Ev.iload_n H343 i343_15 rfl ?_
  refine Ev.iconst H343 i343_16 kI_2 ?_
  refine Rd.iushr H343 i343_17 ?_
  refine Ev.ldc_w H343 i343_18 kI_858993459 ?_
  refine Ev.iand H343 i343_21 ?_
  refine Ev.iadd H343 i343_22 ?_
  refine Rd.istore_n H343 i343_23 (Nat.le_of_ble_eq_true rfl) (lv2 := fun x2 => [(0, .int x2)]) (fun _ => rfl) h (fun x2 h => ?_)
  refine Ev.iload_n H343 i343_24 rfl ?_
  refine Ev.iload_n H343 i343_25 rfl ?_
  refine Ev.iconst H343 i343_26 kI_4 ?_
  refine Rd.iushr H343 i343_27 ?_
  refine Ev.iadd H343 i343_28 ?_
  refine Ev.ldc_w H343 i343_29 kI_252645135 ?_
  refine Ev.iand H343 i343_32 ?_
  refine Rd.istore_n H343 i343_33 (Nat.le_of_ble_eq_true rfl) (lv2 := fun x3 => [(0, .int x3)]) (fun _ => rfl) h (fun x3 h => ?_)
  refine Ev.iload_n H343 i343_34 rfl ?_
  refine Ev.iload_n H343 i343_35 rfl ?_
  refine Ev.bipush H343 i343_36 kB_8 ?_
  refine Rd.iushr H343 i343_38 ?_
  refine Ev.iadd H343 i343_39 ?_
  refine Rd.istore_n H343 i343_40 (Nat.le_of_ble_eq_true rfl) (lv2 := fun x4 => [(0, .int x4)]) (fun _ => rfl) h (fun x4 h => ?_)
  refine Ev.iload_n H343 i343_41 rfl ?_
  refine Ev.iload_n H343 i343_42 rfl ?_
  refine Ev.bipush H343 i343_43 kB_16 ?_
  refine Rd.iushr H343 i343_45 ?_
  refine Ev.iadd H343 i343_46 ?_
  refine Rd.istore_n H343 i343_47 (Nat.le_of_ble_eq_true rfl) (lv2 := fun x5 => [(0, .int x5)]) (fun _ => rfl) h (fun x5 h => ?_)
  refine Ev.iload_n H343 i343_48 rfl ?_
  refine Ev.bipush H343 i343_49 kB_63 ?_
  refine Ev.iand H343 i343_51 ?_
  exact Rd.ireturn H343 i343_52 rfl h
