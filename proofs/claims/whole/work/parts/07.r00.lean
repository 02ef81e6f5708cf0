theorem i1_0 : mm_cd 1 0 = some (.aload_n 0, 1, 0, 0) := rfl
theorem i1_1 : mm_cd 1 1 = some (.aload_n 1, 1, 0, 0) := rfl
theorem i1_2 : mm_cd 1 2 = some (.getfield 9, 3, ((0 : Nat) : Int), 0) := rfl
theorem i1_5 : mm_cd 1 5 = some (.putfield 9, 3, ((0 : Nat) : Int), 0) := rfl
theorem i1_8 : mm_cd 1 8 = some (.aload_n 0, 1, 0, 0) := rfl
theorem i1_9 : mm_cd 1 9 = some (.aload_n 1, 1, 0, 0) := rfl
theorem i1_10 : mm_cd 1 10 = some (.getfield 15, 3, ((0 : Nat) : Int), 1) := rfl
theorem i1_13 : mm_cd 1 13 = some (.putfield 15, 3, ((0 : Nat) : Int), 1) := rfl
theorem i1_16 : mm_cd 1 16 = some (.aload_n 1, 1, 0, 0) := rfl
theorem i1_17 : mm_cd 1 17 = some (.getfield 18, 3, ((0 : Nat) : Int), 2) := rfl
theorem i1_20 : mm_cd 1 20 = some (.iconst 0, 1, 0, 0) := rfl
theorem i1_21 : mm_cd 1 21 = some (.aload_n 0, 1, 0, 0) := rfl
theorem i1_22 : mm_cd 1 22 = some (.getfield 18, 3, ((0 : Nat) : Int), 2) := rfl
theorem i1_25 : mm_cd 1 25 = some (.iconst 0, 1, 0, 0) := rfl
theorem i1_26 : mm_cd 1 26 = some (.iconst 5, 1, 0, 0) := rfl
theorem i1_27 : mm_cd 1 27 = some (.invokestatic 31, 3, 1, 0) := rfl
theorem i1_30 : mm_cd 1 30 = some (.aload_n 1, 1, 0, 0) := rfl
theorem i1_31 : mm_cd 1 31 = some (.getfield 22, 3, ((0 : Nat) : Int), 3) := rfl
theorem i1_34 : mm_cd 1 34 = some (.iconst 0, 1, 0, 0) := rfl
theorem i1_35 : mm_cd 1 35 = some (.aload_n 0, 1, 0, 0) := rfl
theorem i1_36 : mm_cd 1 36 = some (.getfield 22, 3, ((0 : Nat) : Int), 3) := rfl
theorem i1_39 : mm_cd 1 39 = some (.iconst 0, 1, 0, 0) := rfl
theorem i1_40 : mm_cd 1 40 = some (.iconst 5, 1, 0, 0) := rfl
theorem i1_41 : mm_cd 1 41 = some (.invokestatic 31, 3, 1, 0) := rfl
theorem i1_44 : mm_cd 1 44 = some (.aload_n 1, 1, 0, 0) := rfl
theorem i1_45 : mm_cd 1 45 = some (.getfield 25, 3, ((0 : Nat) : Int), 4) := rfl
theorem i1_48 : mm_cd 1 48 = some (.iconst 0, 1, 0, 0) := rfl
theorem i1_49 : mm_cd 1 49 = some (.aload_n 0, 1, 0, 0) := rfl
theorem i1_50 : mm_cd 1 50 = some (.getfield 25, 3, ((0 : Nat) : Int), 4) := rfl
theorem i1_53 : mm_cd 1 53 = some (.iconst 0, 1, 0, 0) := rfl
theorem i1_54 : mm_cd 1 54 = some (.iconst 5, 1, 0, 0) := rfl
theorem i1_55 : mm_cd 1 55 = some (.invokestatic 31, 3, 1, 0) := rfl
theorem i1_58 : mm_cd 1 58 = some (.aload_n 1, 1, 0, 0) := rfl
theorem i1_59 : mm_cd 1 59 = some (.getfield 28, 3, ((0 : Nat) : Int), 5) := rfl
theorem i1_62 : mm_cd 1 62 = some (.iconst 0, 1, 0, 0) := rfl
theorem i1_63 : mm_cd 1 63 = some (.aload_n 0, 1, 0, 0) := rfl
theorem i1_64 : mm_cd 1 64 = some (.getfield 28, 3, ((0 : Nat) : Int), 5) := rfl
theorem i1_67 : mm_cd 1 67 = some (.iconst 0, 1, 0, 0) := rfl
theorem i1_68 : mm_cd 1 68 = some (.iconst 5, 1, 0, 0) := rfl
theorem i1_69 : mm_cd 1 69 = some (.invokestatic 31, 3, 1, 0) := rfl
theorem i1_72 : mm_cd 1 72 = some (.return_, 1, 0, 0) := rfl
/-- SerialGate$Clients.copyFrom(LSerialGate$Clients;)V -/
def q1 (a : Nat) (b : Nat) (s : mS) : Option mQ := sp (sI s a 0 (s.1 b 0)) fun s1 => sp (sI s1 a 1 (s1.1 b 1)) fun s2 => gC 5 5 (0 : Int32) (0 : Int32) (5 : Int32) <| sp (sC s2 (b + 1) (a + 1) (0 : Int32).toNatClampNeg (0 : Int32).toNatClampNeg (5 : Int32).toNatClampNeg) fun s3 => gC 5 5 (0 : Int32) (0 : Int32) (5 : Int32) <| sp (sC s3 (b + 2) (a + 2) (0 : Int32).toNatClampNeg (0 : Int32).toNatClampNeg (5 : Int32).toNatClampNeg) fun s4 => gC 5 5 (0 : Int32) (0 : Int32) (5 : Int32) <| sp (sC s4 (b + 3) (a + 3) (0 : Int32).toNatClampNeg (0 : Int32).toNatClampNeg (5 : Int32).toNatClampNeg) fun s5 => gC 5 5 (0 : Int32) (0 : Int32) (5 : Int32) <| sp (sC s5 (b + 4) (a + 4) (0 : Int32).toNatClampNeg (0 : Int32).toNatClampNeg (5 : Int32).toNatClampNeg) fun s6 => ru s6
theorem c1 {L : Nat} {xs : Nat → Int32} {a : Nat} {b : Nat} (ma : a ∈ A0) (mb : b ∈ A0) {s : mS} {r : mQ} (h : q1 a b s = some r) : ∀ d, 0 ≤ d → Cl L xs d 1 [.ref a, .ref b] (hp s) (hr r) := by
  intro d hd
  show Ev L xs d 1 0 [(0, .ref a), (1, .ref b)] [] (hp s) (hr r)
  unfold q1 at h
  refine Ev.aload_n H1 i1_0 rfl ?_
  refine Ev.aload_n H1 i1_1 rfl ?_
  refine Rd.getI H1 i1_2 (ob0 mb) rfl ?_
  refine Rd.putI H1 i1_5 (ob0 ma) rfl ty0_0.1 ty0_0.2 h (fun s1 h => ?_)
  refine Ev.aload_n H1 i1_8 rfl ?_
  refine Ev.aload_n H1 i1_9 rfl ?_
  refine Rd.getI H1 i1_10 (ob0 mb) rfl ?_
  refine Rd.putI H1 i1_13 (ob0 ma) rfl ty0_1.1 ty0_1.2 h (fun s2 h => ?_)
  refine Ev.aload_n H1 i1_16 rfl ?_
  refine Rd.getR H1 i1_17 (ob0 mb) rfl ?_
  refine Ev.iconst H1 i1_20 kI_0 ?_
  refine Ev.aload_n H1 i1_21 rfl ?_
  refine Rd.getR H1 i1_22 (ob0 ma) rfl ?_
  refine Ev.iconst H1 i1_25 kI_0 ?_
  refine Ev.iconst H1 i1_26 kI_5 ?_
  refine Rd.copy H1 i1_27 (ar0_1 mb) (ar0_1 ma) (Nat.le_of_ble_eq_true rfl) h (fun s3 h => ?_)
  refine Ev.aload_n H1 i1_30 rfl ?_
  refine Rd.getR H1 i1_31 (ob0 mb) rfl ?_
  refine Ev.iconst H1 i1_34 kI_0 ?_
  refine Ev.aload_n H1 i1_35 rfl ?_
  refine Rd.getR H1 i1_36 (ob0 ma) rfl ?_
  refine Ev.iconst H1 i1_39 kI_0 ?_
  refine Ev.iconst H1 i1_40 kI_5 ?_
  refine Rd.copy H1 i1_41 (ar0_2 mb) (ar0_2 ma) (Nat.le_of_ble_eq_true rfl) h (fun s4 h => ?_)
  refine Ev.aload_n H1 i1_44 rfl ?_
  refine Rd.getR H1 i1_45 (ob0 mb) rfl ?_
  refine Ev.iconst H1 i1_48 kI_0 ?_
  refine Ev.aload_n H1 i1_49 rfl ?_
  refine Rd.getR H1 i1_50 (ob0 ma) rfl ?_
  refine Ev.iconst H1 i1_53 kI_0 ?_
  refine Ev.iconst H1 i1_54 kI_5 ?_
  refine Rd.copy H1 i1_55 (ar0_3 mb) (ar0_3 ma) (Nat.le_of_ble_eq_true rfl) h (fun s5 h => ?_)
  refine Ev.aload_n H1 i1_58 rfl ?_
  refine Rd.getR H1 i1_59 (ob0 mb) rfl ?_
  refine Ev.iconst H1 i1_62 kI_0 ?_
  refine Ev.aload_n H1 i1_63 rfl ?_
  refine Rd.getR H1 i1_64 (ob0 ma) rfl ?_
  refine Ev.iconst H1 i1_67 kI_0 ?_
  refine Ev.iconst H1 i1_68 kI_5 ?_
  refine Rd.copy H1 i1_69 (ar0_4 mb) (ar0_4 ma) (Nat.le_of_ble_eq_true rfl) h (fun s6 h => ?_)
  exact Rd.return_ H1 i1_72 rfl h
theorem i2_0 : mm_cd 2 0 = some (.aload_n 0, 1, 0, 0) := rfl
theorem i2_1 : mm_cd 2 1 = some (.getfield 9, 3, ((0 : Nat) : Int), 0) := rfl
theorem i2_4 : mm_cd 2 4 = some (.iconst 5, 1, 0, 0) := rfl
theorem i2_5 : mm_cd 2 5 = some (.if_icmp .lt 4, 3, 0, 0) := rfl
theorem i2_8 : mm_cd 2 8 = some (.return_, 1, 0, 0) := rfl
theorem i2_9 : mm_cd 2 9 = some (.aload_n 0, 1, 0, 0) := rfl
theorem i2_10 : mm_cd 2 10 = some (.getfield 18, 3, ((0 : Nat) : Int), 2) := rfl
theorem i2_13 : mm_cd 2 13 = some (.aload_n 0, 1, 0, 0) := rfl
theorem i2_14 : mm_cd 2 14 = some (.getfield 9, 3, ((0 : Nat) : Int), 0) := rfl
theorem i2_17 : mm_cd 2 17 = some (.iload_n 1, 1, 0, 0) := rfl
theorem i2_18 : mm_cd 2 18 = some (.iastore, 1, 0, 0) := rfl
theorem i2_19 : mm_cd 2 19 = some (.aload_n 0, 1, 0, 0) := rfl
theorem i2_20 : mm_cd 2 20 = some (.getfield 22, 3, ((0 : Nat) : Int), 3) := rfl
theorem i2_23 : mm_cd 2 23 = some (.aload_n 0, 1, 0, 0) := rfl
theorem i2_24 : mm_cd 2 24 = some (.getfield 9, 3, ((0 : Nat) : Int), 0) := rfl
theorem i2_27 : mm_cd 2 27 = some (.iload_n 2, 1, 0, 0) := rfl
theorem i2_28 : mm_cd 2 28 = some (.iastore, 1, 0, 0) := rfl
theorem i2_29 : mm_cd 2 29 = some (.iload_n 3, 1, 0, 0) := rfl
theorem i2_30 : mm_cd 2 30 = some (.ifCond .eq 18, 3, 0, 0) := rfl
theorem i2_33 : mm_cd 2 33 = some (.aload_n 0, 1, 0, 0) := rfl
theorem i2_34 : mm_cd 2 34 = some (.dup, 1, 0, 0) := rfl
theorem i2_35 : mm_cd 2 35 = some (.getfield 15, 3, ((0 : Nat) : Int), 1) := rfl
theorem i2_38 : mm_cd 2 38 = some (.iconst 1, 1, 0, 0) := rfl
theorem i2_39 : mm_cd 2 39 = some (.aload_n 0, 1, 0, 0) := rfl
theorem i2_40 : mm_cd 2 40 = some (.getfield 9, 3, ((0 : Nat) : Int), 0) := rfl
theorem i2_43 : mm_cd 2 43 = some (.ishl, 1, 0, 0) := rfl
theorem i2_44 : mm_cd 2 44 = some (.ior, 1, 0, 0) := rfl
theorem i2_45 : mm_cd 2 45 = some (.putfield 15, 3, ((0 : Nat) : Int), 1) := rfl
theorem i2_48 : mm_cd 2 48 = some (.aload_n 0, 1, 0, 0) := rfl
theorem i2_49 : mm_cd 2 49 = some (.dup, 1, 0, 0) := rfl
theorem i2_50 : mm_cd 2 50 = some (.getfield 9, 3, ((0 : Nat) : Int), 0) := rfl
theorem i2_53 : mm_cd 2 53 = some (.iconst 1, 1, 0, 0) := rfl
theorem i2_54 : mm_cd 2 54 = some (.iadd, 1, 0, 0) := rfl
theorem i2_55 : mm_cd 2 55 = some (.putfield 9, 3, ((0 : Nat) : Int), 0) := rfl
theorem i2_58 : mm_cd 2 58 = some (.return_, 1, 0, 0) := rfl
def q2_48 (a : Nat) (s : mS) : Option mQ := sp (sI s a 0 ((s.1 a 0) + (1 : Int32))) fun s1 => ru s1
theorem t2_48 {L : Nat} {xs : Nat → Int32} {d : Nat} {a : Nat} (ma : a ∈ A0) (hd : 0 ≤ d) {s : mS} {r : mQ} (h : q2_48 a s = some r) : Ev L xs d 2 48 [(0, .ref a)] [] (hp s) (hr r) := by
  unfold q2_48 at h
  refine Ev.aload_n H2 i2_48 rfl ?_
  refine Ev.dup H2 i2_49 rfl ?_
  refine Rd.getI H2 i2_50 (ob0 ma) rfl ?_
  refine Ev.iconst H2 i2_53 kI_1 ?_
  refine Ev.iadd H2 i2_54 ?_
  refine Rd.putI H2 i2_55 (ob0 ma) rfl ty0_0.1 ty0_0.2 h (fun s1 h => ?_)
  exact Rd.return_ H2 i2_58 rfl h
/-- SerialGate$Clients.add(IIZ)V -/
def q2 (a : Nat) (v1 : Int32) (v2 : Int32) (v3 : Int32) (s : mS) : Option mQ := if (s.1 a 0) < (5 : Int32) then (gA 5 (s.1 a 0) <| sp (sI s (a + 1) (s.1 a 0).toNatClampNeg v1) fun s2 => gA 5 (s2.1 a 0) <| sp (sI s2 (a + 2) (s2.1 a 0).toNatClampNeg v2) fun s3 => if v3 = 0 then (q2_48 a s3) else (sp (sI s3 a 1 ((s3.1 a 1) ||| (shlI (1 : Int32) (s3.1 a 0)))) fun s4 => q2_48 a s4)) else (ru s)
theorem c2 {L : Nat} {xs : Nat → Int32} {a : Nat} (ma : a ∈ A0) {v1 : Int32} {v2 : Int32} {v3 : Int32} {s : mS} {r : mQ} (h : q2 a v1 v2 v3 s = some r) : ∀ d, 0 ≤ d → Cl L xs d 2 [.ref a, .int v1, .int v2, .int v3] (hp s) (hr r) := by
  intro d hd
  show Ev L xs d 2 0 [(0, .ref a), (1, .int v1), (2, .int v2), (3, .int v3)] [] (hp s) (hr r)
  unfold q2 at h
  refine Ev.aload_n H2 i2_0 rfl ?_
  refine Rd.getI H2 i2_1 (ob0 ma) rfl ?_
  refine Ev.iconst H2 i2_4 kI_5 ?_
  refine Rd.ic_lt H2 i2_5 (t := 9) (by decide) h (fun hc h => ?_) (fun hc h => ?_)
  · refine Ev.aload_n H2 i2_9 rfl ?_
    refine Rd.getR H2 i2_10 (ob0 ma) rfl ?_
    refine Ev.aload_n H2 i2_13 rfl ?_
    refine Rd.getI H2 i2_14 (ob0 ma) rfl ?_
    refine Ev.iload_n H2 i2_17 rfl ?_
    refine Rd.iastore H2 i2_18 (ar0_1 ma) h (fun s2 h => ?_)
    refine Ev.aload_n H2 i2_19 rfl ?_
    refine Rd.getR H2 i2_20 (ob0 ma) rfl ?_
    refine Ev.aload_n H2 i2_23 rfl ?_
    refine Rd.getI H2 i2_24 (ob0 ma) rfl ?_
    refine Ev.iload_n H2 i2_27 rfl ?_
    refine Rd.iastore H2 i2_28 (ar0_2 ma) h (fun s3 h => ?_)
    refine Ev.iload_n H2 i2_29 rfl ?_
    refine Rd.if_eq H2 i2_30 (t := 48) (by decide) h (fun hc h => ?_) (fun hc h => ?_)
    · exact Ev.sub (l := [(0, .ref a)]) rfl rfl (mm_sub_c rfl mm_sub_n) (t2_48 ma hd h)
    · refine Ev.aload_n H2 i2_33 rfl ?_
      refine Ev.dup H2 i2_34 rfl ?_
      refine Rd.getI H2 i2_35 (ob0 ma) rfl ?_
      refine Ev.iconst H2 i2_38 kI_1 ?_
      refine Ev.aload_n H2 i2_39 rfl ?_
      refine Rd.getI H2 i2_40 (ob0 ma) rfl ?_
      refine Rd.ishl H2 i2_43 ?_
      refine Ev.ior H2 i2_44 ?_
      refine Rd.putI H2 i2_45 (ob0 ma) rfl ty0_1.1 ty0_1.2 h (fun s4 h => ?_)
      exact Ev.sub (l := [(0, .ref a)]) rfl rfl (mm_sub_c rfl mm_sub_n) (t2_48 ma hd h)
  · exact Rd.return_ H2 i2_8 rfl h
theorem i3_0 : mm_cd 3 0 = some (.aload_n 0, 1, 0, 0) := rfl
theorem i3_1 : mm_cd 3 1 = some (.getfield 15, 3, ((0 : Nat) : Int), 1) := rfl
theorem i3_4 : mm_cd 3 4 = some (.iload_n 1, 1, 0, 0) := rfl
theorem i3_5 : mm_cd 3 5 = some (.ishr, 1, 0, 0) := rfl
theorem i3_6 : mm_cd 3 6 = some (.iconst 1, 1, 0, 0) := rfl
theorem i3_7 : mm_cd 3 7 = some (.iand, 1, 0, 0) := rfl
theorem i3_8 : mm_cd 3 8 = some (.ifCond .eq 7, 3, 0, 0) := rfl
theorem i3_11 : mm_cd 3 11 = some (.iconst 1, 1, 0, 0) := rfl
theorem i3_12 : mm_cd 3 12 = some (.goto 4, 3, 0, 0) := rfl
theorem i3_15 : mm_cd 3 15 = some (.iconst 0, 1, 0, 0) := rfl
theorem i3_16 : mm_cd 3 16 = some (.ireturn, 1, 0, 0) := rfl
/-- SerialGate$Clients.isOnly(I)Z -/
def q3 (a : Nat) (v1 : Int32) (s : mS) : Option mQ := if ((shrI (s.1 a 1) v1) &&& (1 : Int32)) = 0 then (rv (0 : Int32) s) else (rv (1 : Int32) s)
theorem c3 {L : Nat} {xs : Nat → Int32} {a : Nat} (ma : a ∈ A0) {v1 : Int32} {s : mS} {r : mQ} (h : q3 a v1 s = some r) : ∀ d, 0 ≤ d → Cl L xs d 3 [.ref a, .int v1] (hp s) (hr r) := by
  intro d hd
  show Ev L xs d 3 0 [(0, .ref a), (1, .int v1)] [] (hp s) (hr r)
  unfold q3 at h
  refine Ev.aload_n H3 i3_0 rfl ?_
  refine Rd.getI H3 i3_1 (ob0 ma) rfl ?_
  refine Ev.iload_n H3 i3_4 rfl ?_
  refine Rd.ishr H3 i3_5 ?_
  refine Ev.iconst H3 i3_6 kI_1 ?_
  refine Ev.iand H3 i3_7 ?_
  refine Rd.if_eq H3 i3_8 (t := 15) (by decide) h (fun hc h => ?_) (fun hc h => ?_)
  · refine Ev.iconst H3 i3_15 kI_0 ?_
    exact Rd.ireturnK H3 i3_16 rfl (Or.inl rfl) h
  · refine Ev.iconst H3 i3_11 kI_1 ?_
    refine Ev.goto H3 i3_12 (t := 16) (by decide) ?_
    exact Rd.ireturnK H3 i3_16 rfl (Or.inr rfl) h
theorem i4_0 : mm_cd 4 0 = some (.aload_n 0, 1, 0, 0) := rfl
theorem i4_1 : mm_cd 4 1 = some (.getfield 18, 3, ((0 : Nat) : Int), 2) := rfl
theorem i4_4 : mm_cd 4 4 = some (.iload_n 1, 1, 0, 0) := rfl
theorem i4_5 : mm_cd 4 5 = some (.iaload, 1, 0, 0) := rfl
theorem i4_6 : mm_cd 4 6 = some (.aload_n 0, 1, 0, 0) := rfl
theorem i4_7 : mm_cd 4 7 = some (.getfield 22, 3, ((0 : Nat) : Int), 3) := rfl
theorem i4_10 : mm_cd 4 10 = some (.iload_n 1, 1, 0, 0) := rfl
theorem i4_11 : mm_cd 4 11 = some (.iaload, 1, 0, 0) := rfl
theorem i4_12 : mm_cd 4 12 = some (.ior, 1, 0, 0) := rfl
theorem i4_13 : mm_cd 4 13 = some (.ireturn, 1, 0, 0) := rfl
/-- SerialGate$Clients.usedBy(I)I -/
def q4 (a : Nat) (v1 : Int32) (s : mS) : Option mQ := gA 5 v1 <| gA 5 v1 <| rv ((s.1 (a + 1) v1.toNatClampNeg) ||| (s.1 (a + 2) v1.toNatClampNeg)) s
theorem c4 {L : Nat} {xs : Nat → Int32} {a : Nat} (ma : a ∈ A0) {v1 : Int32} {s : mS} {r : mQ} (h : q4 a v1 s = some r) : ∀ d, 0 ≤ d → Cl L xs d 4 [.ref a, .int v1] (hp s) (hr r) := by
  intro d hd
  show Ev L xs d 4 0 [(0, .ref a), (1, .int v1)] [] (hp s) (hr r)
  unfold q4 at h
  refine Ev.aload_n H4 i4_0 rfl ?_
  refine Rd.getR H4 i4_1 (ob0 ma) rfl ?_
  refine Ev.iload_n H4 i4_4 rfl ?_
  refine Rd.iaload H4 i4_5 (ar0_1 ma) h (fun h => ?_)
  refine Ev.aload_n H4 i4_6 rfl ?_
  refine Rd.getR H4 i4_7 (ob0 ma) rfl ?_
  refine Ev.iload_n H4 i4_10 rfl ?_
  refine Rd.iaload H4 i4_11 (ar0_2 ma) h (fun h => ?_)
  refine Ev.ior H4 i4_12 ?_
  exact Rd.ireturn H4 i4_13 rfl h
theorem i5_0 : mm_cd 5 0 = some (.aload_n 0, 1, 0, 0) := rfl
theorem i5_1 : mm_cd 5 1 = some (.getfield 22, 3, ((0 : Nat) : Int), 3) := rfl
theorem i5_4 : mm_cd 5 4 = some (.iload_n 1, 1, 0, 0) := rfl
theorem i5_5 : mm_cd 5 5 = some (.iaload, 1, 0, 0) := rfl
theorem i5_6 : mm_cd 5 6 = some (.aload_n 0, 1, 0, 0) := rfl
theorem i5_7 : mm_cd 5 7 = some (.iload_n 2, 1, 0, 0) := rfl
theorem i5_8 : mm_cd 5 8 = some (.invokevirtual 37, 3, 0, 4) := rfl
theorem i5_11 : mm_cd 5 11 = some (.iand, 1, 0, 0) := rfl
theorem i5_12 : mm_cd 5 12 = some (.ifCond .ne 18, 3, 0, 0) := rfl
theorem i5_15 : mm_cd 5 15 = some (.aload_n 0, 1, 0, 0) := rfl
theorem i5_16 : mm_cd 5 16 = some (.getfield 22, 3, ((0 : Nat) : Int), 3) := rfl
theorem i5_19 : mm_cd 5 19 = some (.iload_n 2, 1, 0, 0) := rfl
theorem i5_20 : mm_cd 5 20 = some (.iaload, 1, 0, 0) := rfl
theorem i5_21 : mm_cd 5 21 = some (.aload_n 0, 1, 0, 0) := rfl
theorem i5_22 : mm_cd 5 22 = some (.iload_n 1, 1, 0, 0) := rfl
theorem i5_23 : mm_cd 5 23 = some (.invokevirtual 37, 3, 0, 4) := rfl
theorem i5_26 : mm_cd 5 26 = some (.iand, 1, 0, 0) := rfl
theorem i5_27 : mm_cd 5 27 = some (.ifCond .eq 7, 3, 0, 0) := rfl
theorem i5_30 : mm_cd 5 30 = some (.iconst 1, 1, 0, 0) := rfl
theorem i5_31 : mm_cd 5 31 = some (.goto 4, 3, 0, 0) := rfl
theorem i5_34 : mm_cd 5 34 = some (.iconst 0, 1, 0, 0) := rfl
theorem i5_35 : mm_cd 5 35 = some (.ireturn, 1, 0, 0) := rfl
def q5_30 (a : Nat) (s : mS) : Option mQ := rv (1 : Int32) s
theorem t5_30 {L : Nat} {xs : Nat → Int32} {d : Nat} {a : Nat} (ma : a ∈ A0) (hd : 1 ≤ d) {s : mS} {r : mQ} (h : q5_30 a s = some r) : Ev L xs d 5 30 [] [] (hp s) (hr r) := by
  unfold q5_30 at h
  refine Ev.iconst H5 i5_30 kI_1 ?_
  refine Ev.goto H5 i5_31 (t := 35) (by decide) ?_
  exact Rd.ireturnK H5 i5_35 rfl (Or.inr rfl) h
/-- SerialGate$Clients.areClashing(II)Z -/
def q5 (a : Nat) (v1 : Int32) (v2 : Int32) (s : mS) : Option mQ := gA 5 v1 <| bN (q4 a v2 s) fun x2 s1 => if ¬ ((s.1 (a + 2) v1.toNatClampNeg) &&& x2) = 0 then (q5_30 a s1) else (gA 5 v2 <| bN (q4 a v1 s1) fun x4 s3 => if ((s1.1 (a + 2) v2.toNatClampNeg) &&& x4) = 0 then (rv (0 : Int32) s3) else (q5_30 a s3))
theorem c5 {L : Nat} {xs : Nat → Int32} {a : Nat} (ma : a ∈ A0) {v1 : Int32} {v2 : Int32} {s : mS} {r : mQ} (h : q5 a v1 v2 s = some r) : ∀ d, 1 ≤ d → Cl L xs d 5 [.ref a, .int v1, .int v2] (hp s) (hr r) := by
  intro d hd
  show Ev L xs d 5 0 [(0, .ref a), (1, .int v1), (2, .int v2)] [] (hp s) (hr r)
  unfold q5 at h
  refine Ev.aload_n H5 i5_0 rfl ?_
  refine Rd.getR H5 i5_1 (ob0 ma) rfl ?_
  refine Ev.iload_n H5 i5_4 rfl ?_
  refine Rd.iaload H5 i5_5 (ar0_2 ma) h (fun h => ?_)
  refine Ev.aload_n H5 i5_6 rfl ?_
  refine Ev.iload_n H5 i5_7 rfl ?_
  refine Rd.cV1vN H5 i5_8 cal4 (ob0 ma) (Nat.le_of_ble_eq_true rfl) (Nat.le_of_ble_eq_true rfl) (Nat.lt_of_lt_of_le (by decide) hd) (fun q hq => c4 ma hq) h (fun x2 s1 h => ?_)
  refine Ev.iand H5 i5_11 ?_
  refine Rd.if_ne H5 i5_12 (t := 30) (by decide) h (fun hc h => ?_) (fun hc h => ?_)
  · exact Ev.sub (l := []) rfl rfl mm_sub_n (t5_30 ma hd h)
  · refine Ev.aload_n H5 i5_15 rfl ?_
    refine Rd.getR H5 i5_16 (ob0 ma) rfl ?_
    refine Ev.iload_n H5 i5_19 rfl ?_
    refine Rd.iaload H5 i5_20 (ar0_2 ma) h (fun h => ?_)
    refine Ev.aload_n H5 i5_21 rfl ?_
    refine Ev.iload_n H5 i5_22 rfl ?_
    refine Rd.cV1vN H5 i5_23 cal4 (ob0 ma) (Nat.le_of_ble_eq_true rfl) (Nat.le_of_ble_eq_true rfl) (Nat.lt_of_lt_of_le (by decide) hd) (fun q hq => c4 ma hq) h (fun x4 s3 h => ?_)
    refine Ev.iand H5 i5_26 ?_
    refine Rd.if_eq H5 i5_27 (t := 34) (by decide) h (fun hc h => ?_) (fun hc h => ?_)
    · refine Ev.iconst H5 i5_34 kI_0 ?_
      exact Rd.ireturnK H5 i5_35 rfl (Or.inl rfl) h
    · exact Ev.sub (l := []) rfl rfl mm_sub_n (t5_30 ma hd h)
theorem i6_0 : mm_cd 6 0 = some (.iconst 0, 1, 0, 0) := rfl
theorem i6_1 : mm_cd 6 1 = some (.istore_n 2, 1, 0, 0) := rfl
theorem i6_2 : mm_cd 6 2 = some (.iconst 0, 1, 0, 0) := rfl
theorem i6_3 : mm_cd 6 3 = some (.istore_n 3, 1, 0, 0) := rfl
theorem i6_4 : mm_cd 6 4 = some (.iload_n 3, 1, 0, 0) := rfl
theorem i6_5 : mm_cd 6 5 = some (.aload_n 0, 1, 0, 0) := rfl
theorem i6_6 : mm_cd 6 6 = some (.getfield 9, 3, ((0 : Nat) : Int), 0) := rfl
theorem i6_9 : mm_cd 6 9 = some (.if_icmp .ge 50, 3, 0, 0) := rfl
theorem i6_12 : mm_cd 6 12 = some (.iload_n 1, 1, 0, 0) := rfl
theorem i6_13 : mm_cd 6 13 = some (.bipush 10, 2, 0, 0) := rfl
theorem i6_15 : mm_cd 6 15 = some (.if_icmp .ge 16, 3, 0, 0) := rfl
theorem i6_18 : mm_cd 6 18 = some (.aload_n 0, 1, 0, 0) := rfl
theorem i6_19 : mm_cd 6 19 = some (.getfield 18, 3, ((0 : Nat) : Int), 2) := rfl
theorem i6_22 : mm_cd 6 22 = some (.iload_n 3, 1, 0, 0) := rfl
theorem i6_23 : mm_cd 6 23 = some (.iaload, 1, 0, 0) := rfl
theorem i6_24 : mm_cd 6 24 = some (.iload_n 1, 1, 0, 0) := rfl
theorem i6_25 : mm_cd 6 25 = some (.ishr, 1, 0, 0) := rfl
theorem i6_26 : mm_cd 6 26 = some (.iconst 1, 1, 0, 0) := rfl
theorem i6_27 : mm_cd 6 27 = some (.iand, 1, 0, 0) := rfl
theorem i6_28 : mm_cd 6 28 = some (.goto 16, 3, 0, 0) := rfl
theorem i6_31 : mm_cd 6 31 = some (.aload_n 0, 1, 0, 0) := rfl
theorem i6_32 : mm_cd 6 32 = some (.getfield 22, 3, ((0 : Nat) : Int), 3) := rfl
theorem i6_35 : mm_cd 6 35 = some (.iload_n 3, 1, 0, 0) := rfl
theorem i6_36 : mm_cd 6 36 = some (.iaload, 1, 0, 0) := rfl
theorem i6_37 : mm_cd 6 37 = some (.iload_n 1, 1, 0, 0) := rfl
theorem i6_38 : mm_cd 6 38 = some (.bipush 10, 2, 0, 0) := rfl
theorem i6_40 : mm_cd 6 40 = some (.isub, 1, 0, 0) := rfl
theorem i6_41 : mm_cd 6 41 = some (.ishr, 1, 0, 0) := rfl
theorem i6_42 : mm_cd 6 42 = some (.iconst 1, 1, 0, 0) := rfl
theorem i6_43 : mm_cd 6 43 = some (.iand, 1, 0, 0) := rfl
theorem i6_44 : mm_cd 6 44 = some (.istore 4, 2, 0, 0) := rfl
theorem i6_46 : mm_cd 6 46 = some (.iload_n 2, 1, 0, 0) := rfl
theorem i6_47 : mm_cd 6 47 = some (.iload 4, 2, 0, 0) := rfl
theorem i6_49 : mm_cd 6 49 = some (.iload_n 3, 1, 0, 0) := rfl
theorem i6_50 : mm_cd 6 50 = some (.ishl, 1, 0, 0) := rfl
theorem i6_51 : mm_cd 6 51 = some (.ior, 1, 0, 0) := rfl
theorem i6_52 : mm_cd 6 52 = some (.istore_n 2, 1, 0, 0) := rfl
theorem i6_53 : mm_cd 6 53 = some (.iinc 3 1, 3, 0, 0) := rfl
theorem i6_56 : mm_cd 6 56 = some (.goto (-52), 3, 0, 0) := rfl
theorem i6_59 : mm_cd 6 59 = some (.iload_n 2, 1, 0, 0) := rfl
theorem i6_60 : mm_cd 6 60 = some (.ireturn, 1, 0, 0) := rfl
def q6_44 (k4 : Int32 → Int32 → Int32 → mS → Option mQ) (a : Nat) (v1 : Int32) (v2 : Int32) (v3 : Int32) (y0 : Int32) (s : mS) : Option mQ := bx (v2 ||| (shlI y0 v3)) fun x1 => bx (v3 + (1 : Int32)) fun x2 => k4 v1 x1 x2 s
theorem t6_44 {L : Nat} {xs : Nat → Int32} {d : Nat} {k4 : Int32 → Int32 → Int32 → mS → Option mQ} {a : Nat} (hk4 : ∀ (v1 : Int32) (v2 : Int32) (v3 : Int32) (s : mS) (r : mQ), k4 v1 v2 v3 s = some r → Ev L xs d 6 4 [(0, .ref a), (1, .int v1), (2, .int v2), (3, .int v3)] [] (hp s) (hr r)) (ma : a ∈ A0) (hd : 0 ≤ d) {v1 : Int32} {v2 : Int32} {v3 : Int32} {y0 : Int32} {s : mS} {r : mQ} (h : q6_44 k4 a v1 v2 v3 y0 s = some r) : Ev L xs d 6 44 [(0, .ref a), (1, .int v1), (2, .int v2), (3, .int v3)] [.int y0] (hp s) (hr r) := by
  unfold q6_44 at h
  refine Ev.istore H6 i6_44 (Nat.le_of_ble_eq_true rfl) (lv2 := [(4, .int y0), (0, .ref a), (1, .int v1), (2, .int v2), (3, .int v3)]) rfl ?_
  refine Ev.iload_n H6 i6_46 rfl ?_
  refine Ev.iload H6 i6_47 rfl ?_
  refine Ev.iload_n H6 i6_49 rfl ?_
  refine Rd.ishl H6 i6_50 ?_
  refine Ev.ior H6 i6_51 ?_
  refine Rd.istore_n H6 i6_52 (Nat.le_of_ble_eq_true rfl) (lv2 := fun x1 => [(2, .int x1), (4, .int y0), (0, .ref a), (1, .int v1), (3, .int v3)]) (fun _ => rfl) h (fun x1 h => ?_)
  refine Rd.iinc H6 i6_53 (Nat.le_of_ble_eq_true rfl) rfl kI_1 (lv2 := fun x2 => [(3, .int x2), (2, .int x1), (4, .int y0), (0, .ref a), (1, .int v1)]) (fun _ => rfl) h (fun x2 h => ?_)
  refine Ev.goto H6 i6_56 (t := 4) (by decide) ?_
  exact Ev.sub (l := [(0, .ref a), (1, .int v1), (2, .int x1), (3, .int x2)]) rfl rfl (mm_sub_c rfl (mm_sub_c rfl (mm_sub_c rfl (mm_sub_c rfl mm_sub_n)))) (hk4 _ _ _ _ _ h)
def q6_4 (a : Nat) : Nat → Int32 → Int32 → Int32 → mS → Option mQ
  | 0, _, _, _, _ => none
  | n + 1, v1, v2, v3, s => if (s.1 a 0) ≤ v3 then (rv v2 s) else (if (10 : Int32) ≤ v1 then (gA 5 v3 <| q6_44 (q6_4 a n) a v1 v2 v3 ((shrI (s.1 (a + 2) v3.toNatClampNeg) (v1 - (10 : Int32))) &&& (1 : Int32)) s) else (gA 5 v3 <| q6_44 (q6_4 a n) a v1 v2 v3 ((shrI (s.1 (a + 1) v3.toNatClampNeg) v1) &&& (1 : Int32)) s))
theorem t6_4 {L : Nat} {xs : Nat → Int32} {d : Nat} {a : Nat} (ma : a ∈ A0) (hd : 0 ≤ d) : ∀ (n : Nat) (v1 : Int32) (v2 : Int32) (v3 : Int32) (s : mS) (r : mQ), q6_4 a n v1 v2 v3 s = some r → Ev L xs d 6 4 [(0, .ref a), (1, .int v1), (2, .int v2), (3, .int v3)] [] (hp s) (hr r) := by
  intro n
  induction n with
  | zero => intro v1 v2 v3 s r h; rw [q6_4] at h; cases h
  | succ n ih =>
    intro v1 v2 v3 s r h
    rw [q6_4] at h
    refine Ev.iload_n H6 i6_4 rfl ?_
    refine Ev.aload_n H6 i6_5 rfl ?_
    refine Rd.getI H6 i6_6 (ob0 ma) rfl ?_
    refine Rd.ic_ge H6 i6_9 (t := 59) (by decide) h (fun hc h => ?_) (fun hc h => ?_)
    · refine Ev.iload_n H6 i6_59 rfl ?_
      exact Rd.ireturn H6 i6_60 rfl h
    · refine Ev.iload_n H6 i6_12 rfl ?_
      refine Ev.bipush H6 i6_13 kB_10 ?_
      refine Rd.ic_ge H6 i6_15 (t := 31) (by decide) h (fun hc h => ?_) (fun hc h => ?_)
      · refine Ev.aload_n H6 i6_31 rfl ?_
        refine Rd.getR H6 i6_32 (ob0 ma) rfl ?_
        refine Ev.iload_n H6 i6_35 rfl ?_
        refine Rd.iaload H6 i6_36 (ar0_2 ma) h (fun h => ?_)
        refine Ev.iload_n H6 i6_37 rfl ?_
        refine Ev.bipush H6 i6_38 kB_10 ?_
        refine Ev.isub H6 i6_40 ?_
        refine Rd.ishr H6 i6_41 ?_
        refine Ev.iconst H6 i6_42 kI_1 ?_
        refine Ev.iand H6 i6_43 ?_
        exact Ev.sub (l := [(0, .ref a), (1, .int v1), (2, .int v2), (3, .int v3)]) rfl rfl (mm_sub_c rfl (mm_sub_c rfl (mm_sub_c rfl (mm_sub_c rfl mm_sub_n)))) (t6_44 (k4 := (q6_4 a n)) (fun _ _ _ _ _ h => ih _ _ _ _ _ h) ma hd h)
      · refine Ev.aload_n H6 i6_18 rfl ?_
        refine Rd.getR H6 i6_19 (ob0 ma) rfl ?_
        refine Ev.iload_n H6 i6_22 rfl ?_
        refine Rd.iaload H6 i6_23 (ar0_1 ma) h (fun h => ?_)
        refine Ev.iload_n H6 i6_24 rfl ?_
        refine Rd.ishr H6 i6_25 ?_
        refine Ev.iconst H6 i6_26 kI_1 ?_
        refine Ev.iand H6 i6_27 ?_
        refine Ev.goto H6 i6_28 (t := 44) (by decide) ?_
        exact Ev.sub (l := [(0, .ref a), (1, .int v1), (2, .int v2), (3, .int v3)]) rfl rfl (mm_sub_c rfl (mm_sub_c rfl (mm_sub_c rfl (mm_sub_c rfl mm_sub_n)))) (t6_44 (k4 := (q6_4 a n)) (fun _ _ _ _ _ h => ih _ _ _ _ _ h) ma hd h)
/-- SerialGate$Clients.doersOf(I)I -/
def q6 (a : Nat) (v1 : Int32) (s : mS) : Option mQ := q6_4 a 10000 v1 (0 : Int32) (0 : Int32) s
theorem c6 {L : Nat} {xs : Nat → Int32} {a : Nat} (ma : a ∈ A0) {v1 : Int32} {s : mS} {r : mQ} (h : q6 a v1 s = some r) : ∀ d, 0 ≤ d → Cl L xs d 6 [.ref a, .int v1] (hp s) (hr r) := by
  intro d hd
  show Ev L xs d 6 0 [(0, .ref a), (1, .int v1)] [] (hp s) (hr r)
  unfold q6 at h
  refine Ev.iconst H6 i6_0 kI_0 ?_
  refine Ev.istore_n H6 i6_1 (Nat.le_of_ble_eq_true rfl) (lv2 := [(2, .int (0 : Int32)), (0, .ref a), (1, .int v1)]) rfl ?_
  refine Ev.iconst H6 i6_2 kI_0 ?_
  refine Ev.istore_n H6 i6_3 (Nat.le_of_ble_eq_true rfl) (lv2 := [(3, .int (0 : Int32)), (2, .int (0 : Int32)), (0, .ref a), (1, .int v1)]) rfl ?_
  exact Ev.sub (l := [(0, .ref a), (1, .int v1), (2, .int (0 : Int32)), (3, .int (0 : Int32))]) rfl rfl (mm_sub_c rfl (mm_sub_c rfl (mm_sub_c rfl (mm_sub_c rfl mm_sub_n)))) (t6_4 ma hd 10000 _ _ _ _ _ h)
theorem i7_0 : mm_cd 7 0 = some (.iconst 0, 1, 0, 0) := rfl
theorem i7_1 : mm_cd 7 1 = some (.istore_n 1, 1, 0, 0) := rfl
theorem i7_2 : mm_cd 7 2 = some (.iconst 0, 1, 0, 0) := rfl
theorem i7_3 : mm_cd 7 3 = some (.istore_n 2, 1, 0, 0) := rfl
theorem i7_4 : mm_cd 7 4 = some (.iload_n 2, 1, 0, 0) := rfl
theorem i7_5 : mm_cd 7 5 = some (.aload_n 0, 1, 0, 0) := rfl
theorem i7_6 : mm_cd 7 6 = some (.getfield 9, 3, ((0 : Nat) : Int), 0) := rfl
theorem i7_9 : mm_cd 7 9 = some (.if_icmp .ge 18, 3, 0, 0) := rfl
theorem i7_12 : mm_cd 7 12 = some (.iload_n 1, 1, 0, 0) := rfl
theorem i7_13 : mm_cd 7 13 = some (.aload_n 0, 1, 0, 0) := rfl
theorem i7_14 : mm_cd 7 14 = some (.getfield 28, 3, ((0 : Nat) : Int), 5) := rfl
theorem i7_17 : mm_cd 7 17 = some (.iload_n 2, 1, 0, 0) := rfl
theorem i7_18 : mm_cd 7 18 = some (.iaload, 1, 0, 0) := rfl
theorem i7_19 : mm_cd 7 19 = some (.iadd, 1, 0, 0) := rfl
theorem i7_20 : mm_cd 7 20 = some (.istore_n 1, 1, 0, 0) := rfl
theorem i7_21 : mm_cd 7 21 = some (.iinc 2 1, 3, 0, 0) := rfl
theorem i7_24 : mm_cd 7 24 = some (.goto (-20), 3, 0, 0) := rfl
theorem i7_27 : mm_cd 7 27 = some (.iload_n 1, 1, 0, 0) := rfl
theorem i7_28 : mm_cd 7 28 = some (.ireturn, 1, 0, 0) := rfl
def q7_4 (a : Nat) : Nat → Int32 → Int32 → mS → Option mQ
  | 0, _, _, _ => none
  | n + 1, v1, v2, s => if (s.1 a 0) ≤ v2 then (rv v1 s) else (gA 5 v2 <| bx (v1 + (s.1 (a + 4) v2.toNatClampNeg)) fun x1 => bx (v2 + (1 : Int32)) fun x2 => q7_4 a n x1 x2 s)
theorem t7_4 {L : Nat} {xs : Nat → Int32} {d : Nat} {a : Nat} (ma : a ∈ A0) (hd : 0 ≤ d) : ∀ (n : Nat) (v1 : Int32) (v2 : Int32) (s : mS) (r : mQ), q7_4 a n v1 v2 s = some r → Ev L xs d 7 4 [(0, .ref a), (1, .int v1), (2, .int v2)] [] (hp s) (hr r) := by
  intro n
  induction n with
  | zero => intro v1 v2 s r h; rw [q7_4] at h; cases h
  | succ n ih =>
    intro v1 v2 s r h
    rw [q7_4] at h
    refine Ev.iload_n H7 i7_4 rfl ?_
    refine Ev.aload_n H7 i7_5 rfl ?_
    refine Rd.getI H7 i7_6 (ob0 ma) rfl ?_
    refine Rd.ic_ge H7 i7_9 (t := 27) (by decide) h (fun hc h => ?_) (fun hc h => ?_)
    · refine Ev.iload_n H7 i7_27 rfl ?_
      exact Rd.ireturn H7 i7_28 rfl h
    · refine Ev.iload_n H7 i7_12 rfl ?_
      refine Ev.aload_n H7 i7_13 rfl ?_
      refine Rd.getR H7 i7_14 (ob0 ma) rfl ?_
      refine Ev.iload_n H7 i7_17 rfl ?_
      refine Rd.iaload H7 i7_18 (ar0_4 ma) h (fun h => ?_)
      refine Ev.iadd H7 i7_19 ?_
      refine Rd.istore_n H7 i7_20 (Nat.le_of_ble_eq_true rfl) (lv2 := fun x1 => [(1, .int x1), (0, .ref a), (2, .int v2)]) (fun _ => rfl) h (fun x1 h => ?_)
      refine Rd.iinc H7 i7_21 (Nat.le_of_ble_eq_true rfl) rfl kI_1 (lv2 := fun x2 => [(2, .int x2), (1, .int x1), (0, .ref a)]) (fun _ => rfl) h (fun x2 h => ?_)
      refine Ev.goto H7 i7_24 (t := 4) (by decide) ?_
      exact Ev.sub (l := [(0, .ref a), (1, .int x1), (2, .int x2)]) rfl rfl (mm_sub_c rfl (mm_sub_c rfl (mm_sub_c rfl mm_sub_n))) (ih _ _ _ _ h)
/-- SerialGate$Clients.allDone()I -/
def q7 (a : Nat) (s : mS) : Option mQ := q7_4 a 10000 (0 : Int32) (0 : Int32) s
theorem c7 {L : Nat} {xs : Nat → Int32} {a : Nat} (ma : a ∈ A0) {s : mS} {r : mQ} (h : q7 a s = some r) : ∀ d, 0 ≤ d → Cl L xs d 7 [.ref a] (hp s) (hr r) := by
  intro d hd
  show Ev L xs d 7 0 [(0, .ref a)] [] (hp s) (hr r)
  unfold q7 at h
  refine Ev.iconst H7 i7_0 kI_0 ?_
  refine Ev.istore_n H7 i7_1 (Nat.le_of_ble_eq_true rfl) (lv2 := [(1, .int (0 : Int32)), (0, .ref a)]) rfl ?_
  refine Ev.iconst H7 i7_2 kI_0 ?_
  refine Ev.istore_n H7 i7_3 (Nat.le_of_ble_eq_true rfl) (lv2 := [(2, .int (0 : Int32)), (1, .int (0 : Int32)), (0, .ref a)]) rfl ?_
  exact Ev.sub (l := [(0, .ref a), (1, .int (0 : Int32)), (2, .int (0 : Int32))]) rfl rfl (mm_sub_c rfl (mm_sub_c rfl (mm_sub_c rfl mm_sub_n))) (t7_4 ma hd 10000 _ _ _ _ h)
theorem i8_0 : mm_cd 8 0 = some (.iconst 0, 1, 0, 0) := rfl
theorem i8_1 : mm_cd 8 1 = some (.istore_n 1, 1, 0, 0) := rfl
theorem i8_2 : mm_cd 8 2 = some (.iconst 0, 1, 0, 0) := rfl
theorem i8_3 : mm_cd 8 3 = some (.istore_n 2, 1, 0, 0) := rfl
theorem i8_4 : mm_cd 8 4 = some (.iload_n 2, 1, 0, 0) := rfl
theorem i8_5 : mm_cd 8 5 = some (.aload_n 0, 1, 0, 0) := rfl
theorem i8_6 : mm_cd 8 6 = some (.getfield 9, 3, ((0 : Nat) : Int), 0) := rfl
theorem i8_9 : mm_cd 8 9 = some (.if_icmp .ge 18, 3, 0, 0) := rfl
theorem i8_12 : mm_cd 8 12 = some (.iload_n 1, 1, 0, 0) := rfl
theorem i8_13 : mm_cd 8 13 = some (.aload_n 0, 1, 0, 0) := rfl
theorem i8_14 : mm_cd 8 14 = some (.getfield 25, 3, ((0 : Nat) : Int), 4) := rfl
theorem i8_17 : mm_cd 8 17 = some (.iload_n 2, 1, 0, 0) := rfl
theorem i8_18 : mm_cd 8 18 = some (.iaload, 1, 0, 0) := rfl
theorem i8_19 : mm_cd 8 19 = some (.iadd, 1, 0, 0) := rfl
theorem i8_20 : mm_cd 8 20 = some (.istore_n 1, 1, 0, 0) := rfl
theorem i8_21 : mm_cd 8 21 = some (.iinc 2 1, 3, 0, 0) := rfl
theorem i8_24 : mm_cd 8 24 = some (.goto (-20), 3, 0, 0) := rfl
theorem i8_27 : mm_cd 8 27 = some (.iload_n 1, 1, 0, 0) := rfl
theorem i8_28 : mm_cd 8 28 = some (.ireturn, 1, 0, 0) := rfl
def q8_4 (a : Nat) : Nat → Int32 → Int32 → mS → Option mQ
  | 0, _, _, _ => none
  | n + 1, v1, v2, s => if (s.1 a 0) ≤ v2 then (rv v1 s) else (gA 5 v2 <| bx (v1 + (s.1 (a + 3) v2.toNatClampNeg)) fun x1 => bx (v2 + (1 : Int32)) fun x2 => q8_4 a n x1 x2 s)
theorem t8_4 {L : Nat} {xs : Nat → Int32} {d : Nat} {a : Nat} (ma : a ∈ A0) (hd : 0 ≤ d) : ∀ (n : Nat) (v1 : Int32) (v2 : Int32) (s : mS) (r : mQ), q8_4 a n v1 v2 s = some r → Ev L xs d 8 4 [(0, .ref a), (1, .int v1), (2, .int v2)] [] (hp s) (hr r) := by
  intro n
  induction n with
  | zero => intro v1 v2 s r h; rw [q8_4] at h; cases h
  | succ n ih =>
    intro v1 v2 s r h
    rw [q8_4] at h
    refine Ev.iload_n H8 i8_4 rfl ?_
    refine Ev.aload_n H8 i8_5 rfl ?_
    refine Rd.getI H8 i8_6 (ob0 ma) rfl ?_
    refine Rd.ic_ge H8 i8_9 (t := 27) (by decide) h (fun hc h => ?_) (fun hc h => ?_)
    · refine Ev.iload_n H8 i8_27 rfl ?_
      exact Rd.ireturn H8 i8_28 rfl h
    · refine Ev.iload_n H8 i8_12 rfl ?_
      refine Ev.aload_n H8 i8_13 rfl ?_
      refine Rd.getR H8 i8_14 (ob0 ma) rfl ?_
      refine Ev.iload_n H8 i8_17 rfl ?_
      refine Rd.iaload H8 i8_18 (ar0_3 ma) h (fun h => ?_)
      refine Ev.iadd H8 i8_19 ?_
      refine Rd.istore_n H8 i8_20 (Nat.le_of_ble_eq_true rfl) (lv2 := fun x1 => [(1, .int x1), (0, .ref a), (2, .int v2)]) (fun _ => rfl) h (fun x1 h => ?_)
      refine Rd.iinc H8 i8_21 (Nat.le_of_ble_eq_true rfl) rfl kI_1 (lv2 := fun x2 => [(2, .int x2), (1, .int x1), (0, .ref a)]) (fun _ => rfl) h (fun x2 h => ?_)
      refine Ev.goto H8 i8_24 (t := 4) (by decide) ?_
      exact Ev.sub (l := [(0, .ref a), (1, .int x1), (2, .int x2)]) rfl rfl (mm_sub_c rfl (mm_sub_c rfl (mm_sub_c rfl mm_sub_n))) (ih _ _ _ _ h)
/-- SerialGate$Clients.allRetries()I -/
def q8 (a : Nat) (s : mS) : Option mQ := q8_4 a 10000 (0 : Int32) (0 : Int32) s
theorem c8 {L : Nat} {xs : Nat → Int32} {a : Nat} (ma : a ∈ A0) {s : mS} {r : mQ} (h : q8 a s = some r) : ∀ d, 0 ≤ d → Cl L xs d 8 [.ref a] (hp s) (hr r) := by
  intro d hd
  show Ev L xs d 8 0 [(0, .ref a)] [] (hp s) (hr r)
  unfold q8 at h
  refine Ev.iconst H8 i8_0 kI_0 ?_
  refine Ev.istore_n H8 i8_1 (Nat.le_of_ble_eq_true rfl) (lv2 := [(1, .int (0 : Int32)), (0, .ref a)]) rfl ?_
  refine Ev.iconst H8 i8_2 kI_0 ?_
  refine Ev.istore_n H8 i8_3 (Nat.le_of_ble_eq_true rfl) (lv2 := [(2, .int (0 : Int32)), (1, .int (0 : Int32)), (0, .ref a)]) rfl ?_
  exact Ev.sub (l := [(0, .ref a), (1, .int (0 : Int32)), (2, .int (0 : Int32))]) rfl rfl (mm_sub_c rfl (mm_sub_c rfl (mm_sub_c rfl mm_sub_n))) (t8_4 ma hd 10000 _ _ _ _ h)
theorem i9_0 : mm_cd 9 0 = some (.aload_n 0, 1, 0, 0) := rfl
theorem i9_1 : mm_cd 9 1 = some (.invokevirtual 41, 3, 0, 7) := rfl
theorem i9_4 : mm_cd 9 4 = some (.istore_n 2, 1, 0, 0) := rfl
theorem i9_5 : mm_cd 9 5 = some (.iload_n 2, 1, 0, 0) := rfl
theorem i9_6 : mm_cd 9 6 = some (.ifCond .ne 7, 3, 0, 0) := rfl
theorem i9_9 : mm_cd 9 9 = some (.iconst 0, 1, 0, 0) := rfl
theorem i9_10 : mm_cd 9 10 = some (.goto 14, 3, 0, 0) := rfl
theorem i9_13 : mm_cd 9 13 = some (.bipush 100, 2, 0, 0) := rfl
theorem i9_15 : mm_cd 9 15 = some (.aload_n 0, 1, 0, 0) := rfl
theorem i9_16 : mm_cd 9 16 = some (.getfield 28, 3, ((0 : Nat) : Int), 5) := rfl
theorem i9_19 : mm_cd 9 19 = some (.iload_n 1, 1, 0, 0) := rfl
theorem i9_20 : mm_cd 9 20 = some (.iaload, 1, 0, 0) := rfl
theorem i9_21 : mm_cd 9 21 = some (.imul, 1, 0, 0) := rfl
theorem i9_22 : mm_cd 9 22 = some (.iload_n 2, 1, 0, 0) := rfl
theorem i9_23 : mm_cd 9 23 = some (.idiv, 1, 0, 0) := rfl
theorem i9_24 : mm_cd 9 24 = some (.ireturn, 1, 0, 0) := rfl
/-- SerialGate$Clients.shareOf(I)I -/
def q9 (a : Nat) (v1 : Int32) (s : mS) : Option mQ := bN (q7 a s) fun x2 s1 => if ¬ x2 = 0 then (gA 5 v1 <| gZ x2 <| rv (((100 : Int32) * (s1.1 (a + 4) v1.toNatClampNeg)) / x2) s1) else (rv (0 : Int32) s1)
theorem c9 {L : Nat} {xs : Nat → Int32} {a : Nat} (ma : a ∈ A0) {v1 : Int32} {s : mS} {r : mQ} (h : q9 a v1 s = some r) : ∀ d, 1 ≤ d → Cl L xs d 9 [.ref a, .int v1] (hp s) (hr r) := by
  intro d hd
  show Ev L xs d 9 0 [(0, .ref a), (1, .int v1)] [] (hp s) (hr r)
  unfold q9 at h
  refine Ev.aload_n H9 i9_0 rfl ?_
  refine Rd.cV0vN H9 i9_1 cal7 (ob0 ma) (Nat.le_of_ble_eq_true rfl) (Nat.le_of_ble_eq_true rfl) (Nat.lt_of_lt_of_le (by decide) hd) (fun q hq => c7 ma hq) h (fun x2 s1 h => ?_)
  refine Ev.istore_n H9 i9_4 (Nat.le_of_ble_eq_true rfl) (lv2 := [(2, .int x2), (0, .ref a), (1, .int v1)]) rfl ?_
  refine Ev.iload_n H9 i9_5 rfl ?_
  refine Rd.if_ne H9 i9_6 (t := 13) (by decide) h (fun hc h => ?_) (fun hc h => ?_)
  · refine Ev.bipush H9 i9_13 kB_100 ?_
    refine Ev.aload_n H9 i9_15 rfl ?_
    refine Rd.getR H9 i9_16 (ob0 ma) rfl ?_
    refine Ev.iload_n H9 i9_19 rfl ?_
    refine Rd.iaload H9 i9_20 (ar0_4 ma) h (fun h => ?_)
    refine Ev.imul H9 i9_21 ?_
    refine Ev.iload_n H9 i9_22 rfl ?_
    refine Rd.idiv H9 i9_23 h (fun h => ?_)
    exact Rd.ireturn H9 i9_24 rfl h
  · refine Ev.iconst H9 i9_9 kI_0 ?_
    refine Ev.goto H9 i9_10 (t := 24) (by decide) ?_
    exact Rd.ireturn H9 i9_24 rfl h
theorem i10_0 : mm_cd 10 0 = some (.iconst 0, 1, 0, 0) := rfl
theorem i10_1 : mm_cd 10 1 = some (.istore_n 1, 1, 0, 0) := rfl
theorem i10_2 : mm_cd 10 2 = some (.iconst 0, 1, 0, 0) := rfl
theorem i10_3 : mm_cd 10 3 = some (.istore_n 2, 1, 0, 0) := rfl
theorem i10_4 : mm_cd 10 4 = some (.iconst 0, 1, 0, 0) := rfl
theorem i10_5 : mm_cd 10 5 = some (.istore_n 3, 1, 0, 0) := rfl
theorem i10_6 : mm_cd 10 6 = some (.iload_n 3, 1, 0, 0) := rfl
theorem i10_7 : mm_cd 10 7 = some (.bipush 10, 2, 0, 0) := rfl
theorem i10_9 : mm_cd 10 9 = some (.if_icmp .ge 56, 3, 0, 0) := rfl
theorem i10_12 : mm_cd 10 12 = some (.iconst 0, 1, 0, 0) := rfl
theorem i10_13 : mm_cd 10 13 = some (.istore 4, 2, 0, 0) := rfl
theorem i10_15 : mm_cd 10 15 = some (.iconst 0, 1, 0, 0) := rfl
theorem i10_16 : mm_cd 10 16 = some (.istore 5, 2, 0, 0) := rfl
theorem i10_18 : mm_cd 10 18 = some (.iload 5, 2, 0, 0) := rfl
theorem i10_20 : mm_cd 10 20 = some (.aload_n 0, 1, 0, 0) := rfl
theorem i10_21 : mm_cd 10 21 = some (.getfield 9, 3, ((0 : Nat) : Int), 0) := rfl
theorem i10_24 : mm_cd 10 24 = some (.if_icmp .ge 24, 3, 0, 0) := rfl
theorem i10_27 : mm_cd 10 27 = some (.iload 4, 2, 0, 0) := rfl
theorem i10_29 : mm_cd 10 29 = some (.aload_n 0, 1, 0, 0) := rfl
theorem i10_30 : mm_cd 10 30 = some (.iload 5, 2, 0, 0) := rfl
theorem i10_32 : mm_cd 10 32 = some (.invokevirtual 37, 3, 0, 4) := rfl
theorem i10_35 : mm_cd 10 35 = some (.iload_n 3, 1, 0, 0) := rfl
theorem i10_36 : mm_cd 10 36 = some (.ishr, 1, 0, 0) := rfl
theorem i10_37 : mm_cd 10 37 = some (.iconst 1, 1, 0, 0) := rfl
theorem i10_38 : mm_cd 10 38 = some (.iand, 1, 0, 0) := rfl
theorem i10_39 : mm_cd 10 39 = some (.iadd, 1, 0, 0) := rfl
theorem i10_40 : mm_cd 10 40 = some (.istore 4, 2, 0, 0) := rfl
theorem i10_42 : mm_cd 10 42 = some (.iinc 5 1, 3, 0, 0) := rfl
theorem i10_45 : mm_cd 10 45 = some (.goto (-27), 3, 0, 0) := rfl
theorem i10_48 : mm_cd 10 48 = some (.iload 4, 2, 0, 0) := rfl
theorem i10_50 : mm_cd 10 50 = some (.iload_n 2, 1, 0, 0) := rfl
theorem i10_51 : mm_cd 10 51 = some (.if_icmp .le 8, 3, 0, 0) := rfl
theorem i10_54 : mm_cd 10 54 = some (.iload_n 3, 1, 0, 0) := rfl
theorem i10_55 : mm_cd 10 55 = some (.istore_n 1, 1, 0, 0) := rfl
theorem i10_56 : mm_cd 10 56 = some (.iload 4, 2, 0, 0) := rfl
theorem i10_58 : mm_cd 10 58 = some (.istore_n 2, 1, 0, 0) := rfl
theorem i10_59 : mm_cd 10 59 = some (.iinc 3 1, 3, 0, 0) := rfl
theorem i10_62 : mm_cd 10 62 = some (.goto (-56), 3, 0, 0) := rfl
theorem i10_65 : mm_cd 10 65 = some (.iload_n 1, 1, 0, 0) := rfl
theorem i10_66 : mm_cd 10 66 = some (.ireturn, 1, 0, 0) := rfl
def q10_18 (k48 : Int32 → Int32 → Int32 → Int32 → mS → Option mQ) (a : Nat) : Nat → Int32 → Int32 → Int32 → Int32 → Int32 → mS → Option mQ
  | 0, _, _, _, _, _, _ => none
  | n + 1, v1, v2, v3, v4, v5, s => if (s.1 a 0) ≤ v5 then (k48 v1 v2 v3 v4 s) else (bN (q4 a v5 s) fun x2 s1 => bx (v4 + ((shrI x2 v3) &&& (1 : Int32))) fun x3 => bx (v5 + (1 : Int32)) fun x4 => q10_18 k48 a n v1 v2 v3 x3 x4 s1)
theorem t10_18 {L : Nat} {xs : Nat → Int32} {d : Nat} {k48 : Int32 → Int32 → Int32 → Int32 → mS → Option mQ} {a : Nat} (hk48 : ∀ (v1 : Int32) (v2 : Int32) (v3 : Int32) (v4 : Int32) (s : mS) (r : mQ), k48 v1 v2 v3 v4 s = some r → Ev L xs d 10 48 [(0, .ref a), (1, .int v1), (2, .int v2), (3, .int v3), (4, .int v4)] [] (hp s) (hr r)) (ma : a ∈ A0) (hd : 1 ≤ d) : ∀ (n : Nat) (v1 : Int32) (v2 : Int32) (v3 : Int32) (v4 : Int32) (v5 : Int32) (s : mS) (r : mQ), q10_18 k48 a n v1 v2 v3 v4 v5 s = some r → Ev L xs d 10 18 [(0, .ref a), (1, .int v1), (2, .int v2), (3, .int v3), (4, .int v4), (5, .int v5)] [] (hp s) (hr r) := by
  intro n
  induction n with
  | zero => intro v1 v2 v3 v4 v5 s r h; rw [q10_18] at h; cases h
  | succ n ih =>
    intro v1 v2 v3 v4 v5 s r h
    rw [q10_18] at h
    refine Ev.iload H10 i10_18 rfl ?_
    refine Ev.aload_n H10 i10_20 rfl ?_
    refine Rd.getI H10 i10_21 (ob0 ma) rfl ?_
    refine Rd.ic_ge H10 i10_24 (t := 48) (by decide) h (fun hc h => ?_) (fun hc h => ?_)
    · exact Ev.sub (l := [(0, .ref a), (1, .int v1), (2, .int v2), (3, .int v3), (4, .int v4)]) rfl rfl (mm_sub_c rfl (mm_sub_c rfl (mm_sub_c rfl (mm_sub_c rfl (mm_sub_c rfl mm_sub_n))))) (hk48 _ _ _ _ _ _ h)
    · refine Ev.iload H10 i10_27 rfl ?_
      refine Ev.aload_n H10 i10_29 rfl ?_
      refine Ev.iload H10 i10_30 rfl ?_
      refine Rd.cV1vN H10 i10_32 cal4 (ob0 ma) (Nat.le_of_ble_eq_true rfl) (Nat.le_of_ble_eq_true rfl) (Nat.lt_of_lt_of_le (by decide) hd) (fun q hq => c4 ma hq) h (fun x2 s1 h => ?_)
      refine Ev.iload_n H10 i10_35 rfl ?_
      refine Rd.ishr H10 i10_36 ?_
      refine Ev.iconst H10 i10_37 kI_1 ?_
      refine Ev.iand H10 i10_38 ?_
      refine Ev.iadd H10 i10_39 ?_
      refine Rd.istore H10 i10_40 (Nat.le_of_ble_eq_true rfl) (lv2 := fun x3 => [(4, .int x3), (0, .ref a), (1, .int v1), (2, .int v2), (3, .int v3), (5, .int v5)]) (fun _ => rfl) h (fun x3 h => ?_)
      refine Rd.iinc H10 i10_42 (Nat.le_of_ble_eq_true rfl) rfl kI_1 (lv2 := fun x4 => [(5, .int x4), (4, .int x3), (0, .ref a), (1, .int v1), (2, .int v2), (3, .int v3)]) (fun _ => rfl) h (fun x4 h => ?_)
      refine Ev.goto H10 i10_45 (t := 18) (by decide) ?_
      exact Ev.sub (l := [(0, .ref a), (1, .int v1), (2, .int v2), (3, .int v3), (4, .int x3), (5, .int x4)]) rfl rfl (mm_sub_c rfl (mm_sub_c rfl (mm_sub_c rfl (mm_sub_c rfl (mm_sub_c rfl (mm_sub_c rfl mm_sub_n)))))) (ih _ _ _ _ _ _ _ h)
def q10_59 (k6 : Int32 → Int32 → Int32 → mS → Option mQ) (a : Nat) (v1 : Int32) (v2 : Int32) (v3 : Int32) (s : mS) : Option mQ := bx (v3 + (1 : Int32)) fun x5 => k6 v1 v2 x5 s
theorem t10_59 {L : Nat} {xs : Nat → Int32} {d : Nat} {k6 : Int32 → Int32 → Int32 → mS → Option mQ} {a : Nat} (hk6 : ∀ (v1 : Int32) (v2 : Int32) (v3 : Int32) (s : mS) (r : mQ), k6 v1 v2 v3 s = some r → Ev L xs d 10 6 [(0, .ref a), (1, .int v1), (2, .int v2), (3, .int v3)] [] (hp s) (hr r)) (ma : a ∈ A0) (hd : 1 ≤ d) {v1 : Int32} {v2 : Int32} {v3 : Int32} {s : mS} {r : mQ} (h : q10_59 k6 a v1 v2 v3 s = some r) : Ev L xs d 10 59 [(0, .ref a), (1, .int v1), (2, .int v2), (3, .int v3)] [] (hp s) (hr r) := by
  unfold q10_59 at h
  refine Rd.iinc H10 i10_59 (Nat.le_of_ble_eq_true rfl) rfl kI_1 (lv2 := fun x5 => [(3, .int x5), (0, .ref a), (1, .int v1), (2, .int v2)]) (fun _ => rfl) h (fun x5 h => ?_)
  refine Ev.goto H10 i10_62 (t := 6) (by decide) ?_
  exact Ev.sub (l := [(0, .ref a), (1, .int v1), (2, .int v2), (3, .int x5)]) rfl rfl (mm_sub_c rfl (mm_sub_c rfl (mm_sub_c rfl (mm_sub_c rfl mm_sub_n)))) (hk6 _ _ _ _ _ h)
def q10_48 (k6 : Int32 → Int32 → Int32 → mS → Option mQ) (a : Nat) (v1 : Int32) (v2 : Int32) (v3 : Int32) (v4 : Int32) (s : mS) : Option mQ := if v4 ≤ v2 then (q10_59 k6 a v1 v2 v3 s) else (q10_59 k6 a v3 v4 v3 s)
theorem t10_48 {L : Nat} {xs : Nat → Int32} {d : Nat} {k6 : Int32 → Int32 → Int32 → mS → Option mQ} {a : Nat} (hk6 : ∀ (v1 : Int32) (v2 : Int32) (v3 : Int32) (s : mS) (r : mQ), k6 v1 v2 v3 s = some r → Ev L xs d 10 6 [(0, .ref a), (1, .int v1), (2, .int v2), (3, .int v3)] [] (hp s) (hr r)) (ma : a ∈ A0) (hd : 1 ≤ d) {v1 : Int32} {v2 : Int32} {v3 : Int32} {v4 : Int32} {s : mS} {r : mQ} (h : q10_48 k6 a v1 v2 v3 v4 s = some r) : Ev L xs d 10 48 [(0, .ref a), (1, .int v1), (2, .int v2), (3, .int v3), (4, .int v4)] [] (hp s) (hr r) := by
  unfold q10_48 at h
  refine Ev.iload H10 i10_48 rfl ?_
  refine Ev.iload_n H10 i10_50 rfl ?_
  refine Rd.ic_le H10 i10_51 (t := 59) (by decide) h (fun hc h => ?_) (fun hc h => ?_)
  · exact Ev.sub (l := [(0, .ref a), (1, .int v1), (2, .int v2), (3, .int v3)]) rfl rfl (mm_sub_c rfl (mm_sub_c rfl (mm_sub_c rfl (mm_sub_c rfl mm_sub_n)))) (t10_59 (k6 := k6) hk6 ma hd h)
  · refine Ev.iload_n H10 i10_54 rfl ?_
    refine Ev.istore_n H10 i10_55 (Nat.le_of_ble_eq_true rfl) (lv2 := [(1, .int v3), (0, .ref a), (2, .int v2), (3, .int v3), (4, .int v4)]) rfl ?_
    refine Ev.iload H10 i10_56 rfl ?_
    refine Ev.istore_n H10 i10_58 (Nat.le_of_ble_eq_true rfl) (lv2 := [(2, .int v4), (1, .int v3), (0, .ref a), (3, .int v3), (4, .int v4)]) rfl ?_
    exact Ev.sub (l := [(0, .ref a), (1, .int v3), (2, .int v4), (3, .int v3)]) rfl rfl (mm_sub_c rfl (mm_sub_c rfl (mm_sub_c rfl (mm_sub_c rfl mm_sub_n)))) (t10_59 (k6 := k6) hk6 ma hd h)
def q10_6 (a : Nat) : Nat → Int32 → Int32 → Int32 → mS → Option mQ
  | 0, _, _, _, _ => none
  | n + 1, v1, v2, v3, s => if (10 : Int32) ≤ v3 then (rv v1 s) else (q10_18 (q10_48 (q10_6 a n) a) a 10000 v1 v2 v3 (0 : Int32) (0 : Int32) s)
theorem t10_6 {L : Nat} {xs : Nat → Int32} {d : Nat} {a : Nat} (ma : a ∈ A0) (hd : 1 ≤ d) : ∀ (n : Nat) (v1 : Int32) (v2 : Int32) (v3 : Int32) (s : mS) (r : mQ), q10_6 a n v1 v2 v3 s = some r → Ev L xs d 10 6 [(0, .ref a), (1, .int v1), (2, .int v2), (3, .int v3)] [] (hp s) (hr r) := by
  intro n
  induction n with
  | zero => intro v1 v2 v3 s r h; rw [q10_6] at h; cases h
  | succ n ih =>
    intro v1 v2 v3 s r h
    rw [q10_6] at h
    refine Ev.iload_n H10 i10_6 rfl ?_
    refine Ev.bipush H10 i10_7 kB_10 ?_
    refine Rd.ic_ge H10 i10_9 (t := 65) (by decide) h (fun hc h => ?_) (fun hc h => ?_)
    · refine Ev.iload_n H10 i10_65 rfl ?_
      exact Rd.ireturn H10 i10_66 rfl h
    · refine Ev.iconst H10 i10_12 kI_0 ?_
      refine Ev.istore H10 i10_13 (Nat.le_of_ble_eq_true rfl) (lv2 := [(4, .int (0 : Int32)), (0, .ref a), (1, .int v1), (2, .int v2), (3, .int v3)]) rfl ?_
      refine Ev.iconst H10 i10_15 kI_0 ?_
      refine Ev.istore H10 i10_16 (Nat.le_of_ble_eq_true rfl) (lv2 := [(5, .int (0 : Int32)), (4, .int (0 : Int32)), (0, .ref a), (1, .int v1), (2, .int v2), (3, .int v3)]) rfl ?_
      exact Ev.sub (l := [(0, .ref a), (1, .int v1), (2, .int v2), (3, .int v3), (4, .int (0 : Int32)), (5, .int (0 : Int32))]) rfl rfl (mm_sub_c rfl (mm_sub_c rfl (mm_sub_c rfl (mm_sub_c rfl (mm_sub_c rfl (mm_sub_c rfl mm_sub_n)))))) (t10_18 (k48 := (q10_48 (q10_6 a n) a)) (fun _ _ _ _ _ _ h => t10_48 (k6 := (q10_6 a n)) (fun _ _ _ _ _ h => ih _ _ _ _ _ h) ma hd h) ma hd 10000 _ _ _ _ _ _ _ h)
/-- SerialGate$Clients.hottestKey()I -/
def q10 (a : Nat) (s : mS) : Option mQ := q10_6 a 10000 (0 : Int32) (0 : Int32) (0 : Int32) s
theorem c10 {L : Nat} {xs : Nat → Int32} {a : Nat} (ma : a ∈ A0) {s : mS} {r : mQ} (h : q10 a s = some r) : ∀ d, 1 ≤ d → Cl L xs d 10 [.ref a] (hp s) (hr r) := by
  intro d hd
  show Ev L xs d 10 0 [(0, .ref a)] [] (hp s) (hr r)
  unfold q10 at h
  refine Ev.iconst H10 i10_0 kI_0 ?_
  refine Ev.istore_n H10 i10_1 (Nat.le_of_ble_eq_true rfl) (lv2 := [(1, .int (0 : Int32)), (0, .ref a)]) rfl ?_
  refine Ev.iconst H10 i10_2 kI_0 ?_
  refine Ev.istore_n H10 i10_3 (Nat.le_of_ble_eq_true rfl) (lv2 := [(2, .int (0 : Int32)), (1, .int (0 : Int32)), (0, .ref a)]) rfl ?_
  refine Ev.iconst H10 i10_4 kI_0 ?_
  refine Ev.istore_n H10 i10_5 (Nat.le_of_ble_eq_true rfl) (lv2 := [(3, .int (0 : Int32)), (2, .int (0 : Int32)), (1, .int (0 : Int32)), (0, .ref a)]) rfl ?_
  exact Ev.sub (l := [(0, .ref a), (1, .int (0 : Int32)), (2, .int (0 : Int32)), (3, .int (0 : Int32))]) rfl rfl (mm_sub_c rfl (mm_sub_c rfl (mm_sub_c rfl (mm_sub_c rfl mm_sub_n)))) (t10_6 ma hd 10000 _ _ _ _ _ h)
theorem i11_0 : mm_cd 11 0 = some (.iconst 0, 1, 0, 0) := rfl
theorem i11_1 : mm_cd 11 1 = some (.istore_n 1, 1, 0, 0) := rfl
theorem i11_2 : mm_cd 11 2 = some (.iconst 0, 1, 0, 0) := rfl
theorem i11_3 : mm_cd 11 3 = some (.istore_n 2, 1, 0, 0) := rfl
theorem i11_4 : mm_cd 11 4 = some (.iload_n 2, 1, 0, 0) := rfl
theorem i11_5 : mm_cd 11 5 = some (.aload_n 0, 1, 0, 0) := rfl
theorem i11_6 : mm_cd 11 6 = some (.getfield 9, 3, ((0 : Nat) : Int), 0) := rfl
theorem i11_9 : mm_cd 11 9 = some (.if_icmp .ge 55, 3, 0, 0) := rfl
theorem i11_12 : mm_cd 11 12 = some (.iconst 0, 1, 0, 0) := rfl
theorem i11_13 : mm_cd 11 13 = some (.istore_n 3, 1, 0, 0) := rfl
theorem i11_14 : mm_cd 11 14 = some (.iload_n 3, 1, 0, 0) := rfl
theorem i11_15 : mm_cd 11 15 = some (.iload_n 2, 1, 0, 0) := rfl
theorem i11_16 : mm_cd 11 16 = some (.if_icmp .ge 42, 3, 0, 0) := rfl
theorem i11_19 : mm_cd 11 19 = some (.aload_n 0, 1, 0, 0) := rfl
theorem i11_20 : mm_cd 11 20 = some (.getfield 18, 3, ((0 : Nat) : Int), 2) := rfl
theorem i11_23 : mm_cd 11 23 = some (.iload_n 2, 1, 0, 0) := rfl
theorem i11_24 : mm_cd 11 24 = some (.iaload, 1, 0, 0) := rfl
theorem i11_25 : mm_cd 11 25 = some (.aload_n 0, 1, 0, 0) := rfl
theorem i11_26 : mm_cd 11 26 = some (.getfield 18, 3, ((0 : Nat) : Int), 2) := rfl
theorem i11_29 : mm_cd 11 29 = some (.iload_n 3, 1, 0, 0) := rfl
theorem i11_30 : mm_cd 11 30 = some (.iaload, 1, 0, 0) := rfl
theorem i11_31 : mm_cd 11 31 = some (.if_icmp .ne 21, 3, 0, 0) := rfl
theorem i11_34 : mm_cd 11 34 = some (.aload_n 0, 1, 0, 0) := rfl
theorem i11_35 : mm_cd 11 35 = some (.getfield 22, 3, ((0 : Nat) : Int), 3) := rfl
theorem i11_38 : mm_cd 11 38 = some (.iload_n 2, 1, 0, 0) := rfl
theorem i11_39 : mm_cd 11 39 = some (.iaload, 1, 0, 0) := rfl
theorem i11_40 : mm_cd 11 40 = some (.aload_n 0, 1, 0, 0) := rfl
theorem i11_41 : mm_cd 11 41 = some (.getfield 22, 3, ((0 : Nat) : Int), 3) := rfl
theorem i11_44 : mm_cd 11 44 = some (.iload_n 3, 1, 0, 0) := rfl
theorem i11_45 : mm_cd 11 45 = some (.iaload, 1, 0, 0) := rfl
theorem i11_46 : mm_cd 11 46 = some (.if_icmp .ne 6, 3, 0, 0) := rfl
theorem i11_49 : mm_cd 11 49 = some (.iinc 1 1, 3, 0, 0) := rfl
theorem i11_52 : mm_cd 11 52 = some (.iinc 3 1, 3, 0, 0) := rfl
theorem i11_55 : mm_cd 11 55 = some (.goto (-41), 3, 0, 0) := rfl
theorem i11_58 : mm_cd 11 58 = some (.iinc 2 1, 3, 0, 0) := rfl
theorem i11_61 : mm_cd 11 61 = some (.goto (-57), 3, 0, 0) := rfl
theorem i11_64 : mm_cd 11 64 = some (.iload_n 1, 1, 0, 0) := rfl
theorem i11_65 : mm_cd 11 65 = some (.ireturn, 1, 0, 0) := rfl
def q11_52 (k14 : Int32 → Int32 → Int32 → mS → Option mQ) (a : Nat) (v1 : Int32) (v2 : Int32) (v3 : Int32) (s : mS) : Option mQ := bx (v3 + (1 : Int32)) fun x1 => k14 v1 v2 x1 s
theorem t11_52 {L : Nat} {xs : Nat → Int32} {d : Nat} {k14 : Int32 → Int32 → Int32 → mS → Option mQ} {a : Nat} (hk14 : ∀ (v1 : Int32) (v2 : Int32) (v3 : Int32) (s : mS) (r : mQ), k14 v1 v2 v3 s = some r → Ev L xs d 11 14 [(0, .ref a), (1, .int v1), (2, .int v2), (3, .int v3)] [] (hp s) (hr r)) (ma : a ∈ A0) (hd : 0 ≤ d) {v1 : Int32} {v2 : Int32} {v3 : Int32} {s : mS} {r : mQ} (h : q11_52 k14 a v1 v2 v3 s = some r) : Ev L xs d 11 52 [(0, .ref a), (1, .int v1), (2, .int v2), (3, .int v3)] [] (hp s) (hr r) := by
  unfold q11_52 at h
  refine Rd.iinc H11 i11_52 (Nat.le_of_ble_eq_true rfl) rfl kI_1 (lv2 := fun x1 => [(3, .int x1), (0, .ref a), (1, .int v1), (2, .int v2)]) (fun _ => rfl) h (fun x1 h => ?_)
  refine Ev.goto H11 i11_55 (t := 14) (by decide) ?_
  exact Ev.sub (l := [(0, .ref a), (1, .int v1), (2, .int v2), (3, .int x1)]) rfl rfl (mm_sub_c rfl (mm_sub_c rfl (mm_sub_c rfl (mm_sub_c rfl mm_sub_n)))) (hk14 _ _ _ _ _ h)
def q11_14 (k58 : Int32 → Int32 → mS → Option mQ) (a : Nat) : Nat → Int32 → Int32 → Int32 → mS → Option mQ
  | 0, _, _, _, _ => none
  | n + 1, v1, v2, v3, s => if v2 ≤ v3 then (k58 v1 v2 s) else (gA 5 v2 <| gA 5 v3 <| if ¬ (s.1 (a + 1) v2.toNatClampNeg) = (s.1 (a + 1) v3.toNatClampNeg) then (q11_52 (q11_14 k58 a n) a v1 v2 v3 s) else (gA 5 v2 <| gA 5 v3 <| if ¬ (s.1 (a + 2) v2.toNatClampNeg) = (s.1 (a + 2) v3.toNatClampNeg) then (q11_52 (q11_14 k58 a n) a v1 v2 v3 s) else (bx (v1 + (1 : Int32)) fun x2 => q11_52 (q11_14 k58 a n) a x2 v2 v3 s)))
theorem t11_14 {L : Nat} {xs : Nat → Int32} {d : Nat} {k58 : Int32 → Int32 → mS → Option mQ} {a : Nat} (hk58 : ∀ (v1 : Int32) (v2 : Int32) (s : mS) (r : mQ), k58 v1 v2 s = some r → Ev L xs d 11 58 [(0, .ref a), (1, .int v1), (2, .int v2)] [] (hp s) (hr r)) (ma : a ∈ A0) (hd : 0 ≤ d) : ∀ (n : Nat) (v1 : Int32) (v2 : Int32) (v3 : Int32) (s : mS) (r : mQ), q11_14 k58 a n v1 v2 v3 s = some r → Ev L xs d 11 14 [(0, .ref a), (1, .int v1), (2, .int v2), (3, .int v3)] [] (hp s) (hr r) := by
  intro n
  induction n with
  | zero => intro v1 v2 v3 s r h; rw [q11_14] at h; cases h
  | succ n ih =>
    intro v1 v2 v3 s r h
    rw [q11_14] at h
    refine Ev.iload_n H11 i11_14 rfl ?_
    refine Ev.iload_n H11 i11_15 rfl ?_
    refine Rd.ic_ge H11 i11_16 (t := 58) (by decide) h (fun hc h => ?_) (fun hc h => ?_)
    · exact Ev.sub (l := [(0, .ref a), (1, .int v1), (2, .int v2)]) rfl rfl (mm_sub_c rfl (mm_sub_c rfl (mm_sub_c rfl mm_sub_n))) (hk58 _ _ _ _ h)
    · refine Ev.aload_n H11 i11_19 rfl ?_
      refine Rd.getR H11 i11_20 (ob0 ma) rfl ?_
      refine Ev.iload_n H11 i11_23 rfl ?_
      refine Rd.iaload H11 i11_24 (ar0_1 ma) h (fun h => ?_)
      refine Ev.aload_n H11 i11_25 rfl ?_
      refine Rd.getR H11 i11_26 (ob0 ma) rfl ?_
      refine Ev.iload_n H11 i11_29 rfl ?_
      refine Rd.iaload H11 i11_30 (ar0_1 ma) h (fun h => ?_)
      refine Rd.ic_ne H11 i11_31 (t := 52) (by decide) h (fun hc h => ?_) (fun hc h => ?_)
      · exact Ev.sub (l := [(0, .ref a), (1, .int v1), (2, .int v2), (3, .int v3)]) rfl rfl (mm_sub_c rfl (mm_sub_c rfl (mm_sub_c rfl (mm_sub_c rfl mm_sub_n)))) (t11_52 (k14 := (q11_14 k58 a n)) (fun _ _ _ _ _ h => ih _ _ _ _ _ h) ma hd h)
      · refine Ev.aload_n H11 i11_34 rfl ?_
        refine Rd.getR H11 i11_35 (ob0 ma) rfl ?_
        refine Ev.iload_n H11 i11_38 rfl ?_
        refine Rd.iaload H11 i11_39 (ar0_2 ma) h (fun h => ?_)
        refine Ev.aload_n H11 i11_40 rfl ?_
        refine Rd.getR H11 i11_41 (ob0 ma) rfl ?_
        refine Ev.iload_n H11 i11_44 rfl ?_
        refine Rd.iaload H11 i11_45 (ar0_2 ma) h (fun h => ?_)
        refine Rd.ic_ne H11 i11_46 (t := 52) (by decide) h (fun hc h => ?_) (fun hc h => ?_)
        · exact Ev.sub (l := [(0, .ref a), (1, .int v1), (2, .int v2), (3, .int v3)]) rfl rfl (mm_sub_c rfl (mm_sub_c rfl (mm_sub_c rfl (mm_sub_c rfl mm_sub_n)))) (t11_52 (k14 := (q11_14 k58 a n)) (fun _ _ _ _ _ h => ih _ _ _ _ _ h) ma hd h)
        · refine Rd.iinc H11 i11_49 (Nat.le_of_ble_eq_true rfl) rfl kI_1 (lv2 := fun x2 => [(1, .int x2), (0, .ref a), (2, .int v2), (3, .int v3)]) (fun _ => rfl) h (fun x2 h => ?_)
          exact Ev.sub (l := [(0, .ref a), (1, .int x2), (2, .int v2), (3, .int v3)]) rfl rfl (mm_sub_c rfl (mm_sub_c rfl (mm_sub_c rfl (mm_sub_c rfl mm_sub_n)))) (t11_52 (k14 := (q11_14 k58 a n)) (fun _ _ _ _ _ h => ih _ _ _ _ _ h) ma hd h)
def q11_58 (k4 : Int32 → Int32 → mS → Option mQ) (a : Nat) (v1 : Int32) (v2 : Int32) (s : mS) : Option mQ := bx (v2 + (1 : Int32)) fun x3 => k4 v1 x3 s
theorem t11_58 {L : Nat} {xs : Nat → Int32} {d : Nat} {k4 : Int32 → Int32 → mS → Option mQ} {a : Nat} (hk4 : ∀ (v1 : Int32) (v2 : Int32) (s : mS) (r : mQ), k4 v1 v2 s = some r → Ev L xs d 11 4 [(0, .ref a), (1, .int v1), (2, .int v2)] [] (hp s) (hr r)) (ma : a ∈ A0) (hd : 0 ≤ d) {v1 : Int32} {v2 : Int32} {s : mS} {r : mQ} (h : q11_58 k4 a v1 v2 s = some r) : Ev L xs d 11 58 [(0, .ref a), (1, .int v1), (2, .int v2)] [] (hp s) (hr r) := by
  unfold q11_58 at h
  refine Rd.iinc H11 i11_58 (Nat.le_of_ble_eq_true rfl) rfl kI_1 (lv2 := fun x3 => [(2, .int x3), (0, .ref a), (1, .int v1)]) (fun _ => rfl) h (fun x3 h => ?_)
  refine Ev.goto H11 i11_61 (t := 4) (by decide) ?_
  exact Ev.sub (l := [(0, .ref a), (1, .int v1), (2, .int x3)]) rfl rfl (mm_sub_c rfl (mm_sub_c rfl (mm_sub_c rfl mm_sub_n))) (hk4 _ _ _ _ h)
def q11_4 (a : Nat) : Nat → Int32 → Int32 → mS → Option mQ
  | 0, _, _, _ => none
  | n + 1, v1, v2, s => if (s.1 a 0) ≤ v2 then (rv v1 s) else (q11_14 (q11_58 (q11_4 a n) a) a 10000 v1 v2 (0 : Int32) s)
theorem t11_4 {L : Nat} {xs : Nat → Int32} {d : Nat} {a : Nat} (ma : a ∈ A0) (hd : 0 ≤ d) : ∀ (n : Nat) (v1 : Int32) (v2 : Int32) (s : mS) (r : mQ), q11_4 a n v1 v2 s = some r → Ev L xs d 11 4 [(0, .ref a), (1, .int v1), (2, .int v2)] [] (hp s) (hr r) := by
  intro n
  induction n with
  | zero => intro v1 v2 s r h; rw [q11_4] at h; cases h
  | succ n ih =>
    intro v1 v2 s r h
    rw [q11_4] at h
    refine Ev.iload_n H11 i11_4 rfl ?_
    refine Ev.aload_n H11 i11_5 rfl ?_
    refine Rd.getI H11 i11_6 (ob0 ma) rfl ?_
    refine Rd.ic_ge H11 i11_9 (t := 64) (by decide) h (fun hc h => ?_) (fun hc h => ?_)
    · refine Ev.iload_n H11 i11_64 rfl ?_
      exact Rd.ireturn H11 i11_65 rfl h
    · refine Ev.iconst H11 i11_12 kI_0 ?_
      refine Ev.istore_n H11 i11_13 (Nat.le_of_ble_eq_true rfl) (lv2 := [(3, .int (0 : Int32)), (0, .ref a), (1, .int v1), (2, .int v2)]) rfl ?_
      exact Ev.sub (l := [(0, .ref a), (1, .int v1), (2, .int v2), (3, .int (0 : Int32))]) rfl rfl (mm_sub_c rfl (mm_sub_c rfl (mm_sub_c rfl (mm_sub_c rfl mm_sub_n)))) (t11_14 (k58 := (q11_58 (q11_4 a n) a)) (fun _ _ _ _ h => t11_58 (k4 := (q11_4 a n)) (fun _ _ _ _ h => ih _ _ _ _ h) ma hd h) ma hd 10000 _ _ _ _ _ h)
/-- SerialGate$Clients.twinPairs()I -/
def q11 (a : Nat) (s : mS) : Option mQ := q11_4 a 10000 (0 : Int32) (0 : Int32) s
theorem c11 {L : Nat} {xs : Nat → Int32} {a : Nat} (ma : a ∈ A0) {s : mS} {r : mQ} (h : q11 a s = some r) : ∀ d, 0 ≤ d → Cl L xs d 11 [.ref a] (hp s) (hr r) := by
  intro d hd
  show Ev L xs d 11 0 [(0, .ref a)] [] (hp s) (hr r)
  unfold q11 at h
  refine Ev.iconst H11 i11_0 kI_0 ?_
  refine Ev.istore_n H11 i11_1 (Nat.le_of_ble_eq_true rfl) (lv2 := [(1, .int (0 : Int32)), (0, .ref a)]) rfl ?_
  refine Ev.iconst H11 i11_2 kI_0 ?_
  refine Ev.istore_n H11 i11_3 (Nat.le_of_ble_eq_true rfl) (lv2 := [(2, .int (0 : Int32)), (1, .int (0 : Int32)), (0, .ref a)]) rfl ?_
  exact Ev.sub (l := [(0, .ref a), (1, .int (0 : Int32)), (2, .int (0 : Int32))]) rfl rfl (mm_sub_c rfl (mm_sub_c rfl (mm_sub_c rfl mm_sub_n))) (t11_4 ma hd 10000 _ _ _ _ h)
theorem i13_0 : mm_cd 13 0 = some (.aload_n 0, 1, 0, 0) := rfl
theorem i13_1 : mm_cd 13 1 = some (.aload_n 1, 1, 0, 0) := rfl
theorem i13_2 : mm_cd 13 2 = some (.getfield 9, 3, ((1 : Nat) : Int), 0) := rfl
theorem i13_5 : mm_cd 13 5 = some (.putfield 9, 3, ((1 : Nat) : Int), 0) := rfl
theorem i13_8 : mm_cd 13 8 = some (.aload_n 0, 1, 0, 0) := rfl
theorem i13_9 : mm_cd 13 9 = some (.aload_n 1, 1, 0, 0) := rfl
theorem i13_10 : mm_cd 13 10 = some (.getfield 15, 3, ((1 : Nat) : Int), 1) := rfl
theorem i13_13 : mm_cd 13 13 = some (.putfield 15, 3, ((1 : Nat) : Int), 1) := rfl
theorem i13_16 : mm_cd 13 16 = some (.aload_n 1, 1, 0, 0) := rfl
theorem i13_17 : mm_cd 13 17 = some (.getfield 18, 3, ((1 : Nat) : Int), 2) := rfl
theorem i13_20 : mm_cd 13 20 = some (.iconst 0, 1, 0, 0) := rfl
theorem i13_21 : mm_cd 13 21 = some (.aload_n 0, 1, 0, 0) := rfl
theorem i13_22 : mm_cd 13 22 = some (.getfield 18, 3, ((1 : Nat) : Int), 2) := rfl
theorem i13_25 : mm_cd 13 25 = some (.iconst 0, 1, 0, 0) := rfl
theorem i13_26 : mm_cd 13 26 = some (.bipush 12, 2, 0, 0) := rfl
theorem i13_28 : mm_cd 13 28 = some (.invokestatic 40, 3, 1, 0) := rfl
theorem i13_31 : mm_cd 13 31 = some (.aload_n 1, 1, 0, 0) := rfl
theorem i13_32 : mm_cd 13 32 = some (.getfield 22, 3, ((1 : Nat) : Int), 3) := rfl
theorem i13_35 : mm_cd 13 35 = some (.iconst 0, 1, 0, 0) := rfl
theorem i13_36 : mm_cd 13 36 = some (.aload_n 0, 1, 0, 0) := rfl
theorem i13_37 : mm_cd 13 37 = some (.getfield 22, 3, ((1 : Nat) : Int), 3) := rfl
theorem i13_40 : mm_cd 13 40 = some (.iconst 0, 1, 0, 0) := rfl
theorem i13_41 : mm_cd 13 41 = some (.bipush 12, 2, 0, 0) := rfl
theorem i13_43 : mm_cd 13 43 = some (.invokestatic 40, 3, 1, 0) := rfl
theorem i13_46 : mm_cd 13 46 = some (.aload_n 1, 1, 0, 0) := rfl
theorem i13_47 : mm_cd 13 47 = some (.getfield 25, 3, ((1 : Nat) : Int), 4) := rfl
theorem i13_50 : mm_cd 13 50 = some (.iconst 0, 1, 0, 0) := rfl
theorem i13_51 : mm_cd 13 51 = some (.aload_n 0, 1, 0, 0) := rfl
theorem i13_52 : mm_cd 13 52 = some (.getfield 25, 3, ((1 : Nat) : Int), 4) := rfl
theorem i13_55 : mm_cd 13 55 = some (.iconst 0, 1, 0, 0) := rfl
theorem i13_56 : mm_cd 13 56 = some (.bipush 12, 2, 0, 0) := rfl
theorem i13_58 : mm_cd 13 58 = some (.invokestatic 40, 3, 1, 0) := rfl
theorem i13_61 : mm_cd 13 61 = some (.aload_n 1, 1, 0, 0) := rfl
theorem i13_62 : mm_cd 13 62 = some (.getfield 28, 3, ((1 : Nat) : Int), 5) := rfl
theorem i13_65 : mm_cd 13 65 = some (.iconst 0, 1, 0, 0) := rfl
theorem i13_66 : mm_cd 13 66 = some (.aload_n 0, 1, 0, 0) := rfl
theorem i13_67 : mm_cd 13 67 = some (.getfield 28, 3, ((1 : Nat) : Int), 5) := rfl
theorem i13_70 : mm_cd 13 70 = some (.iconst 0, 1, 0, 0) := rfl
theorem i13_71 : mm_cd 13 71 = some (.bipush 12, 2, 0, 0) := rfl
theorem i13_73 : mm_cd 13 73 = some (.invokestatic 40, 3, 1, 0) := rfl
theorem i13_76 : mm_cd 13 76 = some (.aload_n 1, 1, 0, 0) := rfl
theorem i13_77 : mm_cd 13 77 = some (.getfield 31, 3, ((1 : Nat) : Int), 6) := rfl
theorem i13_80 : mm_cd 13 80 = some (.iconst 0, 1, 0, 0) := rfl
theorem i13_81 : mm_cd 13 81 = some (.aload_n 0, 1, 0, 0) := rfl
theorem i13_82 : mm_cd 13 82 = some (.getfield 31, 3, ((1 : Nat) : Int), 6) := rfl
theorem i13_85 : mm_cd 13 85 = some (.iconst 0, 1, 0, 0) := rfl
theorem i13_86 : mm_cd 13 86 = some (.bipush 120, 2, 0, 0) := rfl
theorem i13_88 : mm_cd 13 88 = some (.invokestatic 40, 3, 1, 0) := rfl
theorem i13_91 : mm_cd 13 91 = some (.aload_n 1, 1, 0, 0) := rfl
theorem i13_92 : mm_cd 13 92 = some (.getfield 34, 3, ((1 : Nat) : Int), 7) := rfl
theorem i13_95 : mm_cd 13 95 = some (.iconst 0, 1, 0, 0) := rfl
theorem i13_96 : mm_cd 13 96 = some (.aload_n 0, 1, 0, 0) := rfl
theorem i13_97 : mm_cd 13 97 = some (.getfield 34, 3, ((1 : Nat) : Int), 7) := rfl
theorem i13_100 : mm_cd 13 100 = some (.iconst 0, 1, 0, 0) := rfl
theorem i13_101 : mm_cd 13 101 = some (.bipush 120, 2, 0, 0) := rfl
theorem i13_103 : mm_cd 13 103 = some (.invokestatic 40, 3, 1, 0) := rfl
theorem i13_106 : mm_cd 13 106 = some (.return_, 1, 0, 0) := rfl
/-- SerialGate$History.copyFrom(LSerialGate$History;)V -/
def q13 (a : Nat) (b : Nat) (s : mS) : Option mQ := sp (sI s a 0 (s.1 b 0)) fun s1 => sp (sI s1 a 1 (s1.1 b 1)) fun s2 => gC 12 12 (0 : Int32) (0 : Int32) (12 : Int32) <| sp (sC s2 (b + 1) (a + 1) (0 : Int32).toNatClampNeg (0 : Int32).toNatClampNeg (12 : Int32).toNatClampNeg) fun s3 => gC 12 12 (0 : Int32) (0 : Int32) (12 : Int32) <| sp (sC s3 (b + 2) (a + 2) (0 : Int32).toNatClampNeg (0 : Int32).toNatClampNeg (12 : Int32).toNatClampNeg) fun s4 => gC 12 12 (0 : Int32) (0 : Int32) (12 : Int32) <| sp (sC s4 (b + 3) (a + 3) (0 : Int32).toNatClampNeg (0 : Int32).toNatClampNeg (12 : Int32).toNatClampNeg) fun s5 => gC 12 12 (0 : Int32) (0 : Int32) (12 : Int32) <| sp (sC s5 (b + 4) (a + 4) (0 : Int32).toNatClampNeg (0 : Int32).toNatClampNeg (12 : Int32).toNatClampNeg) fun s6 => gC 120 120 (0 : Int32) (0 : Int32) (120 : Int32) <| sp (sC s6 (b + 5) (a + 5) (0 : Int32).toNatClampNeg (0 : Int32).toNatClampNeg (120 : Int32).toNatClampNeg) fun s7 => gC 120 120 (0 : Int32) (0 : Int32) (120 : Int32) <| sp (sC s7 (b + 6) (a + 6) (0 : Int32).toNatClampNeg (0 : Int32).toNatClampNeg (120 : Int32).toNatClampNeg) fun s8 => ru s8
theorem c13 {L : Nat} {xs : Nat → Int32} {a : Nat} {b : Nat} (ma : a ∈ A1) (mb : b ∈ A1) {s : mS} {r : mQ} (h : q13 a b s = some r) : ∀ d, 0 ≤ d → Cl L xs d 13 [.ref a, .ref b] (hp s) (hr r) := by
  intro d hd
  show Ev L xs d 13 0 [(0, .ref a), (1, .ref b)] [] (hp s) (hr r)
  unfold q13 at h
  refine Ev.aload_n H13 i13_0 rfl ?_
  refine Ev.aload_n H13 i13_1 rfl ?_
  refine Rd.getI H13 i13_2 (ob1 mb) rfl ?_
  refine Rd.putI H13 i13_5 (ob1 ma) rfl ty1_0.1 ty1_0.2 h (fun s1 h => ?_)
  refine Ev.aload_n H13 i13_8 rfl ?_
  refine Ev.aload_n H13 i13_9 rfl ?_
  refine Rd.getI H13 i13_10 (ob1 mb) rfl ?_
  refine Rd.putI H13 i13_13 (ob1 ma) rfl ty1_1.1 ty1_1.2 h (fun s2 h => ?_)
  refine Ev.aload_n H13 i13_16 rfl ?_
  refine Rd.getR H13 i13_17 (ob1 mb) rfl ?_
  refine Ev.iconst H13 i13_20 kI_0 ?_
  refine Ev.aload_n H13 i13_21 rfl ?_
  refine Rd.getR H13 i13_22 (ob1 ma) rfl ?_
  refine Ev.iconst H13 i13_25 kI_0 ?_
  refine Ev.bipush H13 i13_26 kB_12 ?_
  refine Rd.copy H13 i13_28 (ar1_1 mb) (ar1_1 ma) (Nat.le_of_ble_eq_true rfl) h (fun s3 h => ?_)
  refine Ev.aload_n H13 i13_31 rfl ?_
  refine Rd.getR H13 i13_32 (ob1 mb) rfl ?_
  refine Ev.iconst H13 i13_35 kI_0 ?_
  refine Ev.aload_n H13 i13_36 rfl ?_
  refine Rd.getR H13 i13_37 (ob1 ma) rfl ?_
  refine Ev.iconst H13 i13_40 kI_0 ?_
  refine Ev.bipush H13 i13_41 kB_12 ?_
  refine Rd.copy H13 i13_43 (ar1_2 mb) (ar1_2 ma) (Nat.le_of_ble_eq_true rfl) h (fun s4 h => ?_)
  refine Ev.aload_n H13 i13_46 rfl ?_
  refine Rd.getR H13 i13_47 (ob1 mb) rfl ?_
  refine Ev.iconst H13 i13_50 kI_0 ?_
  refine Ev.aload_n H13 i13_51 rfl ?_
  refine Rd.getR H13 i13_52 (ob1 ma) rfl ?_
  refine Ev.iconst H13 i13_55 kI_0 ?_
  refine Ev.bipush H13 i13_56 kB_12 ?_
  refine Rd.copy H13 i13_58 (ar1_3 mb) (ar1_3 ma) (Nat.le_of_ble_eq_true rfl) h (fun s5 h => ?_)
  refine Ev.aload_n H13 i13_61 rfl ?_
  refine Rd.getR H13 i13_62 (ob1 mb) rfl ?_
  refine Ev.iconst H13 i13_65 kI_0 ?_
  refine Ev.aload_n H13 i13_66 rfl ?_
  refine Rd.getR H13 i13_67 (ob1 ma) rfl ?_
  refine Ev.iconst H13 i13_70 kI_0 ?_
  refine Ev.bipush H13 i13_71 kB_12 ?_
  refine Rd.copy H13 i13_73 (ar1_4 mb) (ar1_4 ma) (Nat.le_of_ble_eq_true rfl) h (fun s6 h => ?_)
  refine Ev.aload_n H13 i13_76 rfl ?_
  refine Rd.getR H13 i13_77 (ob1 mb) rfl ?_
  refine Ev.iconst H13 i13_80 kI_0 ?_
  refine Ev.aload_n H13 i13_81 rfl ?_
  refine Rd.getR H13 i13_82 (ob1 ma) rfl ?_
  refine Ev.iconst H13 i13_85 kI_0 ?_
  refine Ev.bipush H13 i13_86 kB_120 ?_
  refine Rd.copy H13 i13_88 (ar1_5 mb) (ar1_5 ma) (Nat.le_of_ble_eq_true rfl) h (fun s7 h => ?_)
  refine Ev.aload_n H13 i13_91 rfl ?_
  refine Rd.getR H13 i13_92 (ob1 mb) rfl ?_
  refine Ev.iconst H13 i13_95 kI_0 ?_
  refine Ev.aload_n H13 i13_96 rfl ?_
  refine Rd.getR H13 i13_97 (ob1 ma) rfl ?_
  refine Ev.iconst H13 i13_100 kI_0 ?_
  refine Ev.bipush H13 i13_101 kB_120 ?_
  refine Rd.copy H13 i13_103 (ar1_6 mb) (ar1_6 ma) (Nat.le_of_ble_eq_true rfl) h (fun s8 h => ?_)
  exact Rd.return_ H13 i13_106 rfl h
theorem i14_0 : mm_cd 14 0 = some (.aload_n 0, 1, 0, 0) := rfl
theorem i14_1 : mm_cd 14 1 = some (.getfield 15, 3, ((1 : Nat) : Int), 1) := rfl
theorem i14_4 : mm_cd 14 4 = some (.iload_n 1, 1, 0, 0) := rfl
theorem i14_5 : mm_cd 14 5 = some (.iadd, 1, 0, 0) := rfl
theorem i14_6 : mm_cd 14 6 = some (.bipush 12, 2, 0, 0) := rfl
theorem i14_8 : mm_cd 14 8 = some (.irem, 1, 0, 0) := rfl
theorem i14_9 : mm_cd 14 9 = some (.ireturn, 1, 0, 0) := rfl
/-- SerialGate$History.placeOf(I)I -/
def q14 (a : Nat) (v1 : Int32) (s : mS) : Option mQ := gZ (12 : Int32) <| rv (rmI ((s.1 a 1) + v1) (12 : Int32)) s
theorem c14 {L : Nat} {xs : Nat → Int32} {a : Nat} (ma : a ∈ A1) {v1 : Int32} {s : mS} {r : mQ} (h : q14 a v1 s = some r) : ∀ d, 0 ≤ d → Cl L xs d 14 [.ref a, .int v1] (hp s) (hr r) := by
  intro d hd
  show Ev L xs d 14 0 [(0, .ref a), (1, .int v1)] [] (hp s) (hr r)
  unfold q14 at h
  refine Ev.aload_n H14 i14_0 rfl ?_
  refine Rd.getI H14 i14_1 (ob1 ma) rfl ?_
  refine Ev.iload_n H14 i14_4 rfl ?_
  refine Ev.iadd H14 i14_5 ?_
  refine Ev.bipush H14 i14_6 kB_12 ?_
  refine Rd.irem H14 i14_8 h (fun h => ?_)
  exact Rd.ireturn H14 i14_9 rfl h
theorem i15_0 : mm_cd 15 0 = some (.aload_n 0, 1, 0, 0) := rfl
theorem i15_1 : mm_cd 15 1 = some (.aload_n 0, 1, 0, 0) := rfl
theorem i15_2 : mm_cd 15 2 = some (.getfield 9, 3, ((1 : Nat) : Int), 0) := rfl
theorem i15_5 : mm_cd 15 5 = some (.invokevirtual 46, 3, 0, 14) := rfl
theorem i15_8 : mm_cd 15 8 = some (.istore 4, 2, 0, 0) := rfl
theorem i15_10 : mm_cd 15 10 = some (.aload_n 0, 1, 0, 0) := rfl
theorem i15_11 : mm_cd 15 11 = some (.getfield 9, 3, ((1 : Nat) : Int), 0) := rfl
theorem i15_14 : mm_cd 15 14 = some (.bipush 12, 2, 0, 0) := rfl
theorem i15_16 : mm_cd 15 16 = some (.if_icmp .ge 16, 3, 0, 0) := rfl
theorem i15_19 : mm_cd 15 19 = some (.aload_n 0, 1, 0, 0) := rfl
theorem i15_20 : mm_cd 15 20 = some (.dup, 1, 0, 0) := rfl
theorem i15_21 : mm_cd 15 21 = some (.getfield 9, 3, ((1 : Nat) : Int), 0) := rfl
theorem i15_24 : mm_cd 15 24 = some (.iconst 1, 1, 0, 0) := rfl
theorem i15_25 : mm_cd 15 25 = some (.iadd, 1, 0, 0) := rfl
theorem i15_26 : mm_cd 15 26 = some (.putfield 9, 3, ((1 : Nat) : Int), 0) := rfl
theorem i15_29 : mm_cd 15 29 = some (.goto 12, 3, 0, 0) := rfl
theorem i15_32 : mm_cd 15 32 = some (.aload_n 0, 1, 0, 0) := rfl
theorem i15_33 : mm_cd 15 33 = some (.aload_n 0, 1, 0, 0) := rfl
theorem i15_34 : mm_cd 15 34 = some (.iconst 1, 1, 0, 0) := rfl
theorem i15_35 : mm_cd 15 35 = some (.invokevirtual 46, 3, 0, 14) := rfl
theorem i15_38 : mm_cd 15 38 = some (.putfield 15, 3, ((1 : Nat) : Int), 1) := rfl
theorem i15_41 : mm_cd 15 41 = some (.aload_n 0, 1, 0, 0) := rfl
theorem i15_42 : mm_cd 15 42 = some (.getfield 18, 3, ((1 : Nat) : Int), 2) := rfl
theorem i15_45 : mm_cd 15 45 = some (.iload 4, 2, 0, 0) := rfl
theorem i15_47 : mm_cd 15 47 = some (.aload_n 1, 1, 0, 0) := rfl
theorem i15_48 : mm_cd 15 48 = some (.getfield 50, 3, ((6 : Nat) : Int), 4) := rfl
theorem i15_51 : mm_cd 15 51 = some (.iload_n 2, 1, 0, 0) := rfl
theorem i15_52 : mm_cd 15 52 = some (.iaload, 1, 0, 0) := rfl
theorem i15_53 : mm_cd 15 53 = some (.iastore, 1, 0, 0) := rfl
theorem i15_54 : mm_cd 15 54 = some (.aload_n 0, 1, 0, 0) := rfl
theorem i15_55 : mm_cd 15 55 = some (.getfield 22, 3, ((1 : Nat) : Int), 3) := rfl
theorem i15_58 : mm_cd 15 58 = some (.iload 4, 2, 0, 0) := rfl
theorem i15_60 : mm_cd 15 60 = some (.aload_n 1, 1, 0, 0) := rfl
theorem i15_61 : mm_cd 15 61 = some (.getfield 53, 3, ((6 : Nat) : Int), 6) := rfl
theorem i15_64 : mm_cd 15 64 = some (.iload_n 2, 1, 0, 0) := rfl
theorem i15_65 : mm_cd 15 65 = some (.iaload, 1, 0, 0) := rfl
theorem i15_66 : mm_cd 15 66 = some (.iastore, 1, 0, 0) := rfl
theorem i15_67 : mm_cd 15 67 = some (.aload_n 0, 1, 0, 0) := rfl
theorem i15_68 : mm_cd 15 68 = some (.getfield 25, 3, ((1 : Nat) : Int), 4) := rfl
theorem i15_71 : mm_cd 15 71 = some (.iload 4, 2, 0, 0) := rfl
theorem i15_73 : mm_cd 15 73 = some (.aload_n 1, 1, 0, 0) := rfl
theorem i15_74 : mm_cd 15 74 = some (.getfield 54, 3, ((6 : Nat) : Int), 7) := rfl
theorem i15_77 : mm_cd 15 77 = some (.iload_n 2, 1, 0, 0) := rfl
theorem i15_78 : mm_cd 15 78 = some (.iaload, 1, 0, 0) := rfl
theorem i15_79 : mm_cd 15 79 = some (.iastore, 1, 0, 0) := rfl
theorem i15_80 : mm_cd 15 80 = some (.aload_n 0, 1, 0, 0) := rfl
theorem i15_81 : mm_cd 15 81 = some (.getfield 28, 3, ((1 : Nat) : Int), 5) := rfl
theorem i15_84 : mm_cd 15 84 = some (.iload 4, 2, 0, 0) := rfl
theorem i15_86 : mm_cd 15 86 = some (.aload_n 1, 1, 0, 0) := rfl
theorem i15_87 : mm_cd 15 87 = some (.getfield 57, 3, ((6 : Nat) : Int), 9) := rfl
theorem i15_90 : mm_cd 15 90 = some (.iload_n 2, 1, 0, 0) := rfl
theorem i15_91 : mm_cd 15 91 = some (.iaload, 1, 0, 0) := rfl
theorem i15_92 : mm_cd 15 92 = some (.iastore, 1, 0, 0) := rfl
theorem i15_93 : mm_cd 15 93 = some (.aload_n 1, 1, 0, 0) := rfl
theorem i15_94 : mm_cd 15 94 = some (.getfield 60, 3, ((6 : Nat) : Int), 14) := rfl
theorem i15_97 : mm_cd 15 97 = some (.iload_n 2, 1, 0, 0) := rfl
theorem i15_98 : mm_cd 15 98 = some (.bipush 10, 2, 0, 0) := rfl
theorem i15_100 : mm_cd 15 100 = some (.imul, 1, 0, 0) := rfl
theorem i15_101 : mm_cd 15 101 = some (.aload_n 0, 1, 0, 0) := rfl
theorem i15_102 : mm_cd 15 102 = some (.getfield 31, 3, ((1 : Nat) : Int), 6) := rfl
theorem i15_105 : mm_cd 15 105 = some (.iload 4, 2, 0, 0) := rfl
theorem i15_107 : mm_cd 15 107 = some (.bipush 10, 2, 0, 0) := rfl
theorem i15_109 : mm_cd 15 109 = some (.imul, 1, 0, 0) := rfl
theorem i15_110 : mm_cd 15 110 = some (.bipush 10, 2, 0, 0) := rfl
theorem i15_112 : mm_cd 15 112 = some (.invokestatic 40, 3, 1, 0) := rfl
theorem i15_115 : mm_cd 15 115 = some (.aload_n 3, 1, 0, 0) := rfl
theorem i15_116 : mm_cd 15 116 = some (.iconst 0, 1, 0, 0) := rfl
theorem i15_117 : mm_cd 15 117 = some (.aload_n 0, 1, 0, 0) := rfl
theorem i15_118 : mm_cd 15 118 = some (.getfield 34, 3, ((1 : Nat) : Int), 7) := rfl
theorem i15_121 : mm_cd 15 121 = some (.iload 4, 2, 0, 0) := rfl
theorem i15_123 : mm_cd 15 123 = some (.bipush 10, 2, 0, 0) := rfl
theorem i15_125 : mm_cd 15 125 = some (.imul, 1, 0, 0) := rfl
theorem i15_126 : mm_cd 15 126 = some (.bipush 10, 2, 0, 0) := rfl
theorem i15_128 : mm_cd 15 128 = some (.invokestatic 40, 3, 1, 0) := rfl
theorem i15_131 : mm_cd 15 131 = some (.return_, 1, 0, 0) := rfl
def q15_41 (a : Nat) (b : Nat) (c : Nat) (v2 : Int32) (v4 : Int32) (s : mS) : Option mQ := gA 8 v2 <| gA 12 v4 <| sp (sI s (a + 1) v4.toNatClampNeg (s.1 (b + 1) v2.toNatClampNeg)) fun s1 => gA 8 v2 <| gA 12 v4 <| sp (sI s1 (a + 2) v4.toNatClampNeg (s1.1 (b + 3) v2.toNatClampNeg)) fun s2 => gA 8 v2 <| gA 12 v4 <| sp (sI s2 (a + 3) v4.toNatClampNeg (s2.1 (b + 4) v2.toNatClampNeg)) fun s3 => gA 8 v2 <| gA 12 v4 <| sp (sI s3 (a + 4) v4.toNatClampNeg (s3.1 (b + 6) v2.toNatClampNeg)) fun s4 => gC 80 120 (v2 * (10 : Int32)) (v4 * (10 : Int32)) (10 : Int32) <| sp (sC s4 (b + 11) (a + 5) (v2 * (10 : Int32)).toNatClampNeg (v4 * (10 : Int32)).toNatClampNeg (10 : Int32).toNatClampNeg) fun s5 => gC 10 120 (0 : Int32) (v4 * (10 : Int32)) (10 : Int32) <| sp (sC s5 c (a + 6) (0 : Int32).toNatClampNeg (v4 * (10 : Int32)).toNatClampNeg (10 : Int32).toNatClampNeg) fun s6 => ru s6
theorem t15_41 {L : Nat} {xs : Nat → Int32} {d : Nat} {a : Nat} {b : Nat} {c : Nat} (ma : a ∈ A1) (mb : b ∈ A6) (mc : mm_ar c 0 10) (hd : 1 ≤ d) {v2 : Int32} {v4 : Int32} {s : mS} {r : mQ} (h : q15_41 a b c v2 v4 s = some r) : Ev L xs d 15 41 [(0, .ref a), (1, .ref b), (2, .int v2), (3, .ref c), (4, .int v4)] [] (hp s) (hr r) := by
  unfold q15_41 at h
  refine Ev.aload_n H15 i15_41 rfl ?_
  refine Rd.getR H15 i15_42 (ob1 ma) rfl ?_
  refine Ev.iload H15 i15_45 rfl ?_
  refine Ev.aload_n H15 i15_47 rfl ?_
  refine Rd.getR H15 i15_48 (ob6 mb) rfl ?_
  refine Ev.iload_n H15 i15_51 rfl ?_
  refine Rd.iaload H15 i15_52 (ar6_1 mb) h (fun h => ?_)
  refine Rd.iastore H15 i15_53 (ar1_1 ma) h (fun s1 h => ?_)
  refine Ev.aload_n H15 i15_54 rfl ?_
  refine Rd.getR H15 i15_55 (ob1 ma) rfl ?_
  refine Ev.iload H15 i15_58 rfl ?_
  refine Ev.aload_n H15 i15_60 rfl ?_
  refine Rd.getR H15 i15_61 (ob6 mb) rfl ?_
  refine Ev.iload_n H15 i15_64 rfl ?_
  refine Rd.iaload H15 i15_65 (ar6_3 mb) h (fun h => ?_)
  refine Rd.iastore H15 i15_66 (ar1_2 ma) h (fun s2 h => ?_)
  refine Ev.aload_n H15 i15_67 rfl ?_
  refine Rd.getR H15 i15_68 (ob1 ma) rfl ?_
  refine Ev.iload H15 i15_71 rfl ?_
  refine Ev.aload_n H15 i15_73 rfl ?_
  refine Rd.getR H15 i15_74 (ob6 mb) rfl ?_
  refine Ev.iload_n H15 i15_77 rfl ?_
  refine Rd.iaload H15 i15_78 (ar6_4 mb) h (fun h => ?_)
  refine Rd.iastore H15 i15_79 (ar1_3 ma) h (fun s3 h => ?_)
  refine Ev.aload_n H15 i15_80 rfl ?_
  refine Rd.getR H15 i15_81 (ob1 ma) rfl ?_
  refine Ev.iload H15 i15_84 rfl ?_
  refine Ev.aload_n H15 i15_86 rfl ?_
  refine Rd.getR H15 i15_87 (ob6 mb) rfl ?_
  refine Ev.iload_n H15 i15_90 rfl ?_
  refine Rd.iaload H15 i15_91 (ar6_6 mb) h (fun h => ?_)
  refine Rd.iastore H15 i15_92 (ar1_4 ma) h (fun s4 h => ?_)
  refine Ev.aload_n H15 i15_93 rfl ?_
  refine Rd.getR H15 i15_94 (ob6 mb) rfl ?_
  refine Ev.iload_n H15 i15_97 rfl ?_
  refine Ev.bipush H15 i15_98 kB_10 ?_
  refine Ev.imul H15 i15_100 ?_
  refine Ev.aload_n H15 i15_101 rfl ?_
  refine Rd.getR H15 i15_102 (ob1 ma) rfl ?_
  refine Ev.iload H15 i15_105 rfl ?_
  refine Ev.bipush H15 i15_107 kB_10 ?_
  refine Ev.imul H15 i15_109 ?_
  refine Ev.bipush H15 i15_110 kB_10 ?_
  refine Rd.copy H15 i15_112 (ar6_11 mb) (ar1_5 ma) (Nat.le_of_ble_eq_true rfl) h (fun s5 h => ?_)
  refine Ev.aload_n H15 i15_115 rfl ?_
  refine Ev.iconst H15 i15_116 kI_0 ?_
  refine Ev.aload_n H15 i15_117 rfl ?_
  refine Rd.getR H15 i15_118 (ob1 ma) rfl ?_
  refine Ev.iload H15 i15_121 rfl ?_
  refine Ev.bipush H15 i15_123 kB_10 ?_
  refine Ev.imul H15 i15_125 ?_
  refine Ev.bipush H15 i15_126 kB_10 ?_
  refine Rd.copy H15 i15_128 mc (ar1_6 ma) (Nat.le_of_ble_eq_true rfl) h (fun s6 h => ?_)
  exact Rd.return_ H15 i15_131 rfl h
/-- SerialGate$History.add(LSerialGate$Slots;I[I)V -/
def q15 (a : Nat) (b : Nat) (c : Nat) (v2 : Int32) (s : mS) : Option mQ := bN (q14 a (s.1 a 0) s) fun x8 s7 => if (12 : Int32) ≤ (s7.1 a 0) then (bN (q14 a (1 : Int32) s7) fun x10 s9 => sp (sI s9 a 1 x10) fun s11 => q15_41 a b c v2 x8 s11) else (sp (sI s7 a 0 ((s7.1 a 0) + (1 : Int32))) fun s12 => q15_41 a b c v2 x8 s12)
theorem c15 {L : Nat} {xs : Nat → Int32} {a : Nat} {b : Nat} {c : Nat} (ma : a ∈ A1) (mb : b ∈ A6) (mc : mm_ar c 0 10) {v2 : Int32} {s : mS} {r : mQ} (h : q15 a b c v2 s = some r) : ∀ d, 1 ≤ d → Cl L xs d 15 [.ref a, .ref b, .int v2, .ref c] (hp s) (hr r) := by
  intro d hd
  show Ev L xs d 15 0 [(0, .ref a), (1, .ref b), (2, .int v2), (3, .ref c)] [] (hp s) (hr r)
  unfold q15 at h
  refine Ev.aload_n H15 i15_0 rfl ?_
  refine Ev.aload_n H15 i15_1 rfl ?_
  refine Rd.getI H15 i15_2 (ob1 ma) rfl ?_
  refine Rd.cV1vN H15 i15_5 cal14 (ob1 ma) (Nat.le_of_ble_eq_true rfl) (Nat.le_of_ble_eq_true rfl) (Nat.lt_of_lt_of_le (by decide) hd) (fun q hq => c14 ma hq) h (fun x8 s7 h => ?_)
  refine Ev.istore H15 i15_8 (Nat.le_of_ble_eq_true rfl) (lv2 := [(4, .int x8), (0, .ref a), (1, .ref b), (2, .int v2), (3, .ref c)]) rfl ?_
  refine Ev.aload_n H15 i15_10 rfl ?_
  refine Rd.getI H15 i15_11 (ob1 ma) rfl ?_
  refine Ev.bipush H15 i15_14 kB_12 ?_
  refine Rd.ic_ge H15 i15_16 (t := 32) (by decide) h (fun hc h => ?_) (fun hc h => ?_)
  · refine Ev.aload_n H15 i15_32 rfl ?_
    refine Ev.aload_n H15 i15_33 rfl ?_
    refine Ev.iconst H15 i15_34 kI_1 ?_
    refine Rd.cV1vN H15 i15_35 cal14 (ob1 ma) (Nat.le_of_ble_eq_true rfl) (Nat.le_of_ble_eq_true rfl) (Nat.lt_of_lt_of_le (by decide) hd) (fun q hq => c14 ma hq) h (fun x10 s9 h => ?_)
    refine Rd.putI H15 i15_38 (ob1 ma) rfl ty1_1.1 ty1_1.2 h (fun s11 h => ?_)
    exact Ev.sub (l := [(0, .ref a), (1, .ref b), (2, .int v2), (3, .ref c), (4, .int x8)]) rfl rfl (mm_sub_c rfl (mm_sub_c rfl (mm_sub_c rfl (mm_sub_c rfl (mm_sub_c rfl mm_sub_n))))) (t15_41 ma mb mc hd h)
  · refine Ev.aload_n H15 i15_19 rfl ?_
    refine Ev.dup H15 i15_20 rfl ?_
    refine Rd.getI H15 i15_21 (ob1 ma) rfl ?_
    refine Ev.iconst H15 i15_24 kI_1 ?_
    refine Ev.iadd H15 i15_25 ?_
    refine Rd.putI H15 i15_26 (ob1 ma) rfl ty1_0.1 ty1_0.2 h (fun s12 h => ?_)
    refine Ev.goto H15 i15_29 (t := 41) (by decide) ?_
    exact Ev.sub (l := [(0, .ref a), (1, .ref b), (2, .int v2), (3, .ref c), (4, .int x8)]) rfl rfl (mm_sub_c rfl (mm_sub_c rfl (mm_sub_c rfl (mm_sub_c rfl (mm_sub_c rfl mm_sub_n))))) (t15_41 ma mb mc hd h)
theorem i19_0 : mm_cd 19 0 = some (.iconst 0, 1, 0, 0) := rfl
theorem i19_1 : mm_cd 19 1 = some (.istore_n 3, 1, 0, 0) := rfl
theorem i19_2 : mm_cd 19 2 = some (.iload_n 3, 1, 0, 0) := rfl
theorem i19_3 : mm_cd 19 3 = some (.bipush 10, 2, 0, 0) := rfl
theorem i19_5 : mm_cd 19 5 = some (.if_icmp .ge 188, 3, 0, 0) := rfl
theorem i19_8 : mm_cd 19 8 = some (.aload_n 0, 1, 0, 0) := rfl
theorem i19_9 : mm_cd 19 9 = some (.getfield 28, 3, ((1 : Nat) : Int), 5) := rfl
theorem i19_12 : mm_cd 19 12 = some (.iload_n 1, 1, 0, 0) := rfl
theorem i19_13 : mm_cd 19 13 = some (.iaload, 1, 0, 0) := rfl
theorem i19_14 : mm_cd 19 14 = some (.iload_n 3, 1, 0, 0) := rfl
theorem i19_15 : mm_cd 19 15 = some (.ishr, 1, 0, 0) := rfl
theorem i19_16 : mm_cd 19 16 = some (.iconst 1, 1, 0, 0) := rfl
theorem i19_17 : mm_cd 19 17 = some (.iand, 1, 0, 0) := rfl
theorem i19_18 : mm_cd 19 18 = some (.ifCond .eq 7, 3, 0, 0) := rfl
theorem i19_21 : mm_cd 19 21 = some (.iconst 1, 1, 0, 0) := rfl
theorem i19_22 : mm_cd 19 22 = some (.goto 4, 3, 0, 0) := rfl
theorem i19_25 : mm_cd 19 25 = some (.iconst 0, 1, 0, 0) := rfl
theorem i19_26 : mm_cd 19 26 = some (.istore 4, 2, 0, 0) := rfl
theorem i19_28 : mm_cd 19 28 = some (.aload_n 0, 1, 0, 0) := rfl
theorem i19_29 : mm_cd 19 29 = some (.getfield 28, 3, ((1 : Nat) : Int), 5) := rfl
theorem i19_32 : mm_cd 19 32 = some (.iload_n 2, 1, 0, 0) := rfl
theorem i19_33 : mm_cd 19 33 = some (.iaload, 1, 0, 0) := rfl
theorem i19_34 : mm_cd 19 34 = some (.iload_n 3, 1, 0, 0) := rfl
theorem i19_35 : mm_cd 19 35 = some (.ishr, 1, 0, 0) := rfl
theorem i19_36 : mm_cd 19 36 = some (.iconst 1, 1, 0, 0) := rfl
theorem i19_37 : mm_cd 19 37 = some (.iand, 1, 0, 0) := rfl
theorem i19_38 : mm_cd 19 38 = some (.ifCond .eq 7, 3, 0, 0) := rfl
theorem i19_41 : mm_cd 19 41 = some (.iconst 1, 1, 0, 0) := rfl
theorem i19_42 : mm_cd 19 42 = some (.goto 4, 3, 0, 0) := rfl
theorem i19_45 : mm_cd 19 45 = some (.iconst 0, 1, 0, 0) := rfl
theorem i19_46 : mm_cd 19 46 = some (.istore 5, 2, 0, 0) := rfl
theorem i19_48 : mm_cd 19 48 = some (.aload_n 0, 1, 0, 0) := rfl
theorem i19_49 : mm_cd 19 49 = some (.getfield 25, 3, ((1 : Nat) : Int), 4) := rfl
theorem i19_52 : mm_cd 19 52 = some (.iload_n 1, 1, 0, 0) := rfl
theorem i19_53 : mm_cd 19 53 = some (.iaload, 1, 0, 0) := rfl
theorem i19_54 : mm_cd 19 54 = some (.iload_n 3, 1, 0, 0) := rfl
theorem i19_55 : mm_cd 19 55 = some (.ishr, 1, 0, 0) := rfl
theorem i19_56 : mm_cd 19 56 = some (.iconst 1, 1, 0, 0) := rfl
theorem i19_57 : mm_cd 19 57 = some (.iand, 1, 0, 0) := rfl
theorem i19_58 : mm_cd 19 58 = some (.ifCond .eq 7, 3, 0, 0) := rfl
theorem i19_61 : mm_cd 19 61 = some (.iconst 1, 1, 0, 0) := rfl
theorem i19_62 : mm_cd 19 62 = some (.goto 4, 3, 0, 0) := rfl
theorem i19_65 : mm_cd 19 65 = some (.iconst 0, 1, 0, 0) := rfl
theorem i19_66 : mm_cd 19 66 = some (.istore 6, 2, 0, 0) := rfl
theorem i19_68 : mm_cd 19 68 = some (.aload_n 0, 1, 0, 0) := rfl
theorem i19_69 : mm_cd 19 69 = some (.getfield 25, 3, ((1 : Nat) : Int), 4) := rfl
theorem i19_72 : mm_cd 19 72 = some (.iload_n 2, 1, 0, 0) := rfl
theorem i19_73 : mm_cd 19 73 = some (.iaload, 1, 0, 0) := rfl
theorem i19_74 : mm_cd 19 74 = some (.iload_n 3, 1, 0, 0) := rfl
theorem i19_75 : mm_cd 19 75 = some (.ishr, 1, 0, 0) := rfl
theorem i19_76 : mm_cd 19 76 = some (.iconst 1, 1, 0, 0) := rfl
theorem i19_77 : mm_cd 19 77 = some (.iand, 1, 0, 0) := rfl
theorem i19_78 : mm_cd 19 78 = some (.ifCond .eq 7, 3, 0, 0) := rfl
theorem i19_81 : mm_cd 19 81 = some (.iconst 1, 1, 0, 0) := rfl
theorem i19_82 : mm_cd 19 82 = some (.goto 4, 3, 0, 0) := rfl
theorem i19_85 : mm_cd 19 85 = some (.iconst 0, 1, 0, 0) := rfl
theorem i19_86 : mm_cd 19 86 = some (.istore 7, 2, 0, 0) := rfl
theorem i19_88 : mm_cd 19 88 = some (.iload_n 1, 1, 0, 0) := rfl
theorem i19_89 : mm_cd 19 89 = some (.bipush 10, 2, 0, 0) := rfl
theorem i19_91 : mm_cd 19 91 = some (.imul, 1, 0, 0) := rfl
theorem i19_92 : mm_cd 19 92 = some (.iload_n 3, 1, 0, 0) := rfl
theorem i19_93 : mm_cd 19 93 = some (.iadd, 1, 0, 0) := rfl
theorem i19_94 : mm_cd 19 94 = some (.istore 8, 2, 0, 0) := rfl
theorem i19_96 : mm_cd 19 96 = some (.iload_n 2, 1, 0, 0) := rfl
theorem i19_97 : mm_cd 19 97 = some (.bipush 10, 2, 0, 0) := rfl
theorem i19_99 : mm_cd 19 99 = some (.imul, 1, 0, 0) := rfl
theorem i19_100 : mm_cd 19 100 = some (.iload_n 3, 1, 0, 0) := rfl
theorem i19_101 : mm_cd 19 101 = some (.iadd, 1, 0, 0) := rfl
theorem i19_102 : mm_cd 19 102 = some (.istore 9, 2, 0, 0) := rfl
theorem i19_104 : mm_cd 19 104 = some (.iload 4, 2, 0, 0) := rfl
theorem i19_106 : mm_cd 19 106 = some (.ifCond .eq 25, 3, 0, 0) := rfl
theorem i19_109 : mm_cd 19 109 = some (.iload 7, 2, 0, 0) := rfl
theorem i19_111 : mm_cd 19 111 = some (.ifCond .eq 20, 3, 0, 0) := rfl
theorem i19_114 : mm_cd 19 114 = some (.aload_n 0, 1, 0, 0) := rfl
theorem i19_115 : mm_cd 19 115 = some (.getfield 34, 3, ((1 : Nat) : Int), 7) := rfl
theorem i19_118 : mm_cd 19 118 = some (.iload 8, 2, 0, 0) := rfl
theorem i19_120 : mm_cd 19 120 = some (.iaload, 1, 0, 0) := rfl
theorem i19_121 : mm_cd 19 121 = some (.aload_n 0, 1, 0, 0) := rfl
theorem i19_122 : mm_cd 19 122 = some (.getfield 31, 3, ((1 : Nat) : Int), 6) := rfl
theorem i19_125 : mm_cd 19 125 = some (.iload 9, 2, 0, 0) := rfl
theorem i19_127 : mm_cd 19 127 = some (.iaload, 1, 0, 0) := rfl
theorem i19_128 : mm_cd 19 128 = some (.if_icmp .le 57, 3, 0, 0) := rfl
theorem i19_131 : mm_cd 19 131 = some (.iload 6, 2, 0, 0) := rfl
theorem i19_133 : mm_cd 19 133 = some (.ifCond .eq 25, 3, 0, 0) := rfl
theorem i19_136 : mm_cd 19 136 = some (.iload 5, 2, 0, 0) := rfl
theorem i19_138 : mm_cd 19 138 = some (.ifCond .eq 20, 3, 0, 0) := rfl
theorem i19_141 : mm_cd 19 141 = some (.aload_n 0, 1, 0, 0) := rfl
theorem i19_142 : mm_cd 19 142 = some (.getfield 31, 3, ((1 : Nat) : Int), 6) := rfl
theorem i19_145 : mm_cd 19 145 = some (.iload 8, 2, 0, 0) := rfl
theorem i19_147 : mm_cd 19 147 = some (.iaload, 1, 0, 0) := rfl
theorem i19_148 : mm_cd 19 148 = some (.aload_n 0, 1, 0, 0) := rfl
theorem i19_149 : mm_cd 19 149 = some (.getfield 34, 3, ((1 : Nat) : Int), 7) := rfl
theorem i19_152 : mm_cd 19 152 = some (.iload 9, 2, 0, 0) := rfl
theorem i19_154 : mm_cd 19 154 = some (.iaload, 1, 0, 0) := rfl
theorem i19_155 : mm_cd 19 155 = some (.if_icmp .lt 30, 3, 0, 0) := rfl
theorem i19_158 : mm_cd 19 158 = some (.iload 4, 2, 0, 0) := rfl
theorem i19_160 : mm_cd 19 160 = some (.ifCond .eq 27, 3, 0, 0) := rfl
theorem i19_163 : mm_cd 19 163 = some (.iload 5, 2, 0, 0) := rfl
theorem i19_165 : mm_cd 19 165 = some (.ifCond .eq 22, 3, 0, 0) := rfl
theorem i19_168 : mm_cd 19 168 = some (.aload_n 0, 1, 0, 0) := rfl
theorem i19_169 : mm_cd 19 169 = some (.getfield 34, 3, ((1 : Nat) : Int), 7) := rfl
theorem i19_172 : mm_cd 19 172 = some (.iload 8, 2, 0, 0) := rfl
theorem i19_174 : mm_cd 19 174 = some (.iaload, 1, 0, 0) := rfl
theorem i19_175 : mm_cd 19 175 = some (.aload_n 0, 1, 0, 0) := rfl
theorem i19_176 : mm_cd 19 176 = some (.getfield 34, 3, ((1 : Nat) : Int), 7) := rfl
theorem i19_179 : mm_cd 19 179 = some (.iload 9, 2, 0, 0) := rfl
theorem i19_181 : mm_cd 19 181 = some (.iaload, 1, 0, 0) := rfl
theorem i19_182 : mm_cd 19 182 = some (.if_icmp .ge 5, 3, 0, 0) := rfl
theorem i19_185 : mm_cd 19 185 = some (.iconst 1, 1, 0, 0) := rfl
theorem i19_186 : mm_cd 19 186 = some (.ireturn, 1, 0, 0) := rfl
theorem i19_187 : mm_cd 19 187 = some (.iinc 3 1, 3, 0, 0) := rfl
theorem i19_190 : mm_cd 19 190 = some (.goto (-188), 3, 0, 0) := rfl
theorem i19_193 : mm_cd 19 193 = some (.iconst 0, 1, 0, 0) := rfl
theorem i19_194 : mm_cd 19 194 = some (.ireturn, 1, 0, 0) := rfl
def q19_187 (k2 : Int32 → Int32 → Int32 → mS → Option mQ) (a : Nat) (v1 : Int32) (v2 : Int32) (v3 : Int32) (s : mS) : Option mQ := bx (v3 + (1 : Int32)) fun x1 => k2 v1 v2 x1 s
theorem t19_187 {L : Nat} {xs : Nat → Int32} {d : Nat} {k2 : Int32 → Int32 → Int32 → mS → Option mQ} {a : Nat} (hk2 : ∀ (v1 : Int32) (v2 : Int32) (v3 : Int32) (s : mS) (r : mQ), k2 v1 v2 v3 s = some r → Ev L xs d 19 2 [(0, .ref a), (1, .int v1), (2, .int v2), (3, .int v3)] [] (hp s) (hr r)) (ma : a ∈ A1) (hd : 0 ≤ d) {v1 : Int32} {v2 : Int32} {v3 : Int32} {s : mS} {r : mQ} (h : q19_187 k2 a v1 v2 v3 s = some r) : Ev L xs d 19 187 [(0, .ref a), (1, .int v1), (2, .int v2), (3, .int v3)] [] (hp s) (hr r) := by
  unfold q19_187 at h
  refine Rd.iinc H19 i19_187 (Nat.le_of_ble_eq_true rfl) rfl kI_1 (lv2 := fun x1 => [(3, .int x1), (0, .ref a), (1, .int v1), (2, .int v2)]) (fun _ => rfl) h (fun x1 h => ?_)
  refine Ev.goto H19 i19_190 (t := 2) (by decide) ?_
  exact Ev.sub (l := [(0, .ref a), (1, .int v1), (2, .int v2), (3, .int x1)]) rfl rfl (mm_sub_c rfl (mm_sub_c rfl (mm_sub_c rfl (mm_sub_c rfl mm_sub_n)))) (hk2 _ _ _ _ _ h)
def q19_158 (k2 : Int32 → Int32 → Int32 → mS → Option mQ) (a : Nat) (v1 : Int32) (v2 : Int32) (v3 : Int32) (v4 : Int32) (v5 : Int32) (v8 : Int32) (v9 : Int32) (s : mS) : Option mQ := if v4 = 0 then (q19_187 k2 a v1 v2 v3 s) else (if v5 = 0 then (q19_187 k2 a v1 v2 v3 s) else (gA 120 v8 <| gA 120 v9 <| if (s.1 (a + 6) v9.toNatClampNeg) ≤ (s.1 (a + 6) v8.toNatClampNeg) then (q19_187 k2 a v1 v2 v3 s) else (rv (1 : Int32) s)))
theorem t19_158 {L : Nat} {xs : Nat → Int32} {d : Nat} {k2 : Int32 → Int32 → Int32 → mS → Option mQ} {a : Nat} (hk2 : ∀ (v1 : Int32) (v2 : Int32) (v3 : Int32) (s : mS) (r : mQ), k2 v1 v2 v3 s = some r → Ev L xs d 19 2 [(0, .ref a), (1, .int v1), (2, .int v2), (3, .int v3)] [] (hp s) (hr r)) (ma : a ∈ A1) (hd : 0 ≤ d) {v1 : Int32} {v2 : Int32} {v3 : Int32} {v4 : Int32} {v5 : Int32} {v8 : Int32} {v9 : Int32} {s : mS} {r : mQ} (h : q19_158 k2 a v1 v2 v3 v4 v5 v8 v9 s = some r) : Ev L xs d 19 158 [(0, .ref a), (1, .int v1), (2, .int v2), (3, .int v3), (4, .int v4), (5, .int v5), (8, .int v8), (9, .int v9)] [] (hp s) (hr r) := by
  unfold q19_158 at h
  refine Ev.iload H19 i19_158 rfl ?_
  refine Rd.if_eq H19 i19_160 (t := 187) (by decide) h (fun hc h => ?_) (fun hc h => ?_)
  · exact Ev.sub (l := [(0, .ref a), (1, .int v1), (2, .int v2), (3, .int v3)]) rfl rfl (mm_sub_c rfl (mm_sub_c rfl (mm_sub_c rfl (mm_sub_c rfl mm_sub_n)))) (t19_187 (k2 := k2) hk2 ma hd h)
  · refine Ev.iload H19 i19_163 rfl ?_
    refine Rd.if_eq H19 i19_165 (t := 187) (by decide) h (fun hc h => ?_) (fun hc h => ?_)
    · exact Ev.sub (l := [(0, .ref a), (1, .int v1), (2, .int v2), (3, .int v3)]) rfl rfl (mm_sub_c rfl (mm_sub_c rfl (mm_sub_c rfl (mm_sub_c rfl mm_sub_n)))) (t19_187 (k2 := k2) hk2 ma hd h)
    · refine Ev.aload_n H19 i19_168 rfl ?_
      refine Rd.getR H19 i19_169 (ob1 ma) rfl ?_
      refine Ev.iload H19 i19_172 rfl ?_
      refine Rd.iaload H19 i19_174 (ar1_6 ma) h (fun h => ?_)
      refine Ev.aload_n H19 i19_175 rfl ?_
      refine Rd.getR H19 i19_176 (ob1 ma) rfl ?_
      refine Ev.iload H19 i19_179 rfl ?_
      refine Rd.iaload H19 i19_181 (ar1_6 ma) h (fun h => ?_)
      refine Rd.ic_ge H19 i19_182 (t := 187) (by decide) h (fun hc h => ?_) (fun hc h => ?_)
      · exact Ev.sub (l := [(0, .ref a), (1, .int v1), (2, .int v2), (3, .int v3)]) rfl rfl (mm_sub_c rfl (mm_sub_c rfl (mm_sub_c rfl (mm_sub_c rfl mm_sub_n)))) (t19_187 (k2 := k2) hk2 ma hd h)
      · refine Ev.iconst H19 i19_185 kI_1 ?_
        exact Rd.ireturnK H19 i19_186 rfl (Or.inr rfl) h
def q19_131 (k2 : Int32 → Int32 → Int32 → mS → Option mQ) (a : Nat) (v1 : Int32) (v2 : Int32) (v3 : Int32) (v4 : Int32) (v5 : Int32) (v6 : Int32) (v8 : Int32) (v9 : Int32) (s : mS) : Option mQ := if v6 = 0 then (q19_158 k2 a v1 v2 v3 v4 v5 v8 v9 s) else (if v5 = 0 then (q19_158 k2 a v1 v2 v3 v4 v5 v8 v9 s) else (gA 120 v8 <| gA 120 v9 <| if (s.1 (a + 5) v8.toNatClampNeg) < (s.1 (a + 6) v9.toNatClampNeg) then (rv (1 : Int32) s) else (q19_158 k2 a v1 v2 v3 v4 v5 v8 v9 s)))
theorem t19_131 {L : Nat} {xs : Nat → Int32} {d : Nat} {k2 : Int32 → Int32 → Int32 → mS → Option mQ} {a : Nat} (hk2 : ∀ (v1 : Int32) (v2 : Int32) (v3 : Int32) (s : mS) (r : mQ), k2 v1 v2 v3 s = some r → Ev L xs d 19 2 [(0, .ref a), (1, .int v1), (2, .int v2), (3, .int v3)] [] (hp s) (hr r)) (ma : a ∈ A1) (hd : 0 ≤ d) {v1 : Int32} {v2 : Int32} {v3 : Int32} {v4 : Int32} {v5 : Int32} {v6 : Int32} {v8 : Int32} {v9 : Int32} {s : mS} {r : mQ} (h : q19_131 k2 a v1 v2 v3 v4 v5 v6 v8 v9 s = some r) : Ev L xs d 19 131 [(0, .ref a), (1, .int v1), (2, .int v2), (3, .int v3), (4, .int v4), (5, .int v5), (6, .int v6), (8, .int v8), (9, .int v9)] [] (hp s) (hr r) := by
  unfold q19_131 at h
  refine Ev.iload H19 i19_131 rfl ?_
  refine Rd.if_eq H19 i19_133 (t := 158) (by decide) h (fun hc h => ?_) (fun hc h => ?_)
  · exact Ev.sub (l := [(0, .ref a), (1, .int v1), (2, .int v2), (3, .int v3), (4, .int v4), (5, .int v5), (8, .int v8), (9, .int v9)]) rfl rfl (mm_sub_c rfl (mm_sub_c rfl (mm_sub_c rfl (mm_sub_c rfl (mm_sub_c rfl (mm_sub_c rfl (mm_sub_c rfl (mm_sub_c rfl mm_sub_n)))))))) (t19_158 (k2 := k2) hk2 ma hd h)
  · refine Ev.iload H19 i19_136 rfl ?_
    refine Rd.if_eq H19 i19_138 (t := 158) (by decide) h (fun hc h => ?_) (fun hc h => ?_)
    · exact Ev.sub (l := [(0, .ref a), (1, .int v1), (2, .int v2), (3, .int v3), (4, .int v4), (5, .int v5), (8, .int v8), (9, .int v9)]) rfl rfl (mm_sub_c rfl (mm_sub_c rfl (mm_sub_c rfl (mm_sub_c rfl (mm_sub_c rfl (mm_sub_c rfl (mm_sub_c rfl (mm_sub_c rfl mm_sub_n)))))))) (t19_158 (k2 := k2) hk2 ma hd h)
    · refine Ev.aload_n H19 i19_141 rfl ?_
      refine Rd.getR H19 i19_142 (ob1 ma) rfl ?_
      refine Ev.iload H19 i19_145 rfl ?_
      refine Rd.iaload H19 i19_147 (ar1_5 ma) h (fun h => ?_)
      refine Ev.aload_n H19 i19_148 rfl ?_
      refine Rd.getR H19 i19_149 (ob1 ma) rfl ?_
      refine Ev.iload H19 i19_152 rfl ?_
      refine Rd.iaload H19 i19_154 (ar1_6 ma) h (fun h => ?_)
      refine Rd.ic_lt H19 i19_155 (t := 185) (by decide) h (fun hc h => ?_) (fun hc h => ?_)
      · refine Ev.iconst H19 i19_185 kI_1 ?_
        exact Rd.ireturnK H19 i19_186 rfl (Or.inr rfl) h
      · exact Ev.sub (l := [(0, .ref a), (1, .int v1), (2, .int v2), (3, .int v3), (4, .int v4), (5, .int v5), (8, .int v8), (9, .int v9)]) rfl rfl (mm_sub_c rfl (mm_sub_c rfl (mm_sub_c rfl (mm_sub_c rfl (mm_sub_c rfl (mm_sub_c rfl (mm_sub_c rfl (mm_sub_c rfl mm_sub_n)))))))) (t19_158 (k2 := k2) hk2 ma hd h)
def q19_86 (k2 : Int32 → Int32 → Int32 → mS → Option mQ) (a : Nat) (v1 : Int32) (v2 : Int32) (v3 : Int32) (v4 : Int32) (v5 : Int32) (v6 : Int32) (y0 : Int32) (s : mS) : Option mQ := bx ((v1 * (10 : Int32)) + v3) fun x2 => bx ((v2 * (10 : Int32)) + v3) fun x3 => if v4 = 0 then (q19_131 k2 a v1 v2 v3 v4 v5 v6 x2 x3 s) else (if y0 = 0 then (q19_131 k2 a v1 v2 v3 v4 v5 v6 x2 x3 s) else (gA 120 x2 <| gA 120 x3 <| if (s.1 (a + 6) x2.toNatClampNeg) ≤ (s.1 (a + 5) x3.toNatClampNeg) then (rv (1 : Int32) s) else (q19_131 k2 a v1 v2 v3 v4 v5 v6 x2 x3 s)))
theorem t19_86 {L : Nat} {xs : Nat → Int32} {d : Nat} {k2 : Int32 → Int32 → Int32 → mS → Option mQ} {a : Nat} (hk2 : ∀ (v1 : Int32) (v2 : Int32) (v3 : Int32) (s : mS) (r : mQ), k2 v1 v2 v3 s = some r → Ev L xs d 19 2 [(0, .ref a), (1, .int v1), (2, .int v2), (3, .int v3)] [] (hp s) (hr r)) (ma : a ∈ A1) (hd : 0 ≤ d) {v1 : Int32} {v2 : Int32} {v3 : Int32} {v4 : Int32} {v5 : Int32} {v6 : Int32} {y0 : Int32} {s : mS} {r : mQ} (h : q19_86 k2 a v1 v2 v3 v4 v5 v6 y0 s = some r) : Ev L xs d 19 86 [(0, .ref a), (1, .int v1), (2, .int v2), (3, .int v3), (4, .int v4), (5, .int v5), (6, .int v6)] [.int y0] (hp s) (hr r) := by
  unfold q19_86 at h
  refine Ev.istore H19 i19_86 (Nat.le_of_ble_eq_true rfl) (lv2 := [(7, .int y0), (0, .ref a), (1, .int v1), (2, .int v2), (3, .int v3), (4, .int v4), (5, .int v5), (6, .int v6)]) rfl ?_
  refine Ev.iload_n H19 i19_88 rfl ?_
  refine Ev.bipush H19 i19_89 kB_10 ?_
  refine Ev.imul H19 i19_91 ?_
  refine Ev.iload_n H19 i19_92 rfl ?_
  refine Ev.iadd H19 i19_93 ?_
  refine Rd.istore H19 i19_94 (Nat.le_of_ble_eq_true rfl) (lv2 := fun x2 => [(8, .int x2), (7, .int y0), (0, .ref a), (1, .int v1), (2, .int v2), (3, .int v3), (4, .int v4), (5, .int v5), (6, .int v6)]) (fun _ => rfl) h (fun x2 h => ?_)
  refine Ev.iload_n H19 i19_96 rfl ?_
  refine Ev.bipush H19 i19_97 kB_10 ?_
  refine Ev.imul H19 i19_99 ?_
  refine Ev.iload_n H19 i19_100 rfl ?_
  refine Ev.iadd H19 i19_101 ?_
  refine Rd.istore H19 i19_102 (Nat.le_of_ble_eq_true rfl) (lv2 := fun x3 => [(9, .int x3), (8, .int x2), (7, .int y0), (0, .ref a), (1, .int v1), (2, .int v2), (3, .int v3), (4, .int v4), (5, .int v5), (6, .int v6)]) (fun _ => rfl) h (fun x3 h => ?_)
  refine Ev.iload H19 i19_104 rfl ?_
  refine Rd.if_eq H19 i19_106 (t := 131) (by decide) h (fun hc h => ?_) (fun hc h => ?_)
  · exact Ev.sub (l := [(0, .ref a), (1, .int v1), (2, .int v2), (3, .int v3), (4, .int v4), (5, .int v5), (6, .int v6), (8, .int x2), (9, .int x3)]) rfl rfl (mm_sub_c rfl (mm_sub_c rfl (mm_sub_c rfl (mm_sub_c rfl (mm_sub_c rfl (mm_sub_c rfl (mm_sub_c rfl (mm_sub_c rfl (mm_sub_c rfl mm_sub_n))))))))) (t19_131 (k2 := k2) hk2 ma hd h)
  · refine Ev.iload H19 i19_109 rfl ?_
    refine Rd.if_eq H19 i19_111 (t := 131) (by decide) h (fun hc h => ?_) (fun hc h => ?_)
    · exact Ev.sub (l := [(0, .ref a), (1, .int v1), (2, .int v2), (3, .int v3), (4, .int v4), (5, .int v5), (6, .int v6), (8, .int x2), (9, .int x3)]) rfl rfl (mm_sub_c rfl (mm_sub_c rfl (mm_sub_c rfl (mm_sub_c rfl (mm_sub_c rfl (mm_sub_c rfl (mm_sub_c rfl (mm_sub_c rfl (mm_sub_c rfl mm_sub_n))))))))) (t19_131 (k2 := k2) hk2 ma hd h)
    · refine Ev.aload_n H19 i19_114 rfl ?_
      refine Rd.getR H19 i19_115 (ob1 ma) rfl ?_
      refine Ev.iload H19 i19_118 rfl ?_
      refine Rd.iaload H19 i19_120 (ar1_6 ma) h (fun h => ?_)
      refine Ev.aload_n H19 i19_121 rfl ?_
      refine Rd.getR H19 i19_122 (ob1 ma) rfl ?_
      refine Ev.iload H19 i19_125 rfl ?_
      refine Rd.iaload H19 i19_127 (ar1_5 ma) h (fun h => ?_)
      refine Rd.ic_le H19 i19_128 (t := 185) (by decide) h (fun hc h => ?_) (fun hc h => ?_)
      · refine Ev.iconst H19 i19_185 kI_1 ?_
        exact Rd.ireturnK H19 i19_186 rfl (Or.inr rfl) h
      · exact Ev.sub (l := [(0, .ref a), (1, .int v1), (2, .int v2), (3, .int v3), (4, .int v4), (5, .int v5), (6, .int v6), (8, .int x2), (9, .int x3)]) rfl rfl (mm_sub_c rfl (mm_sub_c rfl (mm_sub_c rfl (mm_sub_c rfl (mm_sub_c rfl (mm_sub_c rfl (mm_sub_c rfl (mm_sub_c rfl (mm_sub_c rfl mm_sub_n))))))))) (t19_131 (k2 := k2) hk2 ma hd h)
def q19_66 (k2 : Int32 → Int32 → Int32 → mS → Option mQ) (a : Nat) (v1 : Int32) (v2 : Int32) (v3 : Int32) (v4 : Int32) (v5 : Int32) (y0 : Int32) (s : mS) : Option mQ := gA 12 v2 <| if ((shrI (s.1 (a + 3) v2.toNatClampNeg) v3) &&& (1 : Int32)) = 0 then (q19_86 k2 a v1 v2 v3 v4 v5 y0 (0 : Int32) s) else (q19_86 k2 a v1 v2 v3 v4 v5 y0 (1 : Int32) s)
theorem t19_66 {L : Nat} {xs : Nat → Int32} {d : Nat} {k2 : Int32 → Int32 → Int32 → mS → Option mQ} {a : Nat} (hk2 : ∀ (v1 : Int32) (v2 : Int32) (v3 : Int32) (s : mS) (r : mQ), k2 v1 v2 v3 s = some r → Ev L xs d 19 2 [(0, .ref a), (1, .int v1), (2, .int v2), (3, .int v3)] [] (hp s) (hr r)) (ma : a ∈ A1) (hd : 0 ≤ d) {v1 : Int32} {v2 : Int32} {v3 : Int32} {v4 : Int32} {v5 : Int32} {y0 : Int32} {s : mS} {r : mQ} (h : q19_66 k2 a v1 v2 v3 v4 v5 y0 s = some r) : Ev L xs d 19 66 [(0, .ref a), (1, .int v1), (2, .int v2), (3, .int v3), (4, .int v4), (5, .int v5)] [.int y0] (hp s) (hr r) := by
  unfold q19_66 at h
  refine Ev.istore H19 i19_66 (Nat.le_of_ble_eq_true rfl) (lv2 := [(6, .int y0), (0, .ref a), (1, .int v1), (2, .int v2), (3, .int v3), (4, .int v4), (5, .int v5)]) rfl ?_
  refine Ev.aload_n H19 i19_68 rfl ?_
  refine Rd.getR H19 i19_69 (ob1 ma) rfl ?_
  refine Ev.iload_n H19 i19_72 rfl ?_
  refine Rd.iaload H19 i19_73 (ar1_3 ma) h (fun h => ?_)
  refine Ev.iload_n H19 i19_74 rfl ?_
  refine Rd.ishr H19 i19_75 ?_
  refine Ev.iconst H19 i19_76 kI_1 ?_
  refine Ev.iand H19 i19_77 ?_
  refine Rd.if_eq H19 i19_78 (t := 85) (by decide) h (fun hc h => ?_) (fun hc h => ?_)
  · refine Ev.iconst H19 i19_85 kI_0 ?_
    exact Ev.sub (l := [(0, .ref a), (1, .int v1), (2, .int v2), (3, .int v3), (4, .int v4), (5, .int v5), (6, .int y0)]) rfl rfl (mm_sub_c rfl (mm_sub_c rfl (mm_sub_c rfl (mm_sub_c rfl (mm_sub_c rfl (mm_sub_c rfl (mm_sub_c rfl mm_sub_n))))))) (t19_86 (k2 := k2) hk2 ma hd h)
  · refine Ev.iconst H19 i19_81 kI_1 ?_
    refine Ev.goto H19 i19_82 (t := 86) (by decide) ?_
    exact Ev.sub (l := [(0, .ref a), (1, .int v1), (2, .int v2), (3, .int v3), (4, .int v4), (5, .int v5), (6, .int y0)]) rfl rfl (mm_sub_c rfl (mm_sub_c rfl (mm_sub_c rfl (mm_sub_c rfl (mm_sub_c rfl (mm_sub_c rfl (mm_sub_c rfl mm_sub_n))))))) (t19_86 (k2 := k2) hk2 ma hd h)
def q19_46 (k2 : Int32 → Int32 → Int32 → mS → Option mQ) (a : Nat) (v1 : Int32) (v2 : Int32) (v3 : Int32) (v4 : Int32) (y0 : Int32) (s : mS) : Option mQ := gA 12 v1 <| if ((shrI (s.1 (a + 3) v1.toNatClampNeg) v3) &&& (1 : Int32)) = 0 then (q19_66 k2 a v1 v2 v3 v4 y0 (0 : Int32) s) else (q19_66 k2 a v1 v2 v3 v4 y0 (1 : Int32) s)
theorem t19_46 {L : Nat} {xs : Nat → Int32} {d : Nat} {k2 : Int32 → Int32 → Int32 → mS → Option mQ} {a : Nat} (hk2 : ∀ (v1 : Int32) (v2 : Int32) (v3 : Int32) (s : mS) (r : mQ), k2 v1 v2 v3 s = some r → Ev L xs d 19 2 [(0, .ref a), (1, .int v1), (2, .int v2), (3, .int v3)] [] (hp s) (hr r)) (ma : a ∈ A1) (hd : 0 ≤ d) {v1 : Int32} {v2 : Int32} {v3 : Int32} {v4 : Int32} {y0 : Int32} {s : mS} {r : mQ} (h : q19_46 k2 a v1 v2 v3 v4 y0 s = some r) : Ev L xs d 19 46 [(0, .ref a), (1, .int v1), (2, .int v2), (3, .int v3), (4, .int v4)] [.int y0] (hp s) (hr r) := by
  unfold q19_46 at h
  refine Ev.istore H19 i19_46 (Nat.le_of_ble_eq_true rfl) (lv2 := [(5, .int y0), (0, .ref a), (1, .int v1), (2, .int v2), (3, .int v3), (4, .int v4)]) rfl ?_
  refine Ev.aload_n H19 i19_48 rfl ?_
  refine Rd.getR H19 i19_49 (ob1 ma) rfl ?_
  refine Ev.iload_n H19 i19_52 rfl ?_
  refine Rd.iaload H19 i19_53 (ar1_3 ma) h (fun h => ?_)
  refine Ev.iload_n H19 i19_54 rfl ?_
  refine Rd.ishr H19 i19_55 ?_
  refine Ev.iconst H19 i19_56 kI_1 ?_
  refine Ev.iand H19 i19_57 ?_
  refine Rd.if_eq H19 i19_58 (t := 65) (by decide) h (fun hc h => ?_) (fun hc h => ?_)
  · refine Ev.iconst H19 i19_65 kI_0 ?_
    exact Ev.sub (l := [(0, .ref a), (1, .int v1), (2, .int v2), (3, .int v3), (4, .int v4), (5, .int y0)]) rfl rfl (mm_sub_c rfl (mm_sub_c rfl (mm_sub_c rfl (mm_sub_c rfl (mm_sub_c rfl (mm_sub_c rfl mm_sub_n)))))) (t19_66 (k2 := k2) hk2 ma hd h)
  · refine Ev.iconst H19 i19_61 kI_1 ?_
    refine Ev.goto H19 i19_62 (t := 66) (by decide) ?_
    exact Ev.sub (l := [(0, .ref a), (1, .int v1), (2, .int v2), (3, .int v3), (4, .int v4), (5, .int y0)]) rfl rfl (mm_sub_c rfl (mm_sub_c rfl (mm_sub_c rfl (mm_sub_c rfl (mm_sub_c rfl (mm_sub_c rfl mm_sub_n)))))) (t19_66 (k2 := k2) hk2 ma hd h)
def q19_26 (k2 : Int32 → Int32 → Int32 → mS → Option mQ) (a : Nat) (v1 : Int32) (v2 : Int32) (v3 : Int32) (y0 : Int32) (s : mS) : Option mQ := gA 12 v2 <| if ((shrI (s.1 (a + 4) v2.toNatClampNeg) v3) &&& (1 : Int32)) = 0 then (q19_46 k2 a v1 v2 v3 y0 (0 : Int32) s) else (q19_46 k2 a v1 v2 v3 y0 (1 : Int32) s)
theorem t19_26 {L : Nat} {xs : Nat → Int32} {d : Nat} {k2 : Int32 → Int32 → Int32 → mS → Option mQ} {a : Nat} (hk2 : ∀ (v1 : Int32) (v2 : Int32) (v3 : Int32) (s : mS) (r : mQ), k2 v1 v2 v3 s = some r → Ev L xs d 19 2 [(0, .ref a), (1, .int v1), (2, .int v2), (3, .int v3)] [] (hp s) (hr r)) (ma : a ∈ A1) (hd : 0 ≤ d) {v1 : Int32} {v2 : Int32} {v3 : Int32} {y0 : Int32} {s : mS} {r : mQ} (h : q19_26 k2 a v1 v2 v3 y0 s = some r) : Ev L xs d 19 26 [(0, .ref a), (1, .int v1), (2, .int v2), (3, .int v3)] [.int y0] (hp s) (hr r) := by
  unfold q19_26 at h
  refine Ev.istore H19 i19_26 (Nat.le_of_ble_eq_true rfl) (lv2 := [(4, .int y0), (0, .ref a), (1, .int v1), (2, .int v2), (3, .int v3)]) rfl ?_
  refine Ev.aload_n H19 i19_28 rfl ?_
  refine Rd.getR H19 i19_29 (ob1 ma) rfl ?_
  refine Ev.iload_n H19 i19_32 rfl ?_
  refine Rd.iaload H19 i19_33 (ar1_4 ma) h (fun h => ?_)
  refine Ev.iload_n H19 i19_34 rfl ?_
  refine Rd.ishr H19 i19_35 ?_
  refine Ev.iconst H19 i19_36 kI_1 ?_
  refine Ev.iand H19 i19_37 ?_
  refine Rd.if_eq H19 i19_38 (t := 45) (by decide) h (fun hc h => ?_) (fun hc h => ?_)
  · refine Ev.iconst H19 i19_45 kI_0 ?_
    exact Ev.sub (l := [(0, .ref a), (1, .int v1), (2, .int v2), (3, .int v3), (4, .int y0)]) rfl rfl (mm_sub_c rfl (mm_sub_c rfl (mm_sub_c rfl (mm_sub_c rfl (mm_sub_c rfl mm_sub_n))))) (t19_46 (k2 := k2) hk2 ma hd h)
  · refine Ev.iconst H19 i19_41 kI_1 ?_
    refine Ev.goto H19 i19_42 (t := 46) (by decide) ?_
    exact Ev.sub (l := [(0, .ref a), (1, .int v1), (2, .int v2), (3, .int v3), (4, .int y0)]) rfl rfl (mm_sub_c rfl (mm_sub_c rfl (mm_sub_c rfl (mm_sub_c rfl (mm_sub_c rfl mm_sub_n))))) (t19_46 (k2 := k2) hk2 ma hd h)
def q19_2 (a : Nat) : Nat → Int32 → Int32 → Int32 → mS → Option mQ
  | 0, _, _, _, _ => none
  | n + 1, v1, v2, v3, s => if (10 : Int32) ≤ v3 then (rv (0 : Int32) s) else (gA 12 v1 <| if ((shrI (s.1 (a + 4) v1.toNatClampNeg) v3) &&& (1 : Int32)) = 0 then (q19_26 (q19_2 a n) a v1 v2 v3 (0 : Int32) s) else (q19_26 (q19_2 a n) a v1 v2 v3 (1 : Int32) s))
theorem t19_2 {L : Nat} {xs : Nat → Int32} {d : Nat} {a : Nat} (ma : a ∈ A1) (hd : 0 ≤ d) : ∀ (n : Nat) (v1 : Int32) (v2 : Int32) (v3 : Int32) (s : mS) (r : mQ), q19_2 a n v1 v2 v3 s = some r → Ev L xs d 19 2 [(0, .ref a), (1, .int v1), (2, .int v2), (3, .int v3)] [] (hp s) (hr r) := by
  intro n
  induction n with
  | zero => intro v1 v2 v3 s r h; rw [q19_2] at h; cases h
  | succ n ih =>
    intro v1 v2 v3 s r h
    rw [q19_2] at h
    refine Ev.iload_n H19 i19_2 rfl ?_
    refine Ev.bipush H19 i19_3 kB_10 ?_
    refine Rd.ic_ge H19 i19_5 (t := 193) (by decide) h (fun hc h => ?_) (fun hc h => ?_)
    · refine Ev.iconst H19 i19_193 kI_0 ?_
      exact Rd.ireturnK H19 i19_194 rfl (Or.inl rfl) h
    · refine Ev.aload_n H19 i19_8 rfl ?_
      refine Rd.getR H19 i19_9 (ob1 ma) rfl ?_
      refine Ev.iload_n H19 i19_12 rfl ?_
      refine Rd.iaload H19 i19_13 (ar1_4 ma) h (fun h => ?_)
      refine Ev.iload_n H19 i19_14 rfl ?_
      refine Rd.ishr H19 i19_15 ?_
      refine Ev.iconst H19 i19_16 kI_1 ?_
      refine Ev.iand H19 i19_17 ?_
      refine Rd.if_eq H19 i19_18 (t := 25) (by decide) h (fun hc h => ?_) (fun hc h => ?_)
      · refine Ev.iconst H19 i19_25 kI_0 ?_
        exact Ev.sub (l := [(0, .ref a), (1, .int v1), (2, .int v2), (3, .int v3)]) rfl rfl (mm_sub_c rfl (mm_sub_c rfl (mm_sub_c rfl (mm_sub_c rfl mm_sub_n)))) (t19_26 (k2 := (q19_2 a n)) (fun _ _ _ _ _ h => ih _ _ _ _ _ h) ma hd h)
      · refine Ev.iconst H19 i19_21 kI_1 ?_
        refine Ev.goto H19 i19_22 (t := 26) (by decide) ?_
        exact Ev.sub (l := [(0, .ref a), (1, .int v1), (2, .int v2), (3, .int v3)]) rfl rfl (mm_sub_c rfl (mm_sub_c rfl (mm_sub_c rfl (mm_sub_c rfl mm_sub_n)))) (t19_26 (k2 := (q19_2 a n)) (fun _ _ _ _ _ h => ih _ _ _ _ _ h) ma hd h)
/-- SerialGate$History.mustBeAhead(II)Z -/
def q19 (a : Nat) (v1 : Int32) (v2 : Int32) (s : mS) : Option mQ := q19_2 a 10000 v1 v2 (0 : Int32) s
theorem c19 {L : Nat} {xs : Nat → Int32} {a : Nat} (ma : a ∈ A1) {v1 : Int32} {v2 : Int32} {s : mS} {r : mQ} (h : q19 a v1 v2 s = some r) : ∀ d, 0 ≤ d → Cl L xs d 19 [.ref a, .int v1, .int v2] (hp s) (hr r) := by
  intro d hd
  show Ev L xs d 19 0 [(0, .ref a), (1, .int v1), (2, .int v2)] [] (hp s) (hr r)
  unfold q19 at h
  refine Ev.iconst H19 i19_0 kI_0 ?_
  refine Ev.istore_n H19 i19_1 (Nat.le_of_ble_eq_true rfl) (lv2 := [(3, .int (0 : Int32)), (0, .ref a), (1, .int v1), (2, .int v2)]) rfl ?_
  exact Ev.sub (l := [(0, .ref a), (1, .int v1), (2, .int v2), (3, .int (0 : Int32))]) rfl rfl (mm_sub_c rfl (mm_sub_c rfl (mm_sub_c rfl (mm_sub_c rfl mm_sub_n)))) (t19_2 ma hd 10000 _ _ _ _ _ h)
theorem i18_0 : mm_cd 18 0 = some (.iconst 0, 1, 0, 0) := rfl
theorem i18_1 : mm_cd 18 1 = some (.istore_n 1, 1, 0, 0) := rfl
theorem i18_2 : mm_cd 18 2 = some (.iload_n 1, 1, 0, 0) := rfl
theorem i18_3 : mm_cd 18 3 = some (.aload_n 0, 1, 0, 0) := rfl
theorem i18_4 : mm_cd 18 4 = some (.getfield 9, 3, ((1 : Nat) : Int), 0) := rfl
theorem i18_7 : mm_cd 18 7 = some (.if_icmp .ge 66, 3, 0, 0) := rfl
theorem i18_10 : mm_cd 18 10 = some (.aload_n 0, 1, 0, 0) := rfl
theorem i18_11 : mm_cd 18 11 = some (.getfield 37, 3, ((1 : Nat) : Int), 8) := rfl
theorem i18_14 : mm_cd 18 14 = some (.iload_n 1, 1, 0, 0) := rfl
theorem i18_15 : mm_cd 18 15 = some (.iconst 0, 1, 0, 0) := rfl
theorem i18_16 : mm_cd 18 16 = some (.iastore, 1, 0, 0) := rfl
theorem i18_17 : mm_cd 18 17 = some (.iconst 0, 1, 0, 0) := rfl
theorem i18_18 : mm_cd 18 18 = some (.istore_n 2, 1, 0, 0) := rfl
theorem i18_19 : mm_cd 18 19 = some (.iload_n 2, 1, 0, 0) := rfl
theorem i18_20 : mm_cd 18 20 = some (.aload_n 0, 1, 0, 0) := rfl
theorem i18_21 : mm_cd 18 21 = some (.getfield 9, 3, ((1 : Nat) : Int), 0) := rfl
theorem i18_24 : mm_cd 18 24 = some (.if_icmp .ge 43, 3, 0, 0) := rfl
theorem i18_27 : mm_cd 18 27 = some (.iload_n 2, 1, 0, 0) := rfl
theorem i18_28 : mm_cd 18 28 = some (.iload_n 1, 1, 0, 0) := rfl
theorem i18_29 : mm_cd 18 29 = some (.if_icmp .eq 32, 3, 0, 0) := rfl
theorem i18_32 : mm_cd 18 32 = some (.aload_n 0, 1, 0, 0) := rfl
theorem i18_33 : mm_cd 18 33 = some (.aload_n 0, 1, 0, 0) := rfl
theorem i18_34 : mm_cd 18 34 = some (.iload_n 2, 1, 0, 0) := rfl
theorem i18_35 : mm_cd 18 35 = some (.invokevirtual 46, 3, 0, 14) := rfl
theorem i18_38 : mm_cd 18 38 = some (.aload_n 0, 1, 0, 0) := rfl
theorem i18_39 : mm_cd 18 39 = some (.iload_n 1, 1, 0, 0) := rfl
theorem i18_40 : mm_cd 18 40 = some (.invokevirtual 46, 3, 0, 14) := rfl
theorem i18_43 : mm_cd 18 43 = some (.invokevirtual 69, 3, 0, 19) := rfl
theorem i18_46 : mm_cd 18 46 = some (.ifCond .eq 15, 3, 0, 0) := rfl
theorem i18_49 : mm_cd 18 49 = some (.aload_n 0, 1, 0, 0) := rfl
theorem i18_50 : mm_cd 18 50 = some (.getfield 37, 3, ((1 : Nat) : Int), 8) := rfl
theorem i18_53 : mm_cd 18 53 = some (.iload_n 1, 1, 0, 0) := rfl
theorem i18_54 : mm_cd 18 54 = some (.dup2, 1, 0, 0) := rfl
theorem i18_55 : mm_cd 18 55 = some (.iaload, 1, 0, 0) := rfl
theorem i18_56 : mm_cd 18 56 = some (.iconst 1, 1, 0, 0) := rfl
theorem i18_57 : mm_cd 18 57 = some (.iload_n 2, 1, 0, 0) := rfl
theorem i18_58 : mm_cd 18 58 = some (.ishl, 1, 0, 0) := rfl
theorem i18_59 : mm_cd 18 59 = some (.ior, 1, 0, 0) := rfl
theorem i18_60 : mm_cd 18 60 = some (.iastore, 1, 0, 0) := rfl
theorem i18_61 : mm_cd 18 61 = some (.iinc 2 1, 3, 0, 0) := rfl
theorem i18_64 : mm_cd 18 64 = some (.goto (-45), 3, 0, 0) := rfl
theorem i18_67 : mm_cd 18 67 = some (.iinc 1 1, 3, 0, 0) := rfl
theorem i18_70 : mm_cd 18 70 = some (.goto (-68), 3, 0, 0) := rfl
theorem i18_73 : mm_cd 18 73 = some (.return_, 1, 0, 0) := rfl
def q18_61 (k19 : Int32 → Int32 → mS → Option mQ) (a : Nat) (v1 : Int32) (v2 : Int32) (s : mS) : Option mQ := bx (v2 + (1 : Int32)) fun x1 => k19 v1 x1 s
theorem t18_61 {L : Nat} {xs : Nat → Int32} {d : Nat} {k19 : Int32 → Int32 → mS → Option mQ} {a : Nat} (hk19 : ∀ (v1 : Int32) (v2 : Int32) (s : mS) (r : mQ), k19 v1 v2 s = some r → Ev L xs d 18 19 [(0, .ref a), (1, .int v1), (2, .int v2)] [] (hp s) (hr r)) (ma : a ∈ A1) (hd : 1 ≤ d) {v1 : Int32} {v2 : Int32} {s : mS} {r : mQ} (h : q18_61 k19 a v1 v2 s = some r) : Ev L xs d 18 61 [(0, .ref a), (1, .int v1), (2, .int v2)] [] (hp s) (hr r) := by
  unfold q18_61 at h
  refine Rd.iinc H18 i18_61 (Nat.le_of_ble_eq_true rfl) rfl kI_1 (lv2 := fun x1 => [(2, .int x1), (0, .ref a), (1, .int v1)]) (fun _ => rfl) h (fun x1 h => ?_)
  refine Ev.goto H18 i18_64 (t := 19) (by decide) ?_
  exact Ev.sub (l := [(0, .ref a), (1, .int v1), (2, .int x1)]) rfl rfl (mm_sub_c rfl (mm_sub_c rfl (mm_sub_c rfl mm_sub_n))) (hk19 _ _ _ _ h)
def q18_19 (k67 : Int32 → mS → Option mQ) (a : Nat) : Nat → Int32 → Int32 → mS → Option mQ
  | 0, _, _, _ => none
  | n + 1, v1, v2, s => if (s.1 a 0) ≤ v2 then (k67 v1 s) else (if v2 = v1 then (q18_61 (q18_19 k67 a n) a v1 v2 s) else (bN (q14 a v2 s) fun x3 s2 => bN (q14 a v1 s2) fun x5 s4 => bN (q19 a x3 x5 s4) fun x7 s6 => if x7 = 0 then (q18_61 (q18_19 k67 a n) a v1 v2 s6) else (gA 12 v1 <| gA 12 v1 <| sp (sI s6 (a + 7) v1.toNatClampNeg ((s6.1 (a + 7) v1.toNatClampNeg) ||| (shlI (1 : Int32) v2))) fun s8 => q18_61 (q18_19 k67 a n) a v1 v2 s8)))
theorem t18_19 {L : Nat} {xs : Nat → Int32} {d : Nat} {k67 : Int32 → mS → Option mQ} {a : Nat} (hk67 : ∀ (v1 : Int32) (s : mS) (r : mQ), k67 v1 s = some r → Ev L xs d 18 67 [(0, .ref a), (1, .int v1)] [] (hp s) (hr r)) (ma : a ∈ A1) (hd : 1 ≤ d) : ∀ (n : Nat) (v1 : Int32) (v2 : Int32) (s : mS) (r : mQ), q18_19 k67 a n v1 v2 s = some r → Ev L xs d 18 19 [(0, .ref a), (1, .int v1), (2, .int v2)] [] (hp s) (hr r) := by
  intro n
  induction n with
  | zero => intro v1 v2 s r h; rw [q18_19] at h; cases h
  | succ n ih =>
    intro v1 v2 s r h
    rw [q18_19] at h
    refine Ev.iload_n H18 i18_19 rfl ?_
    refine Ev.aload_n H18 i18_20 rfl ?_
    refine Rd.getI H18 i18_21 (ob1 ma) rfl ?_
    refine Rd.ic_ge H18 i18_24 (t := 67) (by decide) h (fun hc h => ?_) (fun hc h => ?_)
    · exact Ev.sub (l := [(0, .ref a), (1, .int v1)]) rfl rfl (mm_sub_c rfl (mm_sub_c rfl mm_sub_n)) (hk67 _ _ _ h)
    · refine Ev.iload_n H18 i18_27 rfl ?_
      refine Ev.iload_n H18 i18_28 rfl ?_
      refine Rd.ic_eq H18 i18_29 (t := 61) (by decide) h (fun hc h => ?_) (fun hc h => ?_)
      · exact Ev.sub (l := [(0, .ref a), (1, .int v1), (2, .int v2)]) rfl rfl (mm_sub_c rfl (mm_sub_c rfl (mm_sub_c rfl mm_sub_n))) (t18_61 (k19 := (q18_19 k67 a n)) (fun _ _ _ _ h => ih _ _ _ _ h) ma hd h)
      · refine Ev.aload_n H18 i18_32 rfl ?_
        refine Ev.aload_n H18 i18_33 rfl ?_
        refine Ev.iload_n H18 i18_34 rfl ?_
        refine Rd.cV1vN H18 i18_35 cal14 (ob1 ma) (Nat.le_of_ble_eq_true rfl) (Nat.le_of_ble_eq_true rfl) (Nat.lt_of_lt_of_le (by decide) hd) (fun q hq => c14 ma hq) h (fun x3 s2 h => ?_)
        refine Ev.aload_n H18 i18_38 rfl ?_
        refine Ev.iload_n H18 i18_39 rfl ?_
        refine Rd.cV1vN H18 i18_40 cal14 (ob1 ma) (Nat.le_of_ble_eq_true rfl) (Nat.le_of_ble_eq_true rfl) (Nat.lt_of_lt_of_le (by decide) hd) (fun q hq => c14 ma hq) h (fun x5 s4 h => ?_)
        refine Rd.cV2vN H18 i18_43 cal19 (ob1 ma) (Nat.le_of_ble_eq_true rfl) (Nat.le_of_ble_eq_true rfl) (Nat.lt_of_lt_of_le (by decide) hd) (fun q hq => c19 ma hq) h (fun x7 s6 h => ?_)
        refine Rd.if_eq H18 i18_46 (t := 61) (by decide) h (fun hc h => ?_) (fun hc h => ?_)
        · exact Ev.sub (l := [(0, .ref a), (1, .int v1), (2, .int v2)]) rfl rfl (mm_sub_c rfl (mm_sub_c rfl (mm_sub_c rfl mm_sub_n))) (t18_61 (k19 := (q18_19 k67 a n)) (fun _ _ _ _ h => ih _ _ _ _ h) ma hd h)
        · refine Ev.aload_n H18 i18_49 rfl ?_
          refine Rd.getR H18 i18_50 (ob1 ma) rfl ?_
          refine Ev.iload_n H18 i18_53 rfl ?_
          refine Ev.dup2 H18 i18_54 ⟨rfl, rfl⟩ ?_
          refine Rd.iaload H18 i18_55 (ar1_7 ma) h (fun h => ?_)
          refine Ev.iconst H18 i18_56 kI_1 ?_
          refine Ev.iload_n H18 i18_57 rfl ?_
          refine Rd.ishl H18 i18_58 ?_
          refine Ev.ior H18 i18_59 ?_
          refine Rd.iastore H18 i18_60 (ar1_7 ma) h (fun s8 h => ?_)
          exact Ev.sub (l := [(0, .ref a), (1, .int v1), (2, .int v2)]) rfl rfl (mm_sub_c rfl (mm_sub_c rfl (mm_sub_c rfl mm_sub_n))) (t18_61 (k19 := (q18_19 k67 a n)) (fun _ _ _ _ h => ih _ _ _ _ h) ma hd h)
def q18_67 (k2 : Int32 → mS → Option mQ) (a : Nat) (v1 : Int32) (s : mS) : Option mQ := bx (v1 + (1 : Int32)) fun x9 => k2 x9 s
theorem t18_67 {L : Nat} {xs : Nat → Int32} {d : Nat} {k2 : Int32 → mS → Option mQ} {a : Nat} (hk2 : ∀ (v1 : Int32) (s : mS) (r : mQ), k2 v1 s = some r → Ev L xs d 18 2 [(0, .ref a), (1, .int v1)] [] (hp s) (hr r)) (ma : a ∈ A1) (hd : 1 ≤ d) {v1 : Int32} {s : mS} {r : mQ} (h : q18_67 k2 a v1 s = some r) : Ev L xs d 18 67 [(0, .ref a), (1, .int v1)] [] (hp s) (hr r) := by
  unfold q18_67 at h
  refine Rd.iinc H18 i18_67 (Nat.le_of_ble_eq_true rfl) rfl kI_1 (lv2 := fun x9 => [(1, .int x9), (0, .ref a)]) (fun _ => rfl) h (fun x9 h => ?_)
  refine Ev.goto H18 i18_70 (t := 2) (by decide) ?_
  exact Ev.sub (l := [(0, .ref a), (1, .int x9)]) rfl rfl (mm_sub_c rfl (mm_sub_c rfl mm_sub_n)) (hk2 _ _ _ h)
def q18_2 (a : Nat) : Nat → Int32 → mS → Option mQ
  | 0, _, _ => none
  | n + 1, v1, s => if (s.1 a 0) ≤ v1 then (ru s) else (gA 12 v1 <| sp (sI s (a + 7) v1.toNatClampNeg (0 : Int32)) fun s10 => q18_19 (q18_67 (q18_2 a n) a) a 10000 v1 (0 : Int32) s10)
theorem t18_2 {L : Nat} {xs : Nat → Int32} {d : Nat} {a : Nat} (ma : a ∈ A1) (hd : 1 ≤ d) : ∀ (n : Nat) (v1 : Int32) (s : mS) (r : mQ), q18_2 a n v1 s = some r → Ev L xs d 18 2 [(0, .ref a), (1, .int v1)] [] (hp s) (hr r) := by
  intro n
  induction n with
  | zero => intro v1 s r h; rw [q18_2] at h; cases h
  | succ n ih =>
    intro v1 s r h
    rw [q18_2] at h
    refine Ev.iload_n H18 i18_2 rfl ?_
    refine Ev.aload_n H18 i18_3 rfl ?_
    refine Rd.getI H18 i18_4 (ob1 ma) rfl ?_
    refine Rd.ic_ge H18 i18_7 (t := 73) (by decide) h (fun hc h => ?_) (fun hc h => ?_)
    · exact Rd.return_ H18 i18_73 rfl h
    · refine Ev.aload_n H18 i18_10 rfl ?_
      refine Rd.getR H18 i18_11 (ob1 ma) rfl ?_
      refine Ev.iload_n H18 i18_14 rfl ?_
      refine Ev.iconst H18 i18_15 kI_0 ?_
      refine Rd.iastore H18 i18_16 (ar1_7 ma) h (fun s10 h => ?_)
      refine Ev.iconst H18 i18_17 kI_0 ?_
      refine Ev.istore_n H18 i18_18 (Nat.le_of_ble_eq_true rfl) (lv2 := [(2, .int (0 : Int32)), (0, .ref a), (1, .int v1)]) rfl ?_
      exact Ev.sub (l := [(0, .ref a), (1, .int v1), (2, .int (0 : Int32))]) rfl rfl (mm_sub_c rfl (mm_sub_c rfl (mm_sub_c rfl mm_sub_n))) (t18_19 (k67 := (q18_67 (q18_2 a n) a)) (fun _ _ _ h => t18_67 (k2 := (q18_2 a n)) (fun _ _ _ h => ih _ _ _ h) ma hd h) ma hd 10000 _ _ _ _ h)
/-- SerialGate$History.findAhead()V -/
def q18 (a : Nat) (s : mS) : Option mQ := q18_2 a 10000 (0 : Int32) s
theorem c18 {L : Nat} {xs : Nat → Int32} {a : Nat} (ma : a ∈ A1) {s : mS} {r : mQ} (h : q18 a s = some r) : ∀ d, 1 ≤ d → Cl L xs d 18 [.ref a] (hp s) (hr r) := by
  intro d hd
  show Ev L xs d 18 0 [(0, .ref a)] [] (hp s) (hr r)
  unfold q18 at h
  refine Ev.iconst H18 i18_0 kI_0 ?_
  refine Ev.istore_n H18 i18_1 (Nat.le_of_ble_eq_true rfl) (lv2 := [(1, .int (0 : Int32)), (0, .ref a)]) rfl ?_
  exact Ev.sub (l := [(0, .ref a), (1, .int (0 : Int32))]) rfl rfl (mm_sub_c rfl (mm_sub_c rfl mm_sub_n)) (t18_2 ma hd 10000 _ _ _ h)
theorem i17_0 : mm_cd 17 0 = some (.iconst 0, 1, 0, 0) := rfl
theorem i17_1 : mm_cd 17 1 = some (.istore_n 2, 1, 0, 0) := rfl
theorem i17_2 : mm_cd 17 2 = some (.iload_n 2, 1, 0, 0) := rfl
theorem i17_3 : mm_cd 17 3 = some (.aload_n 0, 1, 0, 0) := rfl
theorem i17_4 : mm_cd 17 4 = some (.getfield 9, 3, ((1 : Nat) : Int), 0) := rfl
theorem i17_7 : mm_cd 17 7 = some (.if_icmp .ge 30, 3, 0, 0) := rfl
theorem i17_10 : mm_cd 17 10 = some (.iload_n 1, 1, 0, 0) := rfl
theorem i17_11 : mm_cd 17 11 = some (.iload_n 2, 1, 0, 0) := rfl
theorem i17_12 : mm_cd 17 12 = some (.ishr, 1, 0, 0) := rfl
theorem i17_13 : mm_cd 17 13 = some (.iconst 1, 1, 0, 0) := rfl
theorem i17_14 : mm_cd 17 14 = some (.iand, 1, 0, 0) := rfl
theorem i17_15 : mm_cd 17 15 = some (.ifCond .eq 16, 3, 0, 0) := rfl
theorem i17_18 : mm_cd 17 18 = some (.aload_n 0, 1, 0, 0) := rfl
theorem i17_19 : mm_cd 17 19 = some (.getfield 37, 3, ((1 : Nat) : Int), 8) := rfl
theorem i17_22 : mm_cd 17 22 = some (.iload_n 2, 1, 0, 0) := rfl
theorem i17_23 : mm_cd 17 23 = some (.iaload, 1, 0, 0) := rfl
theorem i17_24 : mm_cd 17 24 = some (.iload_n 1, 1, 0, 0) := rfl
theorem i17_25 : mm_cd 17 25 = some (.iand, 1, 0, 0) := rfl
theorem i17_26 : mm_cd 17 26 = some (.ifCond .ne 5, 3, 0, 0) := rfl
theorem i17_29 : mm_cd 17 29 = some (.iload_n 2, 1, 0, 0) := rfl
theorem i17_30 : mm_cd 17 30 = some (.ireturn, 1, 0, 0) := rfl
theorem i17_31 : mm_cd 17 31 = some (.iinc 2 1, 3, 0, 0) := rfl
theorem i17_34 : mm_cd 17 34 = some (.goto (-32), 3, 0, 0) := rfl
theorem i17_37 : mm_cd 17 37 = some (.iconst (-1), 1, 0, 0) := rfl
theorem i17_38 : mm_cd 17 38 = some (.ireturn, 1, 0, 0) := rfl
def q17_31 (k2 : Int32 → Int32 → mS → Option mQ) (a : Nat) (v1 : Int32) (v2 : Int32) (s : mS) : Option mQ := bx (v2 + (1 : Int32)) fun x1 => k2 v1 x1 s
theorem t17_31 {L : Nat} {xs : Nat → Int32} {d : Nat} {k2 : Int32 → Int32 → mS → Option mQ} {a : Nat} (hk2 : ∀ (v1 : Int32) (v2 : Int32) (s : mS) (r : mQ), k2 v1 v2 s = some r → Ev L xs d 17 2 [(0, .ref a), (1, .int v1), (2, .int v2)] [] (hp s) (hr r)) (ma : a ∈ A1) (hd : 0 ≤ d) {v1 : Int32} {v2 : Int32} {s : mS} {r : mQ} (h : q17_31 k2 a v1 v2 s = some r) : Ev L xs d 17 31 [(0, .ref a), (1, .int v1), (2, .int v2)] [] (hp s) (hr r) := by
  unfold q17_31 at h
  refine Rd.iinc H17 i17_31 (Nat.le_of_ble_eq_true rfl) rfl kI_1 (lv2 := fun x1 => [(2, .int x1), (0, .ref a), (1, .int v1)]) (fun _ => rfl) h (fun x1 h => ?_)
  refine Ev.goto H17 i17_34 (t := 2) (by decide) ?_
  exact Ev.sub (l := [(0, .ref a), (1, .int v1), (2, .int x1)]) rfl rfl (mm_sub_c rfl (mm_sub_c rfl (mm_sub_c rfl mm_sub_n))) (hk2 _ _ _ _ h)
def q17_2 (a : Nat) : Nat → Int32 → Int32 → mS → Option mQ
  | 0, _, _, _ => none
  | n + 1, v1, v2, s => if (s.1 a 0) ≤ v2 then (rv (-1 : Int32) s) else (if ((shrI v1 v2) &&& (1 : Int32)) = 0 then (q17_31 (q17_2 a n) a v1 v2 s) else (gA 12 v2 <| if ¬ ((s.1 (a + 7) v2.toNatClampNeg) &&& v1) = 0 then (q17_31 (q17_2 a n) a v1 v2 s) else (rv v2 s)))
theorem t17_2 {L : Nat} {xs : Nat → Int32} {d : Nat} {a : Nat} (ma : a ∈ A1) (hd : 0 ≤ d) : ∀ (n : Nat) (v1 : Int32) (v2 : Int32) (s : mS) (r : mQ), q17_2 a n v1 v2 s = some r → Ev L xs d 17 2 [(0, .ref a), (1, .int v1), (2, .int v2)] [] (hp s) (hr r) := by
  intro n
  induction n with
  | zero => intro v1 v2 s r h; rw [q17_2] at h; cases h
  | succ n ih =>
    intro v1 v2 s r h
    rw [q17_2] at h
    refine Ev.iload_n H17 i17_2 rfl ?_
    refine Ev.aload_n H17 i17_3 rfl ?_
    refine Rd.getI H17 i17_4 (ob1 ma) rfl ?_
    refine Rd.ic_ge H17 i17_7 (t := 37) (by decide) h (fun hc h => ?_) (fun hc h => ?_)
    · refine Ev.iconst H17 i17_37 kI_m1 ?_
      exact Rd.ireturn H17 i17_38 rfl h
    · refine Ev.iload_n H17 i17_10 rfl ?_
      refine Ev.iload_n H17 i17_11 rfl ?_
      refine Rd.ishr H17 i17_12 ?_
      refine Ev.iconst H17 i17_13 kI_1 ?_
      refine Ev.iand H17 i17_14 ?_
      refine Rd.if_eq H17 i17_15 (t := 31) (by decide) h (fun hc h => ?_) (fun hc h => ?_)
      · exact Ev.sub (l := [(0, .ref a), (1, .int v1), (2, .int v2)]) rfl rfl (mm_sub_c rfl (mm_sub_c rfl (mm_sub_c rfl mm_sub_n))) (t17_31 (k2 := (q17_2 a n)) (fun _ _ _ _ h => ih _ _ _ _ h) ma hd h)
      · refine Ev.aload_n H17 i17_18 rfl ?_
        refine Rd.getR H17 i17_19 (ob1 ma) rfl ?_
        refine Ev.iload_n H17 i17_22 rfl ?_
        refine Rd.iaload H17 i17_23 (ar1_7 ma) h (fun h => ?_)
        refine Ev.iload_n H17 i17_24 rfl ?_
        refine Ev.iand H17 i17_25 ?_
        refine Rd.if_ne H17 i17_26 (t := 31) (by decide) h (fun hc h => ?_) (fun hc h => ?_)
        · exact Ev.sub (l := [(0, .ref a), (1, .int v1), (2, .int v2)]) rfl rfl (mm_sub_c rfl (mm_sub_c rfl (mm_sub_c rfl mm_sub_n))) (t17_31 (k2 := (q17_2 a n)) (fun _ _ _ _ h => ih _ _ _ _ h) ma hd h)
        · refine Ev.iload_n H17 i17_29 rfl ?_
          exact Rd.ireturn H17 i17_30 rfl h
/-- SerialGate$History.nextRow(I)I -/
def q17 (a : Nat) (v1 : Int32) (s : mS) : Option mQ := q17_2 a 10000 v1 (0 : Int32) s
theorem c17 {L : Nat} {xs : Nat → Int32} {a : Nat} (ma : a ∈ A1) {v1 : Int32} {s : mS} {r : mQ} (h : q17 a v1 s = some r) : ∀ d, 0 ≤ d → Cl L xs d 17 [.ref a, .int v1] (hp s) (hr r) := by
  intro d hd
  show Ev L xs d 17 0 [(0, .ref a), (1, .int v1)] [] (hp s) (hr r)
  unfold q17 at h
  refine Ev.iconst H17 i17_0 kI_0 ?_
  refine Ev.istore_n H17 i17_1 (Nat.le_of_ble_eq_true rfl) (lv2 := [(2, .int (0 : Int32)), (0, .ref a), (1, .int v1)]) rfl ?_
  exact Ev.sub (l := [(0, .ref a), (1, .int v1), (2, .int (0 : Int32))]) rfl rfl (mm_sub_c rfl (mm_sub_c rfl (mm_sub_c rfl mm_sub_n))) (t17_2 ma hd 10000 _ _ _ _ h)
theorem i16_0 : mm_cd 16 0 = some (.iload_n 1, 1, 0, 0) := rfl
theorem i16_1 : mm_cd 16 1 = some (.ifCond .lt 11, 3, 0, 0) := rfl
theorem i16_4 : mm_cd 16 4 = some (.iload_n 1, 1, 0, 0) := rfl
theorem i16_5 : mm_cd 16 5 = some (.aload_n 0, 1, 0, 0) := rfl
theorem i16_6 : mm_cd 16 6 = some (.getfield 9, 3, ((1 : Nat) : Int), 0) := rfl
theorem i16_9 : mm_cd 16 9 = some (.if_icmp .lt 5, 3, 0, 0) := rfl
theorem i16_12 : mm_cd 16 12 = some (.iconst (-1), 1, 0, 0) := rfl
theorem i16_13 : mm_cd 16 13 = some (.ireturn, 1, 0, 0) := rfl
theorem i16_14 : mm_cd 16 14 = some (.aload_n 0, 1, 0, 0) := rfl
theorem i16_15 : mm_cd 16 15 = some (.invokevirtual 63, 3, 0, 18) := rfl
theorem i16_18 : mm_cd 16 18 = some (.iconst 1, 1, 0, 0) := rfl
theorem i16_19 : mm_cd 16 19 = some (.aload_n 0, 1, 0, 0) := rfl
theorem i16_20 : mm_cd 16 20 = some (.getfield 9, 3, ((1 : Nat) : Int), 0) := rfl
theorem i16_23 : mm_cd 16 23 = some (.ishl, 1, 0, 0) := rfl
theorem i16_24 : mm_cd 16 24 = some (.iconst 1, 1, 0, 0) := rfl
theorem i16_25 : mm_cd 16 25 = some (.isub, 1, 0, 0) := rfl
theorem i16_26 : mm_cd 16 26 = some (.istore_n 2, 1, 0, 0) := rfl
theorem i16_27 : mm_cd 16 27 = some (.iconst 0, 1, 0, 0) := rfl
theorem i16_28 : mm_cd 16 28 = some (.istore_n 3, 1, 0, 0) := rfl
theorem i16_29 : mm_cd 16 29 = some (.iload_n 3, 1, 0, 0) := rfl
theorem i16_30 : mm_cd 16 30 = some (.iload_n 1, 1, 0, 0) := rfl
theorem i16_31 : mm_cd 16 31 = some (.if_icmp .gt 39, 3, 0, 0) := rfl
theorem i16_34 : mm_cd 16 34 = some (.aload_n 0, 1, 0, 0) := rfl
theorem i16_35 : mm_cd 16 35 = some (.iload_n 2, 1, 0, 0) := rfl
theorem i16_36 : mm_cd 16 36 = some (.invokevirtual 66, 3, 0, 17) := rfl
theorem i16_39 : mm_cd 16 39 = some (.istore 4, 2, 0, 0) := rfl
theorem i16_41 : mm_cd 16 41 = some (.iload 4, 2, 0, 0) := rfl
theorem i16_43 : mm_cd 16 43 = some (.iconst (-1), 1, 0, 0) := rfl
theorem i16_44 : mm_cd 16 44 = some (.if_icmp .eq 8, 3, 0, 0) := rfl
theorem i16_47 : mm_cd 16 47 = some (.iload_n 3, 1, 0, 0) := rfl
theorem i16_48 : mm_cd 16 48 = some (.iload_n 1, 1, 0, 0) := rfl
theorem i16_49 : mm_cd 16 49 = some (.if_icmp .ne 6, 3, 0, 0) := rfl
theorem i16_52 : mm_cd 16 52 = some (.iload 4, 2, 0, 0) := rfl
theorem i16_54 : mm_cd 16 54 = some (.ireturn, 1, 0, 0) := rfl
theorem i16_55 : mm_cd 16 55 = some (.iload_n 2, 1, 0, 0) := rfl
theorem i16_56 : mm_cd 16 56 = some (.iconst 1, 1, 0, 0) := rfl
theorem i16_57 : mm_cd 16 57 = some (.iload 4, 2, 0, 0) := rfl
theorem i16_59 : mm_cd 16 59 = some (.ishl, 1, 0, 0) := rfl
theorem i16_60 : mm_cd 16 60 = some (.iconst (-1), 1, 0, 0) := rfl
theorem i16_61 : mm_cd 16 61 = some (.ixor, 1, 0, 0) := rfl
theorem i16_62 : mm_cd 16 62 = some (.iand, 1, 0, 0) := rfl
theorem i16_63 : mm_cd 16 63 = some (.istore_n 2, 1, 0, 0) := rfl
theorem i16_64 : mm_cd 16 64 = some (.iinc 3 1, 3, 0, 0) := rfl
theorem i16_67 : mm_cd 16 67 = some (.goto (-38), 3, 0, 0) := rfl
theorem i16_70 : mm_cd 16 70 = some (.iconst (-1), 1, 0, 0) := rfl
theorem i16_71 : mm_cd 16 71 = some (.ireturn, 1, 0, 0) := rfl
def q16_29 (a : Nat) : Nat → Int32 → Int32 → Int32 → mS → Option mQ
  | 0, _, _, _, _ => none
  | n + 1, v1, v2, v3, s => if v1 < v3 then (rv (-1 : Int32) s) else (bN (q17 a v2 s) fun x2 s1 => if x2 = (-1 : Int32) then (rv x2 s1) else (if ¬ v3 = v1 then (bx (v2 &&& ((shlI (1 : Int32) x2) ^^^ (-1 : Int32))) fun x3 => bx (v3 + (1 : Int32)) fun x4 => q16_29 a n v1 x3 x4 s1) else (rv x2 s1)))
theorem t16_29 {L : Nat} {xs : Nat → Int32} {d : Nat} {a : Nat} (ma : a ∈ A1) (hd : 2 ≤ d) : ∀ (n : Nat) (v1 : Int32) (v2 : Int32) (v3 : Int32) (s : mS) (r : mQ), q16_29 a n v1 v2 v3 s = some r → Ev L xs d 16 29 [(0, .ref a), (1, .int v1), (2, .int v2), (3, .int v3)] [] (hp s) (hr r) := by
  intro n
  induction n with
  | zero => intro v1 v2 v3 s r h; rw [q16_29] at h; cases h
  | succ n ih =>
    intro v1 v2 v3 s r h
    rw [q16_29] at h
    refine Ev.iload_n H16 i16_29 rfl ?_
    refine Ev.iload_n H16 i16_30 rfl ?_
    refine Rd.ic_gt H16 i16_31 (t := 70) (by decide) h (fun hc h => ?_) (fun hc h => ?_)
    · refine Ev.iconst H16 i16_70 kI_m1 ?_
      exact Rd.ireturn H16 i16_71 rfl h
    · refine Ev.aload_n H16 i16_34 rfl ?_
      refine Ev.iload_n H16 i16_35 rfl ?_
      refine Rd.cV1vN H16 i16_36 cal17 (ob1 ma) (Nat.le_of_ble_eq_true rfl) (Nat.le_of_ble_eq_true rfl) (Nat.lt_of_lt_of_le (by decide) hd) (fun q hq => c17 ma hq) h (fun x2 s1 h => ?_)
      refine Ev.istore H16 i16_39 (Nat.le_of_ble_eq_true rfl) (lv2 := [(4, .int x2), (0, .ref a), (1, .int v1), (2, .int v2), (3, .int v3)]) rfl ?_
      refine Ev.iload H16 i16_41 rfl ?_
      refine Ev.iconst H16 i16_43 kI_m1 ?_
      refine Rd.ic_eq H16 i16_44 (t := 52) (by decide) h (fun hc h => ?_) (fun hc h => ?_)
      · refine Ev.iload H16 i16_52 rfl ?_
        exact Rd.ireturn H16 i16_54 rfl h
      · refine Ev.iload_n H16 i16_47 rfl ?_
        refine Ev.iload_n H16 i16_48 rfl ?_
        refine Rd.ic_ne H16 i16_49 (t := 55) (by decide) h (fun hc h => ?_) (fun hc h => ?_)
        · refine Ev.iload_n H16 i16_55 rfl ?_
          refine Ev.iconst H16 i16_56 kI_1 ?_
          refine Ev.iload H16 i16_57 rfl ?_
          refine Rd.ishl H16 i16_59 ?_
          refine Ev.iconst H16 i16_60 kI_m1 ?_
          refine Ev.ixor H16 i16_61 ?_
          refine Ev.iand H16 i16_62 ?_
          refine Rd.istore_n H16 i16_63 (Nat.le_of_ble_eq_true rfl) (lv2 := fun x3 => [(2, .int x3), (4, .int x2), (0, .ref a), (1, .int v1), (3, .int v3)]) (fun _ => rfl) h (fun x3 h => ?_)
          refine Rd.iinc H16 i16_64 (Nat.le_of_ble_eq_true rfl) rfl kI_1 (lv2 := fun x4 => [(3, .int x4), (2, .int x3), (4, .int x2), (0, .ref a), (1, .int v1)]) (fun _ => rfl) h (fun x4 h => ?_)
          refine Ev.goto H16 i16_67 (t := 29) (by decide) ?_
          exact Ev.sub (l := [(0, .ref a), (1, .int v1), (2, .int x3), (3, .int x4)]) rfl rfl (mm_sub_c rfl (mm_sub_c rfl (mm_sub_c rfl (mm_sub_c rfl mm_sub_n)))) (ih _ _ _ _ _ h)
        · refine Ev.iload H16 i16_52 rfl ?_
          exact Rd.ireturn H16 i16_54 rfl h
/-- SerialGate$History.serialRow(I)I -/
def q16 (a : Nat) (v1 : Int32) (s : mS) : Option mQ := if v1 < 0 then (rv (-1 : Int32) s) else (if v1 < (s.1 a 0) then (bM (q18 a s) fun s5 => bx ((shlI (1 : Int32) (s5.1 a 0)) - (1 : Int32)) fun x6 => q16_29 a 10000 v1 x6 (0 : Int32) s5) else (rv (-1 : Int32) s))
theorem c16 {L : Nat} {xs : Nat → Int32} {a : Nat} (ma : a ∈ A1) {v1 : Int32} {s : mS} {r : mQ} (h : q16 a v1 s = some r) : ∀ d, 2 ≤ d → Cl L xs d 16 [.ref a, .int v1] (hp s) (hr r) := by
  intro d hd
  show Ev L xs d 16 0 [(0, .ref a), (1, .int v1)] [] (hp s) (hr r)
  unfold q16 at h
  refine Ev.iload_n H16 i16_0 rfl ?_
  refine Rd.if_lt H16 i16_1 (t := 12) (by decide) h (fun hc h => ?_) (fun hc h => ?_)
  · refine Ev.iconst H16 i16_12 kI_m1 ?_
    exact Rd.ireturn H16 i16_13 rfl h
  · refine Ev.iload_n H16 i16_4 rfl ?_
    refine Ev.aload_n H16 i16_5 rfl ?_
    refine Rd.getI H16 i16_6 (ob1 ma) rfl ?_
    refine Rd.ic_lt H16 i16_9 (t := 14) (by decide) h (fun hc h => ?_) (fun hc h => ?_)
    · refine Ev.aload_n H16 i16_14 rfl ?_
      refine Rd.cV0uN H16 i16_15 cal18 (ob1 ma) (Nat.le_of_ble_eq_true rfl) (Nat.le_of_ble_eq_true rfl) (Nat.lt_of_lt_of_le (by decide) hd) (fun q hq => c18 ma hq) h (fun s5 h => ?_)
      refine Ev.iconst H16 i16_18 kI_1 ?_
      refine Ev.aload_n H16 i16_19 rfl ?_
      refine Rd.getI H16 i16_20 (ob1 ma) rfl ?_
      refine Rd.ishl H16 i16_23 ?_
      refine Ev.iconst H16 i16_24 kI_1 ?_
      refine Ev.isub H16 i16_25 ?_
      refine Rd.istore_n H16 i16_26 (Nat.le_of_ble_eq_true rfl) (lv2 := fun x6 => [(2, .int x6), (0, .ref a), (1, .int v1)]) (fun _ => rfl) h (fun x6 h => ?_)
      refine Ev.iconst H16 i16_27 kI_0 ?_
      refine Ev.istore_n H16 i16_28 (Nat.le_of_ble_eq_true rfl) (lv2 := [(3, .int (0 : Int32)), (2, .int x6), (0, .ref a), (1, .int v1)]) rfl ?_
      exact Ev.sub (l := [(0, .ref a), (1, .int v1), (2, .int x6), (3, .int (0 : Int32))]) rfl rfl (mm_sub_c rfl (mm_sub_c rfl (mm_sub_c rfl (mm_sub_c rfl mm_sub_n)))) (t16_29 ma hd 10000 _ _ _ _ _ h)
    · refine Ev.iconst H16 i16_12 kI_m1 ?_
      exact Rd.ireturn H16 i16_13 rfl h
theorem i21_0 : mm_cd 21 0 = some (.aload_n 0, 1, 0, 0) := rfl
theorem i21_1 : mm_cd 21 1 = some (.aload_n 1, 1, 0, 0) := rfl
theorem i21_2 : mm_cd 21 2 = some (.getfield 9, 3, ((2 : Nat) : Int), 0) := rfl
theorem i21_5 : mm_cd 21 5 = some (.putfield 9, 3, ((2 : Nat) : Int), 0) := rfl
theorem i21_8 : mm_cd 21 8 = some (.aload_n 0, 1, 0, 0) := rfl
theorem i21_9 : mm_cd 21 9 = some (.aload_n 1, 1, 0, 0) := rfl
theorem i21_10 : mm_cd 21 10 = some (.getfield 15, 3, ((2 : Nat) : Int), 1) := rfl
theorem i21_13 : mm_cd 21 13 = some (.putfield 15, 3, ((2 : Nat) : Int), 1) := rfl
theorem i21_16 : mm_cd 21 16 = some (.aload_n 1, 1, 0, 0) := rfl
theorem i21_17 : mm_cd 21 17 = some (.getfield 18, 3, ((2 : Nat) : Int), 2) := rfl
theorem i21_20 : mm_cd 21 20 = some (.iconst 0, 1, 0, 0) := rfl
theorem i21_21 : mm_cd 21 21 = some (.aload_n 0, 1, 0, 0) := rfl
theorem i21_22 : mm_cd 21 22 = some (.getfield 18, 3, ((2 : Nat) : Int), 2) := rfl
theorem i21_25 : mm_cd 21 25 = some (.iconst 0, 1, 0, 0) := rfl
theorem i21_26 : mm_cd 21 26 = some (.bipush 12, 2, 0, 0) := rfl
theorem i21_28 : mm_cd 21 28 = some (.invokestatic 39, 3, 1, 0) := rfl
theorem i21_31 : mm_cd 21 31 = some (.aload_n 1, 1, 0, 0) := rfl
theorem i21_32 : mm_cd 21 32 = some (.getfield 22, 3, ((2 : Nat) : Int), 3) := rfl
theorem i21_35 : mm_cd 21 35 = some (.iconst 0, 1, 0, 0) := rfl
theorem i21_36 : mm_cd 21 36 = some (.aload_n 0, 1, 0, 0) := rfl
theorem i21_37 : mm_cd 21 37 = some (.getfield 22, 3, ((2 : Nat) : Int), 3) := rfl
theorem i21_40 : mm_cd 21 40 = some (.iconst 0, 1, 0, 0) := rfl
theorem i21_41 : mm_cd 21 41 = some (.bipush 12, 2, 0, 0) := rfl
theorem i21_43 : mm_cd 21 43 = some (.invokestatic 39, 3, 1, 0) := rfl
theorem i21_46 : mm_cd 21 46 = some (.aload_n 1, 1, 0, 0) := rfl
theorem i21_47 : mm_cd 21 47 = some (.getfield 25, 3, ((2 : Nat) : Int), 4) := rfl
theorem i21_50 : mm_cd 21 50 = some (.iconst 0, 1, 0, 0) := rfl
theorem i21_51 : mm_cd 21 51 = some (.aload_n 0, 1, 0, 0) := rfl
theorem i21_52 : mm_cd 21 52 = some (.getfield 25, 3, ((2 : Nat) : Int), 4) := rfl
theorem i21_55 : mm_cd 21 55 = some (.iconst 0, 1, 0, 0) := rfl
theorem i21_56 : mm_cd 21 56 = some (.bipush 12, 2, 0, 0) := rfl
theorem i21_58 : mm_cd 21 58 = some (.invokestatic 39, 3, 1, 0) := rfl
theorem i21_61 : mm_cd 21 61 = some (.aload_n 1, 1, 0, 0) := rfl
theorem i21_62 : mm_cd 21 62 = some (.getfield 30, 3, ((2 : Nat) : Int), 5) := rfl
theorem i21_65 : mm_cd 21 65 = some (.iconst 0, 1, 0, 0) := rfl
theorem i21_66 : mm_cd 21 66 = some (.aload_n 0, 1, 0, 0) := rfl
theorem i21_67 : mm_cd 21 67 = some (.getfield 30, 3, ((2 : Nat) : Int), 5) := rfl
theorem i21_70 : mm_cd 21 70 = some (.iconst 0, 1, 0, 0) := rfl
theorem i21_71 : mm_cd 21 71 = some (.sipush 400, 3, 0, 0) := rfl
theorem i21_74 : mm_cd 21 74 = some (.invokestatic 39, 3, 1, 0) := rfl
theorem i21_77 : mm_cd 21 77 = some (.return_, 1, 0, 0) := rfl
/-- SerialGate$Law.copyFrom(LSerialGate$Law;)V -/
def q21 (a : Nat) (b : Nat) (s : mS) : Option mQ := sp (sI s a 0 (s.1 b 0)) fun s1 => sp (sI s1 a 1 (s1.1 b 1)) fun s2 => gC 12 12 (0 : Int32) (0 : Int32) (12 : Int32) <| sp (sC s2 (b + 1) (a + 1) (0 : Int32).toNatClampNeg (0 : Int32).toNatClampNeg (12 : Int32).toNatClampNeg) fun s3 => gC 12 12 (0 : Int32) (0 : Int32) (12 : Int32) <| sp (sC s3 (b + 2) (a + 2) (0 : Int32).toNatClampNeg (0 : Int32).toNatClampNeg (12 : Int32).toNatClampNeg) fun s4 => gC 12 12 (0 : Int32) (0 : Int32) (12 : Int32) <| sp (sC s4 (b + 3) (a + 3) (0 : Int32).toNatClampNeg (0 : Int32).toNatClampNeg (12 : Int32).toNatClampNeg) fun s5 => gC 400 400 (0 : Int32) (0 : Int32) (400 : Int32) <| sp (sC s5 (b + 4) (a + 4) (0 : Int32).toNatClampNeg (0 : Int32).toNatClampNeg (400 : Int32).toNatClampNeg) fun s6 => ru s6
theorem c21 {L : Nat} {xs : Nat → Int32} {a : Nat} {b : Nat} (ma : a ∈ A2) (mb : b ∈ A2) {s : mS} {r : mQ} (h : q21 a b s = some r) : ∀ d, 0 ≤ d → Cl L xs d 21 [.ref a, .ref b] (hp s) (hr r) := by
  intro d hd
  show Ev L xs d 21 0 [(0, .ref a), (1, .ref b)] [] (hp s) (hr r)
  unfold q21 at h
  refine Ev.aload_n H21 i21_0 rfl ?_
  refine Ev.aload_n H21 i21_1 rfl ?_
  refine Rd.getI H21 i21_2 (ob2 mb) rfl ?_
  refine Rd.putI H21 i21_5 (ob2 ma) rfl ty2_0.1 ty2_0.2 h (fun s1 h => ?_)
  refine Ev.aload_n H21 i21_8 rfl ?_
  refine Ev.aload_n H21 i21_9 rfl ?_
  refine Rd.getI H21 i21_10 (ob2 mb) rfl ?_
  refine Rd.putI H21 i21_13 (ob2 ma) rfl ty2_1.1 ty2_1.2 h (fun s2 h => ?_)
  refine Ev.aload_n H21 i21_16 rfl ?_
  refine Rd.getR H21 i21_17 (ob2 mb) rfl ?_
  refine Ev.iconst H21 i21_20 kI_0 ?_
  refine Ev.aload_n H21 i21_21 rfl ?_
  refine Rd.getR H21 i21_22 (ob2 ma) rfl ?_
  refine Ev.iconst H21 i21_25 kI_0 ?_
  refine Ev.bipush H21 i21_26 kB_12 ?_
  refine Rd.copy H21 i21_28 (ar2_1 mb) (ar2_1 ma) (Nat.le_of_ble_eq_true rfl) h (fun s3 h => ?_)
  refine Ev.aload_n H21 i21_31 rfl ?_
  refine Rd.getR H21 i21_32 (ob2 mb) rfl ?_
  refine Ev.iconst H21 i21_35 kI_0 ?_
  refine Ev.aload_n H21 i21_36 rfl ?_
  refine Rd.getR H21 i21_37 (ob2 ma) rfl ?_
  refine Ev.iconst H21 i21_40 kI_0 ?_
  refine Ev.bipush H21 i21_41 kB_12 ?_
  refine Rd.copy H21 i21_43 (ar2_2 mb) (ar2_2 ma) (Nat.le_of_ble_eq_true rfl) h (fun s4 h => ?_)
  refine Ev.aload_n H21 i21_46 rfl ?_
  refine Rd.getR H21 i21_47 (ob2 mb) rfl ?_
  refine Ev.iconst H21 i21_50 kI_0 ?_
  refine Ev.aload_n H21 i21_51 rfl ?_
  refine Rd.getR H21 i21_52 (ob2 ma) rfl ?_
  refine Ev.iconst H21 i21_55 kI_0 ?_
  refine Ev.bipush H21 i21_56 kB_12 ?_
  refine Rd.copy H21 i21_58 (ar2_3 mb) (ar2_3 ma) (Nat.le_of_ble_eq_true rfl) h (fun s5 h => ?_)
  refine Ev.aload_n H21 i21_61 rfl ?_
  refine Rd.getR H21 i21_62 (ob2 mb) rfl ?_
  refine Ev.iconst H21 i21_65 kI_0 ?_
  refine Ev.aload_n H21 i21_66 rfl ?_
  refine Rd.getR H21 i21_67 (ob2 ma) rfl ?_
  refine Ev.iconst H21 i21_70 kI_0 ?_
  refine Ev.sipush H21 i21_71 kS_400 ?_
  refine Rd.copy H21 i21_74 (ar2_4 mb) (ar2_4 ma) (Nat.le_of_ble_eq_true rfl) h (fun s6 h => ?_)
  exact Rd.return_ H21 i21_77 rfl h
theorem i22_0 : mm_cd 22 0 = some (.aload_n 0, 1, 0, 0) := rfl
theorem i22_1 : mm_cd 22 1 = some (.iconst 0, 1, 0, 0) := rfl
theorem i22_2 : mm_cd 22 2 = some (.putfield 9, 3, ((2 : Nat) : Int), 0) := rfl
theorem i22_5 : mm_cd 22 5 = some (.aload_n 0, 1, 0, 0) := rfl
theorem i22_6 : mm_cd 22 6 = some (.iconst 0, 1, 0, 0) := rfl
theorem i22_7 : mm_cd 22 7 = some (.putfield 15, 3, ((2 : Nat) : Int), 1) := rfl
theorem i22_10 : mm_cd 22 10 = some (.return_, 1, 0, 0) := rfl
/-- SerialGate$Law.clear()V -/
def q22 (a : Nat) (s : mS) : Option mQ := sp (sI s a 0 (0 : Int32)) fun s1 => sp (sI s1 a 1 (0 : Int32)) fun s2 => ru s2
theorem c22 {L : Nat} {xs : Nat → Int32} {a : Nat} (ma : a ∈ A2) {s : mS} {r : mQ} (h : q22 a s = some r) : ∀ d, 0 ≤ d → Cl L xs d 22 [.ref a] (hp s) (hr r) := by
  intro d hd
  show Ev L xs d 22 0 [(0, .ref a)] [] (hp s) (hr r)
  unfold q22 at h
  refine Ev.aload_n H22 i22_0 rfl ?_
  refine Ev.iconst H22 i22_1 kI_0 ?_
  refine Rd.putI H22 i22_2 (ob2 ma) rfl ty2_0.1 ty2_0.2 h (fun s1 h => ?_)
  refine Ev.aload_n H22 i22_5 rfl ?_
  refine Ev.iconst H22 i22_6 kI_0 ?_
  refine Rd.putI H22 i22_7 (ob2 ma) rfl ty2_1.1 ty2_1.2 h (fun s2 h => ?_)
  exact Rd.return_ H22 i22_10 rfl h
theorem i23_0 : mm_cd 23 0 = some (.aload_n 0, 1, 0, 0) := rfl
theorem i23_1 : mm_cd 23 1 = some (.getfield 15, 3, ((2 : Nat) : Int), 1) := rfl
theorem i23_4 : mm_cd 23 4 = some (.sipush 400, 3, 0, 0) := rfl
theorem i23_7 : mm_cd 23 7 = some (.if_icmp .ge 23, 3, 0, 0) := rfl
theorem i23_10 : mm_cd 23 10 = some (.aload_n 0, 1, 0, 0) := rfl
theorem i23_11 : mm_cd 23 11 = some (.getfield 30, 3, ((2 : Nat) : Int), 5) := rfl
theorem i23_14 : mm_cd 23 14 = some (.aload_n 0, 1, 0, 0) := rfl
theorem i23_15 : mm_cd 23 15 = some (.getfield 15, 3, ((2 : Nat) : Int), 1) := rfl
theorem i23_18 : mm_cd 23 18 = some (.iload_n 1, 1, 0, 0) := rfl
theorem i23_19 : mm_cd 23 19 = some (.iastore, 1, 0, 0) := rfl
theorem i23_20 : mm_cd 23 20 = some (.aload_n 0, 1, 0, 0) := rfl
theorem i23_21 : mm_cd 23 21 = some (.dup, 1, 0, 0) := rfl
theorem i23_22 : mm_cd 23 22 = some (.getfield 15, 3, ((2 : Nat) : Int), 1) := rfl
theorem i23_25 : mm_cd 23 25 = some (.iconst 1, 1, 0, 0) := rfl
theorem i23_26 : mm_cd 23 26 = some (.iadd, 1, 0, 0) := rfl
theorem i23_27 : mm_cd 23 27 = some (.putfield 15, 3, ((2 : Nat) : Int), 1) := rfl
theorem i23_30 : mm_cd 23 30 = some (.return_, 1, 0, 0) := rfl
/-- SerialGate$Law.add(I)V -/
def q23 (a : Nat) (v1 : Int32) (s : mS) : Option mQ := if (400 : Int32) ≤ (s.1 a 1) then (ru s) else (gA 400 (s.1 a 1) <| sp (sI s (a + 4) (s.1 a 1).toNatClampNeg v1) fun s1 => sp (sI s1 a 1 ((s1.1 a 1) + (1 : Int32))) fun s2 => ru s2)
theorem c23 {L : Nat} {xs : Nat → Int32} {a : Nat} (ma : a ∈ A2) {v1 : Int32} {s : mS} {r : mQ} (h : q23 a v1 s = some r) : ∀ d, 0 ≤ d → Cl L xs d 23 [.ref a, .int v1] (hp s) (hr r) := by
  intro d hd
  show Ev L xs d 23 0 [(0, .ref a), (1, .int v1)] [] (hp s) (hr r)
  unfold q23 at h
  refine Ev.aload_n H23 i23_0 rfl ?_
  refine Rd.getI H23 i23_1 (ob2 ma) rfl ?_
  refine Ev.sipush H23 i23_4 kS_400 ?_
  refine Rd.ic_ge H23 i23_7 (t := 30) (by decide) h (fun hc h => ?_) (fun hc h => ?_)
  · exact Rd.return_ H23 i23_30 rfl h
  · refine Ev.aload_n H23 i23_10 rfl ?_
    refine Rd.getR H23 i23_11 (ob2 ma) rfl ?_
    refine Ev.aload_n H23 i23_14 rfl ?_
    refine Rd.getI H23 i23_15 (ob2 ma) rfl ?_
    refine Ev.iload_n H23 i23_18 rfl ?_
    refine Rd.iastore H23 i23_19 (ar2_4 ma) h (fun s1 h => ?_)
    refine Ev.aload_n H23 i23_20 rfl ?_
    refine Ev.dup H23 i23_21 rfl ?_
    refine Rd.getI H23 i23_22 (ob2 ma) rfl ?_
    refine Ev.iconst H23 i23_25 kI_1 ?_
    refine Ev.iadd H23 i23_26 ?_
    refine Rd.putI H23 i23_27 (ob2 ma) rfl ty2_1.1 ty2_1.2 h (fun s2 h => ?_)
    exact Rd.return_ H23 i23_30 rfl h
theorem i24_0 : mm_cd 24 0 = some (.aload_n 0, 1, 0, 0) := rfl
theorem i24_1 : mm_cd 24 1 = some (.getfield 9, 3, ((2 : Nat) : Int), 0) := rfl
theorem i24_4 : mm_cd 24 4 = some (.ifCond .lt 55, 3, 0, 0) := rfl
theorem i24_7 : mm_cd 24 7 = some (.aload_n 0, 1, 0, 0) := rfl
theorem i24_8 : mm_cd 24 8 = some (.getfield 9, 3, ((2 : Nat) : Int), 0) := rfl
theorem i24_11 : mm_cd 24 11 = some (.bipush 12, 2, 0, 0) := rfl
theorem i24_13 : mm_cd 24 13 = some (.if_icmp .ge 46, 3, 0, 0) := rfl
theorem i24_16 : mm_cd 24 16 = some (.aload_n 0, 1, 0, 0) := rfl
theorem i24_17 : mm_cd 24 17 = some (.getfield 18, 3, ((2 : Nat) : Int), 2) := rfl
theorem i24_20 : mm_cd 24 20 = some (.aload_n 0, 1, 0, 0) := rfl
theorem i24_21 : mm_cd 24 21 = some (.getfield 9, 3, ((2 : Nat) : Int), 0) := rfl
theorem i24_24 : mm_cd 24 24 = some (.iload_n 1, 1, 0, 0) := rfl
theorem i24_25 : mm_cd 24 25 = some (.iastore, 1, 0, 0) := rfl
theorem i24_26 : mm_cd 24 26 = some (.aload_n 0, 1, 0, 0) := rfl
theorem i24_27 : mm_cd 24 27 = some (.getfield 22, 3, ((2 : Nat) : Int), 3) := rfl
theorem i24_30 : mm_cd 24 30 = some (.aload_n 0, 1, 0, 0) := rfl
theorem i24_31 : mm_cd 24 31 = some (.getfield 9, 3, ((2 : Nat) : Int), 0) := rfl
theorem i24_34 : mm_cd 24 34 = some (.iload_n 2, 1, 0, 0) := rfl
theorem i24_35 : mm_cd 24 35 = some (.iastore, 1, 0, 0) := rfl
theorem i24_36 : mm_cd 24 36 = some (.aload_n 0, 1, 0, 0) := rfl
theorem i24_37 : mm_cd 24 37 = some (.getfield 25, 3, ((2 : Nat) : Int), 4) := rfl
theorem i24_40 : mm_cd 24 40 = some (.aload_n 0, 1, 0, 0) := rfl
theorem i24_41 : mm_cd 24 41 = some (.getfield 9, 3, ((2 : Nat) : Int), 0) := rfl
theorem i24_44 : mm_cd 24 44 = some (.aload_n 0, 1, 0, 0) := rfl
theorem i24_45 : mm_cd 24 45 = some (.getfield 15, 3, ((2 : Nat) : Int), 1) := rfl
theorem i24_48 : mm_cd 24 48 = some (.iastore, 1, 0, 0) := rfl
theorem i24_49 : mm_cd 24 49 = some (.aload_n 0, 1, 0, 0) := rfl
theorem i24_50 : mm_cd 24 50 = some (.dup, 1, 0, 0) := rfl
theorem i24_51 : mm_cd 24 51 = some (.getfield 9, 3, ((2 : Nat) : Int), 0) := rfl
theorem i24_54 : mm_cd 24 54 = some (.iconst 1, 1, 0, 0) := rfl
theorem i24_55 : mm_cd 24 55 = some (.iadd, 1, 0, 0) := rfl
theorem i24_56 : mm_cd 24 56 = some (.putfield 9, 3, ((2 : Nat) : Int), 0) := rfl
theorem i24_59 : mm_cd 24 59 = some (.return_, 1, 0, 0) := rfl
/-- SerialGate$Law.endLine(II)V -/
def q24 (a : Nat) (v1 : Int32) (v2 : Int32) (s : mS) : Option mQ := if (s.1 a 0) < 0 then (ru s) else (if (12 : Int32) ≤ (s.1 a 0) then (ru s) else (gA 12 (s.1 a 0) <| sp (sI s (a + 1) (s.1 a 0).toNatClampNeg v1) fun s1 => gA 12 (s1.1 a 0) <| sp (sI s1 (a + 2) (s1.1 a 0).toNatClampNeg v2) fun s2 => gA 12 (s2.1 a 0) <| sp (sI s2 (a + 3) (s2.1 a 0).toNatClampNeg (s2.1 a 1)) fun s3 => sp (sI s3 a 0 ((s3.1 a 0) + (1 : Int32))) fun s4 => ru s4))
theorem c24 {L : Nat} {xs : Nat → Int32} {a : Nat} (ma : a ∈ A2) {v1 : Int32} {v2 : Int32} {s : mS} {r : mQ} (h : q24 a v1 v2 s = some r) : ∀ d, 0 ≤ d → Cl L xs d 24 [.ref a, .int v1, .int v2] (hp s) (hr r) := by
  intro d hd
  show Ev L xs d 24 0 [(0, .ref a), (1, .int v1), (2, .int v2)] [] (hp s) (hr r)
  unfold q24 at h
  refine Ev.aload_n H24 i24_0 rfl ?_
  refine Rd.getI H24 i24_1 (ob2 ma) rfl ?_
  refine Rd.if_lt H24 i24_4 (t := 59) (by decide) h (fun hc h => ?_) (fun hc h => ?_)
  · exact Rd.return_ H24 i24_59 rfl h
  · refine Ev.aload_n H24 i24_7 rfl ?_
    refine Rd.getI H24 i24_8 (ob2 ma) rfl ?_
    refine Ev.bipush H24 i24_11 kB_12 ?_
    refine Rd.ic_ge H24 i24_13 (t := 59) (by decide) h (fun hc h => ?_) (fun hc h => ?_)
    · exact Rd.return_ H24 i24_59 rfl h
    · refine Ev.aload_n H24 i24_16 rfl ?_
      refine Rd.getR H24 i24_17 (ob2 ma) rfl ?_
      refine Ev.aload_n H24 i24_20 rfl ?_
      refine Rd.getI H24 i24_21 (ob2 ma) rfl ?_
      refine Ev.iload_n H24 i24_24 rfl ?_
      refine Rd.iastore H24 i24_25 (ar2_1 ma) h (fun s1 h => ?_)
      refine Ev.aload_n H24 i24_26 rfl ?_
      refine Rd.getR H24 i24_27 (ob2 ma) rfl ?_
      refine Ev.aload_n H24 i24_30 rfl ?_
      refine Rd.getI H24 i24_31 (ob2 ma) rfl ?_
      refine Ev.iload_n H24 i24_34 rfl ?_
      refine Rd.iastore H24 i24_35 (ar2_2 ma) h (fun s2 h => ?_)
      refine Ev.aload_n H24 i24_36 rfl ?_
      refine Rd.getR H24 i24_37 (ob2 ma) rfl ?_
      refine Ev.aload_n H24 i24_40 rfl ?_
      refine Rd.getI H24 i24_41 (ob2 ma) rfl ?_
      refine Ev.aload_n H24 i24_44 rfl ?_
      refine Rd.getI H24 i24_45 (ob2 ma) rfl ?_
      refine Rd.iastore H24 i24_48 (ar2_3 ma) h (fun s3 h => ?_)
      refine Ev.aload_n H24 i24_49 rfl ?_
      refine Ev.dup H24 i24_50 rfl ?_
      refine Rd.getI H24 i24_51 (ob2 ma) rfl ?_
      refine Ev.iconst H24 i24_54 kI_1 ?_
      refine Ev.iadd H24 i24_55 ?_
      refine Rd.putI H24 i24_56 (ob2 ma) rfl ty2_0.1 ty2_0.2 h (fun s4 h => ?_)
      exact Rd.return_ H24 i24_59 rfl h
theorem i26_0 : mm_cd 26 0 = some (.iconst 0, 1, 0, 0) := rfl
theorem i26_1 : mm_cd 26 1 = some (.istore_n 2, 1, 0, 0) := rfl
theorem i26_2 : mm_cd 26 2 = some (.iload_n 1, 1, 0, 0) := rfl
theorem i26_3 : mm_cd 26 3 = some (.ifCond .ne 7, 3, 0, 0) := rfl
theorem i26_6 : mm_cd 26 6 = some (.iconst 0, 1, 0, 0) := rfl
theorem i26_7 : mm_cd 26 7 = some (.goto 11, 3, 0, 0) := rfl
theorem i26_10 : mm_cd 26 10 = some (.aload_n 0, 1, 0, 0) := rfl
theorem i26_11 : mm_cd 26 11 = some (.getfield 25, 3, ((2 : Nat) : Int), 4) := rfl
theorem i26_14 : mm_cd 26 14 = some (.iload_n 1, 1, 0, 0) := rfl
theorem i26_15 : mm_cd 26 15 = some (.iconst 1, 1, 0, 0) := rfl
theorem i26_16 : mm_cd 26 16 = some (.isub, 1, 0, 0) := rfl
theorem i26_17 : mm_cd 26 17 = some (.iaload, 1, 0, 0) := rfl
theorem i26_18 : mm_cd 26 18 = some (.istore_n 3, 1, 0, 0) := rfl
theorem i26_19 : mm_cd 26 19 = some (.iload_n 3, 1, 0, 0) := rfl
theorem i26_20 : mm_cd 26 20 = some (.aload_n 0, 1, 0, 0) := rfl
theorem i26_21 : mm_cd 26 21 = some (.getfield 25, 3, ((2 : Nat) : Int), 4) := rfl
theorem i26_24 : mm_cd 26 24 = some (.iload_n 1, 1, 0, 0) := rfl
theorem i26_25 : mm_cd 26 25 = some (.iaload, 1, 0, 0) := rfl
theorem i26_26 : mm_cd 26 26 = some (.if_icmp .ge 259, 3, 0, 0) := rfl
theorem i26_29 : mm_cd 26 29 = some (.aload_n 0, 1, 0, 0) := rfl
theorem i26_30 : mm_cd 26 30 = some (.getfield 30, 3, ((2 : Nat) : Int), 5) := rfl
theorem i26_33 : mm_cd 26 33 = some (.iload_n 3, 1, 0, 0) := rfl
theorem i26_34 : mm_cd 26 34 = some (.iaload, 1, 0, 0) := rfl
theorem i26_35 : mm_cd 26 35 = some (.istore 4, 2, 0, 0) := rfl
theorem i26_37 : mm_cd 26 37 = some (.iload 4, 2, 0, 0) := rfl
theorem i26_39 : mm_cd 26 39 = some (.sipush 1010, 3, 0, 0) := rfl
theorem i26_42 : mm_cd 26 42 = some (.if_icmp .ge 45, 3, 0, 0) := rfl
theorem i26_45 : mm_cd 26 45 = some (.iload_n 2, 1, 0, 0) := rfl
theorem i26_46 : mm_cd 26 46 = some (.bipush 40, 2, 0, 0) := rfl
theorem i26_48 : mm_cd 26 48 = some (.if_icmp .ge 39, 3, 0, 0) := rfl
theorem i26_51 : mm_cd 26 51 = some (.aload_n 0, 1, 0, 0) := rfl
theorem i26_52 : mm_cd 26 52 = some (.getfield 36, 3, ((2 : Nat) : Int), 7) := rfl
theorem i26_55 : mm_cd 26 55 = some (.iload_n 2, 1, 0, 0) := rfl
theorem i26_56 : mm_cd 26 56 = some (.iload 4, 2, 0, 0) := rfl
theorem i26_58 : mm_cd 26 58 = some (.sipush 1000, 3, 0, 0) := rfl
theorem i26_61 : mm_cd 26 61 = some (.if_icmp .ge 8, 3, 0, 0) := rfl
theorem i26_64 : mm_cd 26 64 = some (.iload 4, 2, 0, 0) := rfl
theorem i26_66 : mm_cd 26 66 = some (.goto 14, 3, 0, 0) := rfl
theorem i26_69 : mm_cd 26 69 = some (.aload_n 0, 1, 0, 0) := rfl
theorem i26_70 : mm_cd 26 70 = some (.getfield 33, 3, ((2 : Nat) : Int), 6) := rfl
theorem i26_73 : mm_cd 26 73 = some (.iload 4, 2, 0, 0) := rfl
theorem i26_75 : mm_cd 26 75 = some (.sipush 1000, 3, 0, 0) := rfl
theorem i26_78 : mm_cd 26 78 = some (.isub, 1, 0, 0) := rfl
theorem i26_79 : mm_cd 26 79 = some (.iaload, 1, 0, 0) := rfl
theorem i26_80 : mm_cd 26 80 = some (.iastore, 1, 0, 0) := rfl
theorem i26_81 : mm_cd 26 81 = some (.iinc 2 1, 3, 0, 0) := rfl
theorem i26_84 : mm_cd 26 84 = some (.goto 195, 3, 0, 0) := rfl
theorem i26_87 : mm_cd 26 87 = some (.iload 4, 2, 0, 0) := rfl
theorem i26_89 : mm_cd 26 89 = some (.sipush 2000, 3, 0, 0) := rfl
theorem i26_92 : mm_cd 26 92 = some (.if_icmp .ne 29, 3, 0, 0) := rfl
theorem i26_95 : mm_cd 26 95 = some (.iload_n 2, 1, 0, 0) := rfl
theorem i26_96 : mm_cd 26 96 = some (.iconst 1, 1, 0, 0) := rfl
theorem i26_97 : mm_cd 26 97 = some (.if_icmp .lt 24, 3, 0, 0) := rfl
theorem i26_100 : mm_cd 26 100 = some (.aload_n 0, 1, 0, 0) := rfl
theorem i26_101 : mm_cd 26 101 = some (.getfield 36, 3, ((2 : Nat) : Int), 7) := rfl
theorem i26_104 : mm_cd 26 104 = some (.iload_n 2, 1, 0, 0) := rfl
theorem i26_105 : mm_cd 26 105 = some (.iconst 1, 1, 0, 0) := rfl
theorem i26_106 : mm_cd 26 106 = some (.isub, 1, 0, 0) := rfl
theorem i26_107 : mm_cd 26 107 = some (.iconst 1, 1, 0, 0) := rfl
theorem i26_108 : mm_cd 26 108 = some (.aload_n 0, 1, 0, 0) := rfl
theorem i26_109 : mm_cd 26 109 = some (.getfield 36, 3, ((2 : Nat) : Int), 7) := rfl
theorem i26_112 : mm_cd 26 112 = some (.iload_n 2, 1, 0, 0) := rfl
theorem i26_113 : mm_cd 26 113 = some (.iconst 1, 1, 0, 0) := rfl
theorem i26_114 : mm_cd 26 114 = some (.isub, 1, 0, 0) := rfl
theorem i26_115 : mm_cd 26 115 = some (.iaload, 1, 0, 0) := rfl
theorem i26_116 : mm_cd 26 116 = some (.isub, 1, 0, 0) := rfl
theorem i26_117 : mm_cd 26 117 = some (.iastore, 1, 0, 0) := rfl
theorem i26_118 : mm_cd 26 118 = some (.goto 161, 3, 0, 0) := rfl
theorem i26_121 : mm_cd 26 121 = some (.iload 4, 2, 0, 0) := rfl
theorem i26_123 : mm_cd 26 123 = some (.sipush 2000, 3, 0, 0) := rfl
theorem i26_126 : mm_cd 26 126 = some (.if_icmp .le 153, 3, 0, 0) := rfl
theorem i26_129 : mm_cd 26 129 = some (.iload_n 2, 1, 0, 0) := rfl
theorem i26_130 : mm_cd 26 130 = some (.iconst 2, 1, 0, 0) := rfl
theorem i26_131 : mm_cd 26 131 = some (.if_icmp .lt 148, 3, 0, 0) := rfl
theorem i26_134 : mm_cd 26 134 = some (.iinc 2 (-1), 3, 0, 0) := rfl
theorem i26_137 : mm_cd 26 137 = some (.aload_n 0, 1, 0, 0) := rfl
theorem i26_138 : mm_cd 26 138 = some (.getfield 36, 3, ((2 : Nat) : Int), 7) := rfl
theorem i26_141 : mm_cd 26 141 = some (.iload_n 2, 1, 0, 0) := rfl
theorem i26_142 : mm_cd 26 142 = some (.iconst 1, 1, 0, 0) := rfl
theorem i26_143 : mm_cd 26 143 = some (.isub, 1, 0, 0) := rfl
theorem i26_144 : mm_cd 26 144 = some (.iaload, 1, 0, 0) := rfl
theorem i26_145 : mm_cd 26 145 = some (.istore 5, 2, 0, 0) := rfl
theorem i26_147 : mm_cd 26 147 = some (.aload_n 0, 1, 0, 0) := rfl
theorem i26_148 : mm_cd 26 148 = some (.getfield 36, 3, ((2 : Nat) : Int), 7) := rfl
theorem i26_151 : mm_cd 26 151 = some (.iload_n 2, 1, 0, 0) := rfl
theorem i26_152 : mm_cd 26 152 = some (.iaload, 1, 0, 0) := rfl
theorem i26_153 : mm_cd 26 153 = some (.istore 6, 2, 0, 0) := rfl
theorem i26_155 : mm_cd 26 155 = some (.iload 4, 2, 0, 0) := rfl
theorem i26_157 : mm_cd 26 157 = some (.tableswitch 102 2001 2004 #[31, 47, 63, 79], 31, 0, 0) := rfl
theorem i26_188 : mm_cd 26 188 = some (.aload_n 0, 1, 0, 0) := rfl
theorem i26_189 : mm_cd 26 189 = some (.getfield 36, 3, ((2 : Nat) : Int), 7) := rfl
theorem i26_192 : mm_cd 26 192 = some (.iload_n 2, 1, 0, 0) := rfl
theorem i26_193 : mm_cd 26 193 = some (.iconst 1, 1, 0, 0) := rfl
theorem i26_194 : mm_cd 26 194 = some (.isub, 1, 0, 0) := rfl
theorem i26_195 : mm_cd 26 195 = some (.iload 5, 2, 0, 0) := rfl
theorem i26_197 : mm_cd 26 197 = some (.iload 6, 2, 0, 0) := rfl
theorem i26_199 : mm_cd 26 199 = some (.iand, 1, 0, 0) := rfl
theorem i26_200 : mm_cd 26 200 = some (.iastore, 1, 0, 0) := rfl
theorem i26_201 : mm_cd 26 201 = some (.goto 78, 3, 0, 0) := rfl
theorem i26_204 : mm_cd 26 204 = some (.aload_n 0, 1, 0, 0) := rfl
theorem i26_205 : mm_cd 26 205 = some (.getfield 36, 3, ((2 : Nat) : Int), 7) := rfl
theorem i26_208 : mm_cd 26 208 = some (.iload_n 2, 1, 0, 0) := rfl
theorem i26_209 : mm_cd 26 209 = some (.iconst 1, 1, 0, 0) := rfl
theorem i26_210 : mm_cd 26 210 = some (.isub, 1, 0, 0) := rfl
theorem i26_211 : mm_cd 26 211 = some (.iload 5, 2, 0, 0) := rfl
theorem i26_213 : mm_cd 26 213 = some (.iload 6, 2, 0, 0) := rfl
theorem i26_215 : mm_cd 26 215 = some (.ior, 1, 0, 0) := rfl
theorem i26_216 : mm_cd 26 216 = some (.iastore, 1, 0, 0) := rfl
theorem i26_217 : mm_cd 26 217 = some (.goto 62, 3, 0, 0) := rfl
theorem i26_220 : mm_cd 26 220 = some (.aload_n 0, 1, 0, 0) := rfl
theorem i26_221 : mm_cd 26 221 = some (.getfield 36, 3, ((2 : Nat) : Int), 7) := rfl
theorem i26_224 : mm_cd 26 224 = some (.iload_n 2, 1, 0, 0) := rfl
theorem i26_225 : mm_cd 26 225 = some (.iconst 1, 1, 0, 0) := rfl
theorem i26_226 : mm_cd 26 226 = some (.isub, 1, 0, 0) := rfl
theorem i26_227 : mm_cd 26 227 = some (.iload 5, 2, 0, 0) := rfl
theorem i26_229 : mm_cd 26 229 = some (.iload 6, 2, 0, 0) := rfl
theorem i26_231 : mm_cd 26 231 = some (.iadd, 1, 0, 0) := rfl
theorem i26_232 : mm_cd 26 232 = some (.iastore, 1, 0, 0) := rfl
theorem i26_233 : mm_cd 26 233 = some (.goto 46, 3, 0, 0) := rfl
theorem i26_236 : mm_cd 26 236 = some (.aload_n 0, 1, 0, 0) := rfl
theorem i26_237 : mm_cd 26 237 = some (.getfield 36, 3, ((2 : Nat) : Int), 7) := rfl
theorem i26_240 : mm_cd 26 240 = some (.iload_n 2, 1, 0, 0) := rfl
theorem i26_241 : mm_cd 26 241 = some (.iconst 1, 1, 0, 0) := rfl
theorem i26_242 : mm_cd 26 242 = some (.isub, 1, 0, 0) := rfl
theorem i26_243 : mm_cd 26 243 = some (.iload 5, 2, 0, 0) := rfl
theorem i26_245 : mm_cd 26 245 = some (.iload 6, 2, 0, 0) := rfl
theorem i26_247 : mm_cd 26 247 = some (.if_icmp .ge 7, 3, 0, 0) := rfl
theorem i26_250 : mm_cd 26 250 = some (.iconst 1, 1, 0, 0) := rfl
theorem i26_251 : mm_cd 26 251 = some (.goto 4, 3, 0, 0) := rfl
theorem i26_254 : mm_cd 26 254 = some (.iconst 0, 1, 0, 0) := rfl
theorem i26_255 : mm_cd 26 255 = some (.iastore, 1, 0, 0) := rfl
theorem i26_256 : mm_cd 26 256 = some (.goto 23, 3, 0, 0) := rfl
theorem i26_259 : mm_cd 26 259 = some (.aload_n 0, 1, 0, 0) := rfl
theorem i26_260 : mm_cd 26 260 = some (.getfield 36, 3, ((2 : Nat) : Int), 7) := rfl
theorem i26_263 : mm_cd 26 263 = some (.iload_n 2, 1, 0, 0) := rfl
theorem i26_264 : mm_cd 26 264 = some (.iconst 1, 1, 0, 0) := rfl
theorem i26_265 : mm_cd 26 265 = some (.isub, 1, 0, 0) := rfl
theorem i26_266 : mm_cd 26 266 = some (.iload 5, 2, 0, 0) := rfl
theorem i26_268 : mm_cd 26 268 = some (.iload 6, 2, 0, 0) := rfl
theorem i26_270 : mm_cd 26 270 = some (.if_icmp .le 7, 3, 0, 0) := rfl
theorem i26_273 : mm_cd 26 273 = some (.iconst 1, 1, 0, 0) := rfl
theorem i26_274 : mm_cd 26 274 = some (.goto 4, 3, 0, 0) := rfl
theorem i26_277 : mm_cd 26 277 = some (.iconst 0, 1, 0, 0) := rfl
theorem i26_278 : mm_cd 26 278 = some (.iastore, 1, 0, 0) := rfl
theorem i26_279 : mm_cd 26 279 = some (.iinc 3 1, 3, 0, 0) := rfl
theorem i26_282 : mm_cd 26 282 = some (.goto (-263), 3, 0, 0) := rfl
theorem i26_285 : mm_cd 26 285 = some (.iload_n 2, 1, 0, 0) := rfl
theorem i26_286 : mm_cd 26 286 = some (.ifCond .eq 12, 3, 0, 0) := rfl
theorem i26_289 : mm_cd 26 289 = some (.aload_n 0, 1, 0, 0) := rfl
theorem i26_290 : mm_cd 26 290 = some (.getfield 36, 3, ((2 : Nat) : Int), 7) := rfl
theorem i26_293 : mm_cd 26 293 = some (.iconst 0, 1, 0, 0) := rfl
theorem i26_294 : mm_cd 26 294 = some (.iaload, 1, 0, 0) := rfl
theorem i26_295 : mm_cd 26 295 = some (.ifCond .eq 7, 3, 0, 0) := rfl
theorem i26_298 : mm_cd 26 298 = some (.iconst 1, 1, 0, 0) := rfl
theorem i26_299 : mm_cd 26 299 = some (.goto 4, 3, 0, 0) := rfl
theorem i26_302 : mm_cd 26 302 = some (.iconst 0, 1, 0, 0) := rfl
theorem i26_303 : mm_cd 26 303 = some (.ireturn, 1, 0, 0) := rfl
def q26_279 (k19 : Int32 → Int32 → Int32 → mS → Option mQ) (a : Nat) (v1 : Int32) (v2 : Int32) (v3 : Int32) (s : mS) : Option mQ := bx (v3 + (1 : Int32)) fun x1 => k19 v1 v2 x1 s
theorem t26_279 {L : Nat} {xs : Nat → Int32} {d : Nat} {k19 : Int32 → Int32 → Int32 → mS → Option mQ} {a : Nat} (hk19 : ∀ (v1 : Int32) (v2 : Int32) (v3 : Int32) (s : mS) (r : mQ), k19 v1 v2 v3 s = some r → Ev L xs d 26 19 [(0, .ref a), (1, .int v1), (2, .int v2), (3, .int v3)] [] (hp s) (hr r)) (ma : a ∈ A2) (hd : 0 ≤ d) {v1 : Int32} {v2 : Int32} {v3 : Int32} {s : mS} {r : mQ} (h : q26_279 k19 a v1 v2 v3 s = some r) : Ev L xs d 26 279 [(0, .ref a), (1, .int v1), (2, .int v2), (3, .int v3)] [] (hp s) (hr r) := by
  unfold q26_279 at h
  refine Rd.iinc H26 i26_279 (Nat.le_of_ble_eq_true rfl) rfl kI_1 (lv2 := fun x1 => [(3, .int x1), (0, .ref a), (1, .int v1), (2, .int v2)]) (fun _ => rfl) h (fun x1 h => ?_)
  refine Ev.goto H26 i26_282 (t := 19) (by decide) ?_
  exact Ev.sub (l := [(0, .ref a), (1, .int v1), (2, .int v2), (3, .int x1)]) rfl rfl (mm_sub_c rfl (mm_sub_c rfl (mm_sub_c rfl (mm_sub_c rfl mm_sub_n)))) (hk19 _ _ _ _ _ h)
def q26_255 (k19 : Int32 → Int32 → Int32 → mS → Option mQ) (a : Nat) (v1 : Int32) (v2 : Int32) (v3 : Int32) (y1 : Int32) (y2 : Int32) (s : mS) : Option mQ := gA 40 y1 <| sp (sI s (a + 6) y1.toNatClampNeg y2) fun s2 => q26_279 k19 a v1 v2 v3 s2
theorem t26_255 {L : Nat} {xs : Nat → Int32} {d : Nat} {k19 : Int32 → Int32 → Int32 → mS → Option mQ} {a : Nat} (hk19 : ∀ (v1 : Int32) (v2 : Int32) (v3 : Int32) (s : mS) (r : mQ), k19 v1 v2 v3 s = some r → Ev L xs d 26 19 [(0, .ref a), (1, .int v1), (2, .int v2), (3, .int v3)] [] (hp s) (hr r)) (ma : a ∈ A2) (hd : 0 ≤ d) {v1 : Int32} {v2 : Int32} {v3 : Int32} {y1 : Int32} {y2 : Int32} {s : mS} {r : mQ} (h : q26_255 k19 a v1 v2 v3 y1 y2 s = some r) : Ev L xs d 26 255 [(0, .ref a), (1, .int v1), (2, .int v2), (3, .int v3)] [.int y2, .int y1, .ref (a + 6)] (hp s) (hr r) := by
  unfold q26_255 at h
  refine Rd.iastore H26 i26_255 (ar2_6 ma) h (fun s2 h => ?_)
  refine Ev.goto H26 i26_256 (t := 279) (by decide) ?_
  exact Ev.sub (l := [(0, .ref a), (1, .int v1), (2, .int v2), (3, .int v3)]) rfl rfl (mm_sub_c rfl (mm_sub_c rfl (mm_sub_c rfl (mm_sub_c rfl mm_sub_n)))) (t26_279 (k19 := k19) hk19 ma hd h)
def q26_278 (k19 : Int32 → Int32 → Int32 → mS → Option mQ) (a : Nat) (v1 : Int32) (v2 : Int32) (v3 : Int32) (y1 : Int32) (y2 : Int32) (s : mS) : Option mQ := gA 40 y1 <| sp (sI s (a + 6) y1.toNatClampNeg y2) fun s3 => q26_279 k19 a v1 v2 v3 s3
theorem t26_278 {L : Nat} {xs : Nat → Int32} {d : Nat} {k19 : Int32 → Int32 → Int32 → mS → Option mQ} {a : Nat} (hk19 : ∀ (v1 : Int32) (v2 : Int32) (v3 : Int32) (s : mS) (r : mQ), k19 v1 v2 v3 s = some r → Ev L xs d 26 19 [(0, .ref a), (1, .int v1), (2, .int v2), (3, .int v3)] [] (hp s) (hr r)) (ma : a ∈ A2) (hd : 0 ≤ d) {v1 : Int32} {v2 : Int32} {v3 : Int32} {y1 : Int32} {y2 : Int32} {s : mS} {r : mQ} (h : q26_278 k19 a v1 v2 v3 y1 y2 s = some r) : Ev L xs d 26 278 [(0, .ref a), (1, .int v1), (2, .int v2), (3, .int v3)] [.int y2, .int y1, .ref (a + 6)] (hp s) (hr r) := by
  unfold q26_278 at h
  refine Rd.iastore H26 i26_278 (ar2_6 ma) h (fun s3 h => ?_)
  exact Ev.sub (l := [(0, .ref a), (1, .int v1), (2, .int v2), (3, .int v3)]) rfl rfl (mm_sub_c rfl (mm_sub_c rfl (mm_sub_c rfl (mm_sub_c rfl mm_sub_n)))) (t26_279 (k19 := k19) hk19 ma hd h)
def q26_121 (k19 : Int32 → Int32 → Int32 → mS → Option mQ) (a : Nat) (v1 : Int32) (v2 : Int32) (v3 : Int32) (v4 : Int32) (s : mS) : Option mQ := if v4 ≤ (2000 : Int32) then (q26_279 k19 a v1 v2 v3 s) else (if v2 < (2 : Int32) then (q26_279 k19 a v1 v2 v3 s) else (bx (v2 + (-1 : Int32)) fun x4 => gA 40 (x4 - (1 : Int32)) <| bx (s.1 (a + 6) (x4 - (1 : Int32)).toNatClampNeg) fun x5 => gA 40 x4 <| bx (s.1 (a + 6) x4.toNatClampNeg) fun x6 => if v4 = (2001 : Int32) then (gA 40 (x4 - (1 : Int32)) <| sp (sI s (a + 6) (x4 - (1 : Int32)).toNatClampNeg (x5 &&& x6)) fun s7 => q26_279 k19 a v1 x4 v3 s7) else if v4 = (2002 : Int32) then (gA 40 (x4 - (1 : Int32)) <| sp (sI s (a + 6) (x4 - (1 : Int32)).toNatClampNeg (x5 ||| x6)) fun s8 => q26_279 k19 a v1 x4 v3 s8) else if v4 = (2003 : Int32) then (gA 40 (x4 - (1 : Int32)) <| sp (sI s (a + 6) (x4 - (1 : Int32)).toNatClampNeg (x5 + x6)) fun s9 => q26_279 k19 a v1 x4 v3 s9) else if v4 = (2004 : Int32) then (if x6 ≤ x5 then (q26_255 k19 a v1 x4 v3 (x4 - (1 : Int32)) (0 : Int32) s) else (q26_255 k19 a v1 x4 v3 (x4 - (1 : Int32)) (1 : Int32) s)) else (if x5 ≤ x6 then (q26_278 k19 a v1 x4 v3 (x4 - (1 : Int32)) (0 : Int32) s) else (q26_278 k19 a v1 x4 v3 (x4 - (1 : Int32)) (1 : Int32) s))))
theorem t26_121 {L : Nat} {xs : Nat → Int32} {d : Nat} {k19 : Int32 → Int32 → Int32 → mS → Option mQ} {a : Nat} (hk19 : ∀ (v1 : Int32) (v2 : Int32) (v3 : Int32) (s : mS) (r : mQ), k19 v1 v2 v3 s = some r → Ev L xs d 26 19 [(0, .ref a), (1, .int v1), (2, .int v2), (3, .int v3)] [] (hp s) (hr r)) (ma : a ∈ A2) (hd : 0 ≤ d) {v1 : Int32} {v2 : Int32} {v3 : Int32} {v4 : Int32} {s : mS} {r : mQ} (h : q26_121 k19 a v1 v2 v3 v4 s = some r) : Ev L xs d 26 121 [(0, .ref a), (1, .int v1), (2, .int v2), (3, .int v3), (4, .int v4)] [] (hp s) (hr r) := by
  unfold q26_121 at h
  refine Ev.iload H26 i26_121 rfl ?_
  refine Ev.sipush H26 i26_123 kS_2000 ?_
  refine Rd.ic_le H26 i26_126 (t := 279) (by decide) h (fun hc h => ?_) (fun hc h => ?_)
  · exact Ev.sub (l := [(0, .ref a), (1, .int v1), (2, .int v2), (3, .int v3)]) rfl rfl (mm_sub_c rfl (mm_sub_c rfl (mm_sub_c rfl (mm_sub_c rfl mm_sub_n)))) (t26_279 (k19 := k19) hk19 ma hd h)
  · refine Ev.iload_n H26 i26_129 rfl ?_
    refine Ev.iconst H26 i26_130 kI_2 ?_
    refine Rd.ic_lt H26 i26_131 (t := 279) (by decide) h (fun hc h => ?_) (fun hc h => ?_)
    · exact Ev.sub (l := [(0, .ref a), (1, .int v1), (2, .int v2), (3, .int v3)]) rfl rfl (mm_sub_c rfl (mm_sub_c rfl (mm_sub_c rfl (mm_sub_c rfl mm_sub_n)))) (t26_279 (k19 := k19) hk19 ma hd h)
    · refine Rd.iinc H26 i26_134 (Nat.le_of_ble_eq_true rfl) rfl kI_m1 (lv2 := fun x4 => [(2, .int x4), (0, .ref a), (1, .int v1), (3, .int v3), (4, .int v4)]) (fun _ => rfl) h (fun x4 h => ?_)
      refine Ev.aload_n H26 i26_137 rfl ?_
      refine Rd.getR H26 i26_138 (ob2 ma) rfl ?_
      refine Ev.iload_n H26 i26_141 rfl ?_
      refine Ev.iconst H26 i26_142 kI_1 ?_
      refine Ev.isub H26 i26_143 ?_
      refine Rd.iaload H26 i26_144 (ar2_6 ma) h (fun h => ?_)
      refine Rd.istore H26 i26_145 (Nat.le_of_ble_eq_true rfl) (lv2 := fun x5 => [(5, .int x5), (2, .int x4), (0, .ref a), (1, .int v1), (3, .int v3), (4, .int v4)]) (fun _ => rfl) h (fun x5 h => ?_)
      refine Ev.aload_n H26 i26_147 rfl ?_
      refine Rd.getR H26 i26_148 (ob2 ma) rfl ?_
      refine Ev.iload_n H26 i26_151 rfl ?_
      refine Rd.iaload H26 i26_152 (ar2_6 ma) h (fun h => ?_)
      refine Rd.istore H26 i26_153 (Nat.le_of_ble_eq_true rfl) (lv2 := fun x6 => [(6, .int x6), (5, .int x5), (2, .int x4), (0, .ref a), (1, .int v1), (3, .int v3), (4, .int v4)]) (fun _ => rfl) h (fun x6 h => ?_)
      refine Ev.iload H26 i26_155 rfl ?_
      refine Rd.sw h (fun hc h => ?_) (fun hc0 h => ?_)
      · refine Rd.tsw H26 i26_157 (t := 188) (by rw [hc]; decide) ?_
        refine Ev.aload_n H26 i26_188 rfl ?_
        refine Rd.getR H26 i26_189 (ob2 ma) rfl ?_
        refine Ev.iload_n H26 i26_192 rfl ?_
        refine Ev.iconst H26 i26_193 kI_1 ?_
        refine Ev.isub H26 i26_194 ?_
        refine Ev.iload H26 i26_195 rfl ?_
        refine Ev.iload H26 i26_197 rfl ?_
        refine Ev.iand H26 i26_199 ?_
        refine Rd.iastore H26 i26_200 (ar2_6 ma) h (fun s7 h => ?_)
        refine Ev.goto H26 i26_201 (t := 279) (by decide) ?_
        exact Ev.sub (l := [(0, .ref a), (1, .int v1), (2, .int x4), (3, .int v3)]) rfl rfl (mm_sub_c rfl (mm_sub_c rfl (mm_sub_c rfl (mm_sub_c rfl mm_sub_n)))) (t26_279 (k19 := k19) hk19 ma hd h)
      refine Rd.sw h (fun hc h => ?_) (fun hc1 h => ?_)
      · refine Rd.tsw H26 i26_157 (t := 204) (by rw [hc]; decide) ?_
        refine Ev.aload_n H26 i26_204 rfl ?_
        refine Rd.getR H26 i26_205 (ob2 ma) rfl ?_
        refine Ev.iload_n H26 i26_208 rfl ?_
        refine Ev.iconst H26 i26_209 kI_1 ?_
        refine Ev.isub H26 i26_210 ?_
        refine Ev.iload H26 i26_211 rfl ?_
        refine Ev.iload H26 i26_213 rfl ?_
        refine Ev.ior H26 i26_215 ?_
        refine Rd.iastore H26 i26_216 (ar2_6 ma) h (fun s8 h => ?_)
        refine Ev.goto H26 i26_217 (t := 279) (by decide) ?_
        exact Ev.sub (l := [(0, .ref a), (1, .int v1), (2, .int x4), (3, .int v3)]) rfl rfl (mm_sub_c rfl (mm_sub_c rfl (mm_sub_c rfl (mm_sub_c rfl mm_sub_n)))) (t26_279 (k19 := k19) hk19 ma hd h)
      refine Rd.sw h (fun hc h => ?_) (fun hc2 h => ?_)
      · refine Rd.tsw H26 i26_157 (t := 220) (by rw [hc]; decide) ?_
        refine Ev.aload_n H26 i26_220 rfl ?_
        refine Rd.getR H26 i26_221 (ob2 ma) rfl ?_
        refine Ev.iload_n H26 i26_224 rfl ?_
        refine Ev.iconst H26 i26_225 kI_1 ?_
        refine Ev.isub H26 i26_226 ?_
        refine Ev.iload H26 i26_227 rfl ?_
        refine Ev.iload H26 i26_229 rfl ?_
        refine Ev.iadd H26 i26_231 ?_
        refine Rd.iastore H26 i26_232 (ar2_6 ma) h (fun s9 h => ?_)
        refine Ev.goto H26 i26_233 (t := 279) (by decide) ?_
        exact Ev.sub (l := [(0, .ref a), (1, .int v1), (2, .int x4), (3, .int v3)]) rfl rfl (mm_sub_c rfl (mm_sub_c rfl (mm_sub_c rfl (mm_sub_c rfl mm_sub_n)))) (t26_279 (k19 := k19) hk19 ma hd h)
      refine Rd.sw h (fun hc h => ?_) (fun hc3 h => ?_)
      · refine Rd.tsw H26 i26_157 (t := 236) (by rw [hc]; decide) ?_
        refine Ev.aload_n H26 i26_236 rfl ?_
        refine Rd.getR H26 i26_237 (ob2 ma) rfl ?_
        refine Ev.iload_n H26 i26_240 rfl ?_
        refine Ev.iconst H26 i26_241 kI_1 ?_
        refine Ev.isub H26 i26_242 ?_
        refine Ev.iload H26 i26_243 rfl ?_
        refine Ev.iload H26 i26_245 rfl ?_
        refine Rd.ic_ge H26 i26_247 (t := 254) (by decide) h (fun hc h => ?_) (fun hc h => ?_)
        · refine Ev.iconst H26 i26_254 kI_0 ?_
          exact Ev.sub (l := [(0, .ref a), (1, .int v1), (2, .int x4), (3, .int v3)]) rfl rfl (mm_sub_c rfl (mm_sub_c rfl (mm_sub_c rfl (mm_sub_c rfl mm_sub_n)))) (t26_255 (k19 := k19) hk19 ma hd h)
        · refine Ev.iconst H26 i26_250 kI_1 ?_
          refine Ev.goto H26 i26_251 (t := 255) (by decide) ?_
          exact Ev.sub (l := [(0, .ref a), (1, .int v1), (2, .int x4), (3, .int v3)]) rfl rfl (mm_sub_c rfl (mm_sub_c rfl (mm_sub_c rfl (mm_sub_c rfl mm_sub_n)))) (t26_255 (k19 := k19) hk19 ma hd h)
      have hsw : ∀ k : Nat, k < 4 → ¬ v4 = Int32.ofInt (2001 + k) := fun k hk => match k, hk with
        | 0, _ => hc0
        | 1, _ => hc1
        | 2, _ => hc2
        | 3, _ => hc3
        | k + 4, hk => absurd hk (by omega)
      have hsq : v4.toInt < 2001 ∨ 2004 < v4.toInt := by have hq := mm_sw hsw; omega
      refine Rd.tsw H26 i26_157 (t := 259) (by rw [if_pos hsq]; decide) ?_
      refine Ev.aload_n H26 i26_259 rfl ?_
      refine Rd.getR H26 i26_260 (ob2 ma) rfl ?_
      refine Ev.iload_n H26 i26_263 rfl ?_
      refine Ev.iconst H26 i26_264 kI_1 ?_
      refine Ev.isub H26 i26_265 ?_
      refine Ev.iload H26 i26_266 rfl ?_
      refine Ev.iload H26 i26_268 rfl ?_
      refine Rd.ic_le H26 i26_270 (t := 277) (by decide) h (fun hc h => ?_) (fun hc h => ?_)
      · refine Ev.iconst H26 i26_277 kI_0 ?_
        exact Ev.sub (l := [(0, .ref a), (1, .int v1), (2, .int x4), (3, .int v3)]) rfl rfl (mm_sub_c rfl (mm_sub_c rfl (mm_sub_c rfl (mm_sub_c rfl mm_sub_n)))) (t26_278 (k19 := k19) hk19 ma hd h)
      · refine Ev.iconst H26 i26_273 kI_1 ?_
        refine Ev.goto H26 i26_274 (t := 278) (by decide) ?_
        exact Ev.sub (l := [(0, .ref a), (1, .int v1), (2, .int x4), (3, .int v3)]) rfl rfl (mm_sub_c rfl (mm_sub_c rfl (mm_sub_c rfl (mm_sub_c rfl mm_sub_n)))) (t26_278 (k19 := k19) hk19 ma hd h)
def q26_87 (k19 : Int32 → Int32 → Int32 → mS → Option mQ) (a : Nat) (v1 : Int32) (v2 : Int32) (v3 : Int32) (v4 : Int32) (s : mS) : Option mQ := if ¬ v4 = (2000 : Int32) then (q26_121 k19 a v1 v2 v3 v4 s) else (if v2 < (1 : Int32) then (q26_121 k19 a v1 v2 v3 v4 s) else (gA 40 (v2 - (1 : Int32)) <| gA 40 (v2 - (1 : Int32)) <| sp (sI s (a + 6) (v2 - (1 : Int32)).toNatClampNeg ((1 : Int32) - (s.1 (a + 6) (v2 - (1 : Int32)).toNatClampNeg))) fun s10 => q26_279 k19 a v1 v2 v3 s10))
theorem t26_87 {L : Nat} {xs : Nat → Int32} {d : Nat} {k19 : Int32 → Int32 → Int32 → mS → Option mQ} {a : Nat} (hk19 : ∀ (v1 : Int32) (v2 : Int32) (v3 : Int32) (s : mS) (r : mQ), k19 v1 v2 v3 s = some r → Ev L xs d 26 19 [(0, .ref a), (1, .int v1), (2, .int v2), (3, .int v3)] [] (hp s) (hr r)) (ma : a ∈ A2) (hd : 0 ≤ d) {v1 : Int32} {v2 : Int32} {v3 : Int32} {v4 : Int32} {s : mS} {r : mQ} (h : q26_87 k19 a v1 v2 v3 v4 s = some r) : Ev L xs d 26 87 [(0, .ref a), (1, .int v1), (2, .int v2), (3, .int v3), (4, .int v4)] [] (hp s) (hr r) := by
  unfold q26_87 at h
  refine Ev.iload H26 i26_87 rfl ?_
  refine Ev.sipush H26 i26_89 kS_2000 ?_
  refine Rd.ic_ne H26 i26_92 (t := 121) (by decide) h (fun hc h => ?_) (fun hc h => ?_)
  · exact Ev.sub (l := [(0, .ref a), (1, .int v1), (2, .int v2), (3, .int v3), (4, .int v4)]) rfl rfl (mm_sub_c rfl (mm_sub_c rfl (mm_sub_c rfl (mm_sub_c rfl (mm_sub_c rfl mm_sub_n))))) (t26_121 (k19 := k19) hk19 ma hd h)
  · refine Ev.iload_n H26 i26_95 rfl ?_
    refine Ev.iconst H26 i26_96 kI_1 ?_
    refine Rd.ic_lt H26 i26_97 (t := 121) (by decide) h (fun hc h => ?_) (fun hc h => ?_)
    · exact Ev.sub (l := [(0, .ref a), (1, .int v1), (2, .int v2), (3, .int v3), (4, .int v4)]) rfl rfl (mm_sub_c rfl (mm_sub_c rfl (mm_sub_c rfl (mm_sub_c rfl (mm_sub_c rfl mm_sub_n))))) (t26_121 (k19 := k19) hk19 ma hd h)
    · refine Ev.aload_n H26 i26_100 rfl ?_
      refine Rd.getR H26 i26_101 (ob2 ma) rfl ?_
      refine Ev.iload_n H26 i26_104 rfl ?_
      refine Ev.iconst H26 i26_105 kI_1 ?_
      refine Ev.isub H26 i26_106 ?_
      refine Ev.iconst H26 i26_107 kI_1 ?_
      refine Ev.aload_n H26 i26_108 rfl ?_
      refine Rd.getR H26 i26_109 (ob2 ma) rfl ?_
      refine Ev.iload_n H26 i26_112 rfl ?_
      refine Ev.iconst H26 i26_113 kI_1 ?_
      refine Ev.isub H26 i26_114 ?_
      refine Rd.iaload H26 i26_115 (ar2_6 ma) h (fun h => ?_)
      refine Ev.isub H26 i26_116 ?_
      refine Rd.iastore H26 i26_117 (ar2_6 ma) h (fun s10 h => ?_)
      refine Ev.goto H26 i26_118 (t := 279) (by decide) ?_
      exact Ev.sub (l := [(0, .ref a), (1, .int v1), (2, .int v2), (3, .int v3)]) rfl rfl (mm_sub_c rfl (mm_sub_c rfl (mm_sub_c rfl (mm_sub_c rfl mm_sub_n)))) (t26_279 (k19 := k19) hk19 ma hd h)
def q26_80 (k19 : Int32 → Int32 → Int32 → mS → Option mQ) (a : Nat) (v1 : Int32) (v2 : Int32) (v3 : Int32) (y1 : Int32) (y2 : Int32) (s : mS) : Option mQ := gA 40 y1 <| sp (sI s (a + 6) y1.toNatClampNeg y2) fun s11 => bx (v2 + (1 : Int32)) fun x12 => q26_279 k19 a v1 x12 v3 s11
theorem t26_80 {L : Nat} {xs : Nat → Int32} {d : Nat} {k19 : Int32 → Int32 → Int32 → mS → Option mQ} {a : Nat} (hk19 : ∀ (v1 : Int32) (v2 : Int32) (v3 : Int32) (s : mS) (r : mQ), k19 v1 v2 v3 s = some r → Ev L xs d 26 19 [(0, .ref a), (1, .int v1), (2, .int v2), (3, .int v3)] [] (hp s) (hr r)) (ma : a ∈ A2) (hd : 0 ≤ d) {v1 : Int32} {v2 : Int32} {v3 : Int32} {y1 : Int32} {y2 : Int32} {s : mS} {r : mQ} (h : q26_80 k19 a v1 v2 v3 y1 y2 s = some r) : Ev L xs d 26 80 [(0, .ref a), (1, .int v1), (2, .int v2), (3, .int v3)] [.int y2, .int y1, .ref (a + 6)] (hp s) (hr r) := by
  unfold q26_80 at h
  refine Rd.iastore H26 i26_80 (ar2_6 ma) h (fun s11 h => ?_)
  refine Rd.iinc H26 i26_81 (Nat.le_of_ble_eq_true rfl) rfl kI_1 (lv2 := fun x12 => [(2, .int x12), (0, .ref a), (1, .int v1), (3, .int v3)]) (fun _ => rfl) h (fun x12 h => ?_)
  refine Ev.goto H26 i26_84 (t := 279) (by decide) ?_
  exact Ev.sub (l := [(0, .ref a), (1, .int v1), (2, .int x12), (3, .int v3)]) rfl rfl (mm_sub_c rfl (mm_sub_c rfl (mm_sub_c rfl (mm_sub_c rfl mm_sub_n)))) (t26_279 (k19 := k19) hk19 ma hd h)
def q26_19 (k285 : Int32 → mS → Option mQ) (a : Nat) : Nat → Int32 → Int32 → Int32 → mS → Option mQ
  | 0, _, _, _, _ => none
  | n + 1, v1, v2, v3, s => gA 12 v1 <| if (s.1 (a + 3) v1.toNatClampNeg) ≤ v3 then (k285 v2 s) else (gA 400 v3 <| bx (s.1 (a + 4) v3.toNatClampNeg) fun x13 => if (1010 : Int32) ≤ x13 then (q26_87 (q26_19 k285 a n) a v1 v2 v3 x13 s) else (if (40 : Int32) ≤ v2 then (q26_87 (q26_19 k285 a n) a v1 v2 v3 x13 s) else (if (1000 : Int32) ≤ x13 then (gA 10 (x13 - (1000 : Int32)) <| q26_80 (q26_19 k285 a n) a v1 v2 v3 v2 (s.1 (a + 5) (x13 - (1000 : Int32)).toNatClampNeg) s) else (q26_80 (q26_19 k285 a n) a v1 v2 v3 v2 x13 s))))
theorem t26_19 {L : Nat} {xs : Nat → Int32} {d : Nat} {k285 : Int32 → mS → Option mQ} {a : Nat} (hk285 : ∀ (v2 : Int32) (s : mS) (r : mQ), k285 v2 s = some r → Ev L xs d 26 285 [(0, .ref a), (2, .int v2)] [] (hp s) (hr r)) (ma : a ∈ A2) (hd : 0 ≤ d) : ∀ (n : Nat) (v1 : Int32) (v2 : Int32) (v3 : Int32) (s : mS) (r : mQ), q26_19 k285 a n v1 v2 v3 s = some r → Ev L xs d 26 19 [(0, .ref a), (1, .int v1), (2, .int v2), (3, .int v3)] [] (hp s) (hr r) := by
  intro n
  induction n with
  | zero => intro v1 v2 v3 s r h; rw [q26_19] at h; cases h
  | succ n ih =>
    intro v1 v2 v3 s r h
    rw [q26_19] at h
    refine Ev.iload_n H26 i26_19 rfl ?_
    refine Ev.aload_n H26 i26_20 rfl ?_
    refine Rd.getR H26 i26_21 (ob2 ma) rfl ?_
    refine Ev.iload_n H26 i26_24 rfl ?_
    refine Rd.iaload H26 i26_25 (ar2_3 ma) h (fun h => ?_)
    refine Rd.ic_ge H26 i26_26 (t := 285) (by decide) h (fun hc h => ?_) (fun hc h => ?_)
    · exact Ev.sub (l := [(0, .ref a), (2, .int v2)]) rfl rfl (mm_sub_c rfl (mm_sub_c rfl mm_sub_n)) (hk285 _ _ _ h)
    · refine Ev.aload_n H26 i26_29 rfl ?_
      refine Rd.getR H26 i26_30 (ob2 ma) rfl ?_
      refine Ev.iload_n H26 i26_33 rfl ?_
      refine Rd.iaload H26 i26_34 (ar2_4 ma) h (fun h => ?_)
      refine Rd.istore H26 i26_35 (Nat.le_of_ble_eq_true rfl) (lv2 := fun x13 => [(4, .int x13), (0, .ref a), (1, .int v1), (2, .int v2), (3, .int v3)]) (fun _ => rfl) h (fun x13 h => ?_)
      refine Ev.iload H26 i26_37 rfl ?_
      refine Ev.sipush H26 i26_39 kS_1010 ?_
      refine Rd.ic_ge H26 i26_42 (t := 87) (by decide) h (fun hc h => ?_) (fun hc h => ?_)
      · exact Ev.sub (l := [(0, .ref a), (1, .int v1), (2, .int v2), (3, .int v3), (4, .int x13)]) rfl rfl (mm_sub_c rfl (mm_sub_c rfl (mm_sub_c rfl (mm_sub_c rfl (mm_sub_c rfl mm_sub_n))))) (t26_87 (k19 := (q26_19 k285 a n)) (fun _ _ _ _ _ h => ih _ _ _ _ _ h) ma hd h)
      · refine Ev.iload_n H26 i26_45 rfl ?_
        refine Ev.bipush H26 i26_46 kB_40 ?_
        refine Rd.ic_ge H26 i26_48 (t := 87) (by decide) h (fun hc h => ?_) (fun hc h => ?_)
        · exact Ev.sub (l := [(0, .ref a), (1, .int v1), (2, .int v2), (3, .int v3), (4, .int x13)]) rfl rfl (mm_sub_c rfl (mm_sub_c rfl (mm_sub_c rfl (mm_sub_c rfl (mm_sub_c rfl mm_sub_n))))) (t26_87 (k19 := (q26_19 k285 a n)) (fun _ _ _ _ _ h => ih _ _ _ _ _ h) ma hd h)
        · refine Ev.aload_n H26 i26_51 rfl ?_
          refine Rd.getR H26 i26_52 (ob2 ma) rfl ?_
          refine Ev.iload_n H26 i26_55 rfl ?_
          refine Ev.iload H26 i26_56 rfl ?_
          refine Ev.sipush H26 i26_58 kS_1000 ?_
          refine Rd.ic_ge H26 i26_61 (t := 69) (by decide) h (fun hc h => ?_) (fun hc h => ?_)
          · refine Ev.aload_n H26 i26_69 rfl ?_
            refine Rd.getR H26 i26_70 (ob2 ma) rfl ?_
            refine Ev.iload H26 i26_73 rfl ?_
            refine Ev.sipush H26 i26_75 kS_1000 ?_
            refine Ev.isub H26 i26_78 ?_
            refine Rd.iaload H26 i26_79 (ar2_5 ma) h (fun h => ?_)
            exact Ev.sub (l := [(0, .ref a), (1, .int v1), (2, .int v2), (3, .int v3)]) rfl rfl (mm_sub_c rfl (mm_sub_c rfl (mm_sub_c rfl (mm_sub_c rfl mm_sub_n)))) (t26_80 (k19 := (q26_19 k285 a n)) (fun _ _ _ _ _ h => ih _ _ _ _ _ h) ma hd h)
          · refine Ev.iload H26 i26_64 rfl ?_
            refine Ev.goto H26 i26_66 (t := 80) (by decide) ?_
            exact Ev.sub (l := [(0, .ref a), (1, .int v1), (2, .int v2), (3, .int v3)]) rfl rfl (mm_sub_c rfl (mm_sub_c rfl (mm_sub_c rfl (mm_sub_c rfl mm_sub_n)))) (t26_80 (k19 := (q26_19 k285 a n)) (fun _ _ _ _ _ h => ih _ _ _ _ _ h) ma hd h)
def q26_298 (a : Nat) (s : mS) : Option mQ := rv (1 : Int32) s
theorem t26_298 {L : Nat} {xs : Nat → Int32} {d : Nat} {a : Nat} (ma : a ∈ A2) (hd : 0 ≤ d) {s : mS} {r : mQ} (h : q26_298 a s = some r) : Ev L xs d 26 298 [] [] (hp s) (hr r) := by
  unfold q26_298 at h
  refine Ev.iconst H26 i26_298 kI_1 ?_
  refine Ev.goto H26 i26_299 (t := 303) (by decide) ?_
  exact Rd.ireturnK H26 i26_303 rfl (Or.inr rfl) h
def q26_285 (a : Nat) (v2 : Int32) (s : mS) : Option mQ := if v2 = 0 then (q26_298 a s) else (gA 40 (0 : Int32) <| if (s.1 (a + 6) (0 : Int32).toNatClampNeg) = 0 then (rv (0 : Int32) s) else (q26_298 a s))
theorem t26_285 {L : Nat} {xs : Nat → Int32} {d : Nat} {a : Nat} (ma : a ∈ A2) (hd : 0 ≤ d) {v2 : Int32} {s : mS} {r : mQ} (h : q26_285 a v2 s = some r) : Ev L xs d 26 285 [(0, .ref a), (2, .int v2)] [] (hp s) (hr r) := by
  unfold q26_285 at h
  refine Ev.iload_n H26 i26_285 rfl ?_
  refine Rd.if_eq H26 i26_286 (t := 298) (by decide) h (fun hc h => ?_) (fun hc h => ?_)
  · exact Ev.sub (l := []) rfl rfl mm_sub_n (t26_298 ma hd h)
  · refine Ev.aload_n H26 i26_289 rfl ?_
    refine Rd.getR H26 i26_290 (ob2 ma) rfl ?_
    refine Ev.iconst H26 i26_293 kI_0 ?_
    refine Rd.iaload H26 i26_294 (ar2_6 ma) h (fun h => ?_)
    refine Rd.if_eq H26 i26_295 (t := 302) (by decide) h (fun hc h => ?_) (fun hc h => ?_)
    · refine Ev.iconst H26 i26_302 kI_0 ?_
      exact Rd.ireturnK H26 i26_303 rfl (Or.inl rfl) h
    · exact Ev.sub (l := []) rfl rfl mm_sub_n (t26_298 ma hd h)
def q26_18 (a : Nat) (v1 : Int32) (v2 : Int32) (y0 : Int32) (s : mS) : Option mQ := q26_19 (q26_285 a) a 10000 v1 v2 y0 s
theorem t26_18 {L : Nat} {xs : Nat → Int32} {d : Nat} {a : Nat} (ma : a ∈ A2) (hd : 0 ≤ d) {v1 : Int32} {v2 : Int32} {y0 : Int32} {s : mS} {r : mQ} (h : q26_18 a v1 v2 y0 s = some r) : Ev L xs d 26 18 [(0, .ref a), (1, .int v1), (2, .int v2)] [.int y0] (hp s) (hr r) := by
  unfold q26_18 at h
  refine Ev.istore_n H26 i26_18 (Nat.le_of_ble_eq_true rfl) (lv2 := [(3, .int y0), (0, .ref a), (1, .int v1), (2, .int v2)]) rfl ?_
  exact Ev.sub (l := [(0, .ref a), (1, .int v1), (2, .int v2), (3, .int y0)]) rfl rfl (mm_sub_c rfl (mm_sub_c rfl (mm_sub_c rfl (mm_sub_c rfl mm_sub_n)))) (t26_19 (k285 := (q26_285 a)) (fun _ _ _ h => t26_285 ma hd h) ma hd 10000 _ _ _ _ _ h)
/-- SerialGate$Law.holds(I)Z -/
def q26 (a : Nat) (v1 : Int32) (s : mS) : Option mQ := if ¬ v1 = 0 then (gA 12 (v1 - (1 : Int32)) <| q26_18 a v1 (0 : Int32) (s.1 (a + 3) (v1 - (1 : Int32)).toNatClampNeg) s) else (q26_18 a v1 (0 : Int32) (0 : Int32) s)
theorem c26 {L : Nat} {xs : Nat → Int32} {a : Nat} (ma : a ∈ A2) {v1 : Int32} {s : mS} {r : mQ} (h : q26 a v1 s = some r) : ∀ d, 0 ≤ d → Cl L xs d 26 [.ref a, .int v1] (hp s) (hr r) := by
  intro d hd
  show Ev L xs d 26 0 [(0, .ref a), (1, .int v1)] [] (hp s) (hr r)
  unfold q26 at h
  refine Ev.iconst H26 i26_0 kI_0 ?_
  refine Ev.istore_n H26 i26_1 (Nat.le_of_ble_eq_true rfl) (lv2 := [(2, .int (0 : Int32)), (0, .ref a), (1, .int v1)]) rfl ?_
  refine Ev.iload_n H26 i26_2 rfl ?_
  refine Rd.if_ne H26 i26_3 (t := 10) (by decide) h (fun hc h => ?_) (fun hc h => ?_)
  · refine Ev.aload_n H26 i26_10 rfl ?_
    refine Rd.getR H26 i26_11 (ob2 ma) rfl ?_
    refine Ev.iload_n H26 i26_14 rfl ?_
    refine Ev.iconst H26 i26_15 kI_1 ?_
    refine Ev.isub H26 i26_16 ?_
    refine Rd.iaload H26 i26_17 (ar2_3 ma) h (fun h => ?_)
    exact Ev.sub (l := [(0, .ref a), (1, .int v1), (2, .int (0 : Int32))]) rfl rfl (mm_sub_c rfl (mm_sub_c rfl (mm_sub_c rfl mm_sub_n))) (t26_18 ma hd h)
  · refine Ev.iconst H26 i26_6 kI_0 ?_
    refine Ev.goto H26 i26_7 (t := 18) (by decide) ?_
    exact Ev.sub (l := [(0, .ref a), (1, .int v1), (2, .int (0 : Int32))]) rfl rfl (mm_sub_c rfl (mm_sub_c rfl (mm_sub_c rfl mm_sub_n))) (t26_18 ma hd h)
